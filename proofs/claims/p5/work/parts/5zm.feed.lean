def ysr (a s : Int) : Int := (zI a >>> (zI s &&& 31)).toInt
theorem ysr_0 {a : Int} (h : -2147483648 ≤ a ∧ a ≤ 2147483647) : ysr a 0 = a := by
  have e : (zI 0 &&& 31) = 0 := by decide +kernel
  unfold ysr
  rw [e]
  have q : zI a >>> (0 : Int32) = zI a := by
    apply Int32.toBitVec_inj.mp
    simp
  rw [q]
  exact zI_t h.1 h.2
theorem ybm {z : Int32} : (z &&& 255).toInt = z.toInt % 256 := by
  have h1 : (z &&& 255).toBitVec = z.toBitVec &&& 255#32 := rfl
  have h2 : (z.toBitVec &&& 255#32).toNat = z.toBitVec.toNat % 256 := by
    rw [BitVec.toNat_and]
    exact Nat.and_two_pow_sub_one_eq_mod _ 8
  have h3 : (z &&& 255).toInt = ((z.toBitVec &&& 255#32).toNat : Int) := by
    show (z &&& 255).toBitVec.toInt = _
    rw [h1, BitVec.toInt_eq_toNat_cond]
    rw [if_pos (by omega)]
  have h4 : z.toInt = z.toBitVec.toInt := rfl
  rw [h3, h2, h4, BitVec.toInt_eq_toNat_cond]
  have b := z.toBitVec.isLt
  split <;> omega
theorem yb8 {z : Int32} : z.toInt8.toInt % 256 = z.toInt % 256 := by
  rw [Int32.toInt_toInt8, Int.bmod_def]
  split <;> omega
theorem yand_m {x r : Int} (h : r = (zI x &&& zI 255).toInt) (b : -2147483648 ≤ x ∧ x ≤ 2147483647) : r = x % 256 := by
  have e : zI 255 = 255 := by decide +kernel
  rw [h, e, ybm, zI_t b.1 b.2]
theorem yi2b {x r : Int} (h : r = (zI x).toInt8.toInt) (b : -2147483648 ≤ x ∧ x ≤ 2147483647) : r % 256 = x % 256 := by
  rw [h, yb8, zI_t b.1 b.2]
def yBk (s s1 : zSto) (a : Int) : Prop := s1 1 1 = s 1 1 + 4 ∧ (∀ j : Nat, (j : Int) < s 1 1 → s1 2 j = s 2 j) ∧ ∀ i : Nat, i < 4 → s1 2 ((s 1 1).toNat + i) % 256 = ysr a (8 * (3 - i)) % 256
def yB1 (s s1 : zSto) (v : Int) : Prop := s1 1 1 = s 1 1 + 1 ∧ (∀ j : Nat, (j : Int) < s 1 1 → s1 2 j = s 2 j) ∧ s1 2 (s 1 1).toNat % 256 = v % 256
theorem yB1_of {s t s1 : zSto} {j : Nat} {v x u : Int} (e1 : zset s 2 j v = t) (e2 : zset t 1 1 u = s1) (hj : j = (s 1 1).toNat) (h0 : 0 ≤ s 1 1) (hv : v % 256 = x % 256) (hu : u = s 1 1 + 1) : yB1 s s1 x := by
  have r : s1 2 = t 2 := by rw [← e2]; exact funext (fun j => zset_k (by decide))
  refine ⟨by rw [← e2, ← hu]; exact zset_s, fun i hi => ?_, ?_⟩
  · rw [r, ← e1]; exact zset_j (by omega)
  · rw [r, ← hj, ← e1, zset_s]; exact hv
theorem yBk_of {s s1 s2 s3 s4 : zSto} {a : Int} (h0 : 0 ≤ s 1 1) (ha : -2147483648 ≤ a ∧ a ≤ 2147483647) (b1 : yB1 s s1 (ysr a 24)) (b2 : yB1 s1 s2 (ysr a 16)) (b3 : yB1 s2 s3 (ysr a 8)) (b4 : yB1 s3 s4 a) : yBk s s4 a := by
  obtain ⟨l1, k1, v1⟩ := b1
  obtain ⟨l2, k2, v2⟩ := b2
  obtain ⟨l3, k3, v3⟩ := b3
  obtain ⟨l4, k4, v4⟩ := b4
  refine ⟨by omega, fun j hj => ?_, fun i hi => ?_⟩
  · rw [k4 j (by omega), k3 j (by omega), k2 j (by omega), k1 j hj]
  · rcases (show i = 0 ∨ i = 1 ∨ i = 2 ∨ i = 3 by omega) with e | e | e | e
    · rw [e, k4 _ (by omega), k3 _ (by omega), k2 _ (by omega), show (s 1 1).toNat + 0 = (s 1 1).toNat by omega]; exact v1
    · rw [e, k4 _ (by omega), k3 _ (by omega), show (s 1 1).toNat + 1 = (s1 1 1).toNat by omega]; exact v2
    · rw [e, k4 _ (by omega), show (s 1 1).toNat + 2 = (s2 1 1).toNat by omega]; exact v3
    · rw [e, show (s 1 1).toNat + 3 = (s3 1 1).toNat by omega, v4]
      show _ = ysr a 0 % 256
      rw [ysr_0 ha]
def yfd (a b c d e : Int) (i : Nat) : Int := ysr (if i < 4 then a else if i < 8 then b else if i < 12 then c else if i < 16 then d else e) (8 * (3 - (i % 4 : Nat))) % 256
theorem yfd_of {s0 s1 s2 s3 s4 s5 : zSto} {a b c d e : Int} (h0 : 0 ≤ s0 1 1) (b1 : yBk s0 s1 a) (b2 : yBk s1 s2 b) (b3 : yBk s2 s3 c) (b4 : yBk s3 s4 d) (b5 : yBk s4 s5 e) : (∀ j : Nat, (j : Int) < s0 1 1 → s5 2 j = s0 2 j) ∧ ∀ i : Nat, i < 20 → s5 2 ((s0 1 1).toNat + i) % 256 = yfd a b c d e i := by
  obtain ⟨l1, k1, v1⟩ := b1
  obtain ⟨l2, k2, v2⟩ := b2
  obtain ⟨l3, k3, v3⟩ := b3
  obtain ⟨l4, k4, v4⟩ := b4
  obtain ⟨l5, k5, v5⟩ := b5
  refine ⟨fun j hj => ?_, fun i hi => ?_⟩
  · rw [k5 j (by omega), k4 j (by omega), k3 j (by omega), k2 j (by omega), k1 j hj]
  · unfold yfd
    by_cases c1 : i < 4
    · rw [if_pos c1, k5 _ (by omega), k4 _ (by omega), k3 _ (by omega), k2 _ (by omega), v1 i c1, show i % 4 = i by omega]
    · rw [if_neg c1]
      by_cases c2 : i < 8
      · rw [if_pos c2, k5 _ (by omega), k4 _ (by omega), k3 _ (by omega), show (s0 1 1).toNat + i = (s1 1 1).toNat + (i - 4) by omega, v2 (i - 4) (by omega), show i % 4 = i - 4 by omega]
      · rw [if_neg c2]
        by_cases c3 : i < 12
        · rw [if_pos c3, k5 _ (by omega), k4 _ (by omega), show (s0 1 1).toNat + i = (s2 1 1).toNat + (i - 8) by omega, v3 (i - 8) (by omega), show i % 4 = i - 8 by omega]
        · rw [if_neg c3]
          by_cases c4 : i < 16
          · rw [if_pos c4, k5 _ (by omega), show (s0 1 1).toNat + i = (s3 1 1).toNat + (i - 12) by omega, v4 (i - 12) (by omega), show i % 4 = i - 12 by omega]
          · rw [if_neg c4, show (s0 1 1).toNat + i = (s4 1 1).toNat + (i - 16) by omega, v5 (i - 16) (by omega), show i % 4 = i - 16 by omega]
def yFd1 (s s1 : zSto) (a b c d e : Int) : Prop := (∀ j : Nat, (j : Int) < s 1 1 → s1 2 j = s 2 j) ∧ (s 1 1 ≤ 1580 → ∀ i : Nat, i < 20 → s1 2 ((s 1 1).toNat + i) % 256 = yfd a b c d e i)
def yFd2 (s s1 : zSto) (a b c d e : Int) : Prop := (∀ j : Nat, (j : Int) < s 164 1 → s1 165 j = s 165 j) ∧ (s 164 1 ≤ 1580 → ∀ i : Nat, i < 20 → s1 165 ((s 164 1).toNat + i) = yfd a b c d e i)
def zCc (k j : Nat) : Bool := !(decide (zNK ≤ k) || decide (k = 28) || decide (5 ≤ k ∧ k ≤ 26)) && !(k == 0 && (j == 3 || j == 4 || j == 15 || j == 16))
theorem zCc_f {k j : Nat} (h : zCc k j = false) : (zNK ≤ k ∨ k = 28 ∨ (5 ≤ k ∧ k ≤ 26)) ∨ (k = 0 ∧ (j = 3 ∨ j = 4 ∨ j = 15 ∨ j = 16)) := by
  by_cases c : zNK ≤ k ∨ k = 28 ∨ (5 ≤ k ∧ k ≤ 26)
  · exact Or.inl c
  · rw [not_or, not_or] at c
    unfold zCc at h
    rw [decide_eq_false c.1, decide_eq_false c.2.1, decide_eq_false c.2.2] at h
    simp only [Bool.or_self, Bool.not_false, Bool.true_and, Bool.not_eq_false', Bool.and_eq_true, Bool.or_eq_true, beq_iff_eq] at h
    exact Or.inr ⟨h.1, by omega⟩
theorem zCc_t {k j : Nat} (h : zNK ≤ k ∨ k = 28 ∨ (5 ≤ k ∧ k ≤ 26)) : zCc k j = false := by
  unfold zCc
  rcases h with q | q | q
  · rw [decide_eq_true q]; rfl
  · rw [decide_eq_true q, Bool.or_true]; rfl
  · rw [decide_eq_true q, Bool.or_true]; rfl
theorem zOn_c {a b : zSto} (h : zFE a b) : zOn zCc a b := fun k j x => by
  rcases zCc_f x with q | ⟨rfl, q⟩
  · exact congrFun (h.1.1 k (q.imp_right (fun y => y.imp_right Or.inr))) j
  · rcases q with rfl | rfl | rfl | rfl
    · exact h.1.2.1
    · exact h.1.2.2.1
    · exact h.1.2.2.2.1
    · exact h.1.2.2.2.2
theorem zFC_on {a b : zSto} (h : zOn zCc a b) : zFC a b := ⟨fun k q => funext (fun j => h k j (zCc_t q)), h 0 3 rfl, h 0 4 rfl, h 0 15 rfl, h 0 16 rfl⟩
def zF1 (k j : Nat) : Bool := (k == 1 && j == 1) || k == 2
theorem zi_f1c : ∀ k j, zF1 k j = true → zCc k j = true := by
  intro k j h
  simp only [zF1, Bool.or_eq_true, Bool.and_eq_true, beq_iff_eq] at h
  rcases h with ⟨rfl, -⟩ | rfl <;> rfl
def zTt (k _j : Nat) : Bool := !(zkt k)
def yfk (s σ : zSto) (a b c d e k : Int) : Prop := (∀ j : Nat, (j : Int) < σ 164 1 → s 165 j = σ 165 j) ∧ ∀ i : Nat, (i : Int) < k → s 165 ((σ 164 1).toNat + i) = yfd a b c d e i
theorem yfk_0 {σ : zSto} {a b c d e : Int} : yfk σ σ a b c d e 0 := ⟨fun _ _ => rfl, fun i h => absurd h (by omega)⟩
theorem yfk_s {s t s1 σ : zSto} {a b c d e k w v m u : Int} {j9 : Nat} (h : yfk s σ a b c d e k) (hk : 0 ≤ k) (h0 : 0 ≤ σ 164 1) (e1 : zset s 165 j9 v = t) (e2 : zset t 164 1 u = s1) (hj : (j9 : Int) = σ 164 1 + k) (hv : v = ysr w m % 256) (hw : w = if k < 4 then a else if k < 8 then b else if k < 12 then c else if k < 16 then d else e) (hm : m = 8 * (3 - k % 4)) : yfk s1 σ a b c d e (k + 1) := by
  have r : s1 165 = t 165 := by rw [← e2]; exact funext (fun j => zset_k (by decide))
  refine ⟨fun j hj' => ?_, fun i hi => ?_⟩
  · rw [r, ← e1, zset_j (by omega)]; exact h.1 j hj'
  · by_cases z : (i : Int) < k
    · rw [r, ← e1, zset_j (by omega)]; exact h.2 i z
    · have q : (i : Int) = k := by omega
      have q2 : (σ 164 1).toNat + i = j9 := by omega
      rw [r, ← e1, q2, zset_s, hv, hw, hm]
      unfold yfd
      have c1 : (i < 4) = (k < 4) := propext (by omega)
      have c2 : (i < 8) = (k < 8) := propext (by omega)
      have c3 : (i < 12) = (k < 12) := propext (by omega)
      have c4 : (i < 16) = (k < 16) := propext (by omega)
      have c5 : (8 : Int) * (3 - ((i % 4 : Nat) : Int)) = 8 * (3 - k % 4) := by omega
      rw [c5]
      simp only [c1, c2, c3, c4]
def zF2 (k j : Nat) : Bool := (k == 164 && j == 1) || k == 165 || k == 166
theorem zGT_on {a b : zSto} (h : zOn zF2 a b) : zGT a b := by
  refine ⟨fun k q => funext (fun j => h k j ?_), ⟨⟨fun j _ => h _ _ rfl, fun j _ => h _ _ rfl, fun j _ => h _ _ rfl, fun j _ => h _ _ rfl, h _ _ rfl, h _ _ rfl, fun j _ => h _ _ rfl⟩, h _ _ rfl⟩⟩
  have n : ∀ c, zkt c = false → (k == c) = false := fun c hc => by
    rw [beq_eq_false_iff_ne]; intro e; rw [e, hc] at q; exact absurd q Bool.false_ne_true
  simp only [zF2, n 164 (by decide), n 165 (by decide), n 166 (by decide), Bool.false_and, Bool.or_self]
