/-! the class's tape: bytes as they are told -/
def zba (s : zSto) (k : Int) : Int := if 0 ≤ k ∧ k < s 1 1 then (zI (s 2 k.toNat) &&& zI 255).toInt else -1
theorem zba_in {s : zSto} {k v r : Int} (hv : s 2 k.toNat = v) (e : r = (zI v &&& zI 255).toInt) : 0 ≤ k ∧ k < s 1 1 → r = zba s k := by
  intro h
  unfold zba
  rw [if_pos h, hv]
  exact e
theorem zba_out {s : zSto} {k : Int} : ¬ (0 ≤ k ∧ k < s 1 1) → zba s k = -1 := by
  intro h
  unfold zba
  rw [if_neg h]
noncomputable def zbk (s : zSto) (n : Int) : Int := zi (∀ k : Int, 0 ≤ k → k < n → 0 ≤ zba s (k * 4) ∧ zba s (k * 4) ≤ 5 ∧ 0 ≤ zba s (k * 4 + 1) ∧ zba s (k * 4 + 1) ≤ 5)
theorem zbk_0 (s : zSto) : zbk s 0 = 1 := zi_1.2 (fun k h0 h1 => by omega)
theorem zbk_u {s : zSto} {a b : Int} (h : zbk s a = 1) (hb : b ≤ a) : zbk s b = 1 := zi_1.2 (fun k h0 h1 => zi_1.1 h k h0 (by omega))
theorem zbk_s {s : zSto} {k : Int} : zbk s k = 1 ∧ 0 ≤ zba s (k * 4) ∧ zba s (k * 4) ≤ 5 ∧ 0 ≤ zba s (k * 4 + 1) ∧ zba s (k * 4 + 1) ≤ 5 → zbk s (k + 1) = 1 := by
  intro ⟨h, h1⟩
  refine zi_1.2 fun i h0 hi => ?_
  by_cases e : i < k
  · exact zi_1.1 h i h0 e
  · have e1 : i = k := by omega
    rw [e1]
    exact h1
theorem zbk_at {s : zSto} {n k : Int} (h : zbk s n = 1) (h0 : 0 ≤ k) (h1 : k < n) : 0 ≤ zba s (k * 4) ∧ zba s (k * 4) ≤ 5 ∧ 0 ≤ zba s (k * 4 + 1) ∧ zba s (k * 4 + 1) ≤ 5 := zi_1.1 h k h0 h1
theorem zbk_k {s s1 : zSto} {k j : Nat} {v : Int} (h : zset s k j v = s1) (n : Int) (hk : k ≠ 1 ∧ k ≠ 2) : zbk s1 n = zbk s n := by
  have e1 : s1 1 = s 1 := by subst h; exact funext fun i => zset_k hk.1.symm
  have e2 : s1 2 = s 2 := by subst h; exact funext fun i => zset_k hk.2.symm
  have e : ∀ a, zba s1 a = zba s a := fun a => by unfold zba; rw [e1, e2]
  unfold zbk
  simp only [e]
