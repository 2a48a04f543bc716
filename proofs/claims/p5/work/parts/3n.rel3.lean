/-! what the reference's reckoning writes; heights of the told codes -/
def zQ8 (k j : Nat) : Bool := (k == 164 && (j == 51 || j == 103 || j == 104 || j == 105)) || (k == 236 && decide (j < 1700))
theorem zq8_236 {j : Nat} (h : j < 1700) : zQ8 236 j = true := by simp [zQ8, h]
theorem zQ8_k {k j : Nat} (h1 : k ≠ 164) (h2 : k ≠ 236) : zQ8 k j = false := by
  have a : (k == 164) = false := by simp [h1]
  have b : (k == 236) = false := by simp [h2]
  simp only [zQ8, a, b, Bool.false_and, Bool.or_self]
theorem zOn_Kl8 {σ σ' : zSto} (h : zOn zQ8 σ σ') : zKl σ σ' := ⟨fun j _ => h _ _ rfl, fun j _ => h _ _ rfl, fun j _ => h _ _ rfl, fun j _ => h _ _ rfl, h _ _ rfl, h _ _ rfl, fun j _ => h _ _ rfl⟩
theorem zOn_N8 {σ σ' : zSto} (h : zOn zQ8 σ σ') : zFN σ σ' := fun k hk => funext fun j => h k j (zQ8_k (fun e => by rw [e] at hk; exact absurd hk (by decide)) (fun e => by rw [e] at hk; exact absurd hk (by decide)))
theorem zOn_GN8 {σ σ' : zSto} (h : zOn zQ8 σ σ') : zGN σ σ' := ⟨zOn_N8 h, zOn_Kl8 h, h _ _ rfl⟩
theorem zWF_O {σ s : zSto} (h : zWF σ) (hk : zOn zQ8 σ s) : zWF s := zWF_kl h (zOn_Kl8 hk)
theorem zE_q8 {s s' : zSto} (h : zOn zQ8 s s') : zE s s' := zE_of (funext fun j => h 234 j rfl) (funext fun j => h 235 j rfl) (h _ _ rfl) (h _ _ rfl) (h _ _ rfl)
def zHk (s : zSto) (k : Int) : Int := zH (s 234) k.toNat
theorem zHk_0 (s : zSto) : zHk s 0 = 0 := rfl
theorem zqt {σ s : zSto} {k v : Int} (ht : zt σ = 1) (h : zOn zQ8 σ s) (hv : s 234 k.toNat = v) (h0 : 0 ≤ k) (h1 : k < σ 164 97) : znd v ≤ zHk σ k ∧ zHk σ (k + 1) = zHk σ k + zdl v := by
  have hv : σ 234 k.toNat = v := (h 234 k.toNat rfl).symm.trans hv
  have c := (zi_1.1 ht).1 k.toNat (by omega)
  have en : (k + 1).toNat = k.toNat + 1 := by omega
  rw [hv] at c
  refine ⟨c, ?_⟩
  unfold zHk
  rw [en]
  show zH (σ 234) k.toNat + zdl (σ 234 k.toNat) = _
  rw [hv]
theorem zdn2 (c : Int) : 60 ≤ c → c < 1000 → zdl c = 0 ∧ znd c = 1 := by
  intro h1 h2
  unfold zdl znd
  repeat' split
  all_goals omega
/-! the lowest bit taken away -/
theorem zun (a : Int32) : a.toInt % 4294967296 = (a.toBitVec.toNat : Int) := by
  have h1 : a.toInt = a.toBitVec.toInt := rfl
  rw [h1, BitVec.toInt_eq_toNat_bmod]
  show (Int.bmod (a.toBitVec.toNat : Int) 4294967296) % ((4294967296 : Nat) : Int) = _
  rw [Int.bmod_emod]
  have : a.toBitVec.toNat < 2 ^ 32 := a.toBitVec.isLt
  omega
theorem zbits {x r r2 : Int} (h1 : r = (zI (x - 1)).toInt) (h2 : r2 = (zI x &&& zI r).toInt) (hx : x ≠ 0) (lo : -2147483648 ≤ x) (hi : x ≤ 2147483647) : (r2 % 4294967296).toNat < (x % 4294967296).toNat := by
  have e1 : zI r = zI x - 1 := by
    rw [h1, zI_of, zI_sub]
    rfl
  have ex : x % 4294967296 = ((zI x).toBitVec.toNat : Int) := by
    have := zun (zI x)
    rw [zI_t lo hi] at this
    exact this
  rw [h2, zun, ex, e1]
  have lt : (zI x).toBitVec.toNat < 4294967296 := (zI x).toBitVec.isLt
  have nz : (zI x).toBitVec.toNat ≠ 0 := by omega
  have ea : (zI x &&& (zI x - 1)).toBitVec = (zI x).toBitVec &&& ((zI x).toBitVec - 1#32) := rfl
  rw [ea, BitVec.toNat_and]
  have l2 : (zI x).toBitVec.toNat &&& ((zI x).toBitVec - 1#32).toNat ≤ ((zI x).toBitVec - 1#32).toNat := Nat.and_le_right
  have es : ((zI x).toBitVec - 1#32).toNat = (zI x).toBitVec.toNat - 1 := by
    rw [BitVec.toNat_sub]
    show (2 ^ 32 - 1 + (zI x).toBitVec.toNat) % 2 ^ 32 = _
    omega
  omega
/-! rows of cells on the tape -/
noncomputable def zsn (s : zSto) (n : Int) : Int := zi (∀ k : Nat, 4 * (k : Int) < n → s 164 50 = 1 ∧ 0 ≤ s 165 (4 * k) ∧ s 165 (4 * k) < s 194 3 ∧ 0 ≤ s 165 (4 * k + 1) ∧ s 165 (4 * k + 1) < s 194 4)
theorem zsn_0 (s : zSto) : zsn s 0 = 1 := zi_1.2 (fun k hk => by omega)
theorem zsn_le {s : zSto} {a b : Int} (h : zsn s a = 1) (hb : b ≤ a) : zsn s b = 1 := zi_1.2 (fun k hk => zi_1.1 h k (by omega))
theorem zsn_s {s : zSto} {k v w : Int} (h0 : 0 ≤ k) (hm : k % 4 = 0) (hv : s 165 k.toNat = v) (hw : s 165 (k + 1).toNat = w) : zsn s k = 1 ∧ s 164 50 = 1 ∧ 0 ≤ v ∧ v < s 194 3 ∧ 0 ≤ w ∧ w < s 194 4 → zsn s (k + 4) = 1 := by
  intro ⟨h, h1, h2, h3, h4, h5⟩
  refine zi_1.2 fun i hi => ?_
  by_cases e : 4 * (i : Int) < k
  · exact zi_1.1 h i e
  · have e1 : 4 * i = k.toNat := by omega
    have e2 : k.toNat + 1 = (k + 1).toNat := by omega
    rw [e1, e2, hv, hw]
    exact ⟨h1, h2, h3, h4, h5⟩
theorem zsn_at {s : zSto} {n k v w : Int} (h : zsn s n = 1) (h0 : 0 ≤ k) (hk : 4 * k < n) (hv : s 165 (4 * k).toNat = v) (hw : s 165 (4 * k + 1).toNat = w) : s 164 50 = 1 ∧ 0 ≤ v ∧ v < s 194 3 ∧ 0 ≤ w ∧ w < s 194 4 := by
  have c := zi_1.1 h k.toNat (by omega)
  have e1 : 4 * k.toNat = (4 * k).toNat := by omega
  have e2 : (4 * k).toNat + 1 = (4 * k + 1).toNat := by omega
  rw [e1, e2, hv, hw] at c
  exact c
theorem zsn_k {s s1 : zSto} {k j : Nat} {v : Int} (h : zset s k j v = s1) (n : Int) (hk : (k ≠ 164 ∨ j ≠ 50) ∧ k ≠ 165 ∧ k ≠ 194) : zsn s1 n = zsn s n := by
  obtain ⟨k0, k1, k2⟩ := hk
  have e5 : s1 165 = s 165 := by subst h; exact funext fun i => zset_k k1.symm
  have e9 : s1 194 = s 194 := by subst h; exact funext fun i => zset_k k2.symm
  have e4 : s1 164 50 = s 164 50 := by
    subst h
    by_cases e : k = 164
    · exact zset_j (k0.resolve_left (fun h => h e)).symm
    · exact zset_k (fun x => e x.symm)
  unfold zsn
  rw [e5, e9, e4]
/-! people on the tape of an image -/
noncomputable def zip (s : zSto) (a n : Int) : Int := zi (∀ p : Nat, (p : Int) < n → s 165 (a + 4 * p).toNat ≤ 5 ∧ s 165 (a + 4 * p + 1).toNat ≤ 5)
theorem zip_0 (s : zSto) (a : Int) : zip s a 0 = 1 := zi_1.2 (fun k hk => by omega)
theorem zip_u {s : zSto} {a b k n : Int} (h : zip s a k = 1) (hn : n ≤ k) (e : a = b) : zip s b n = 1 := by
  subst e
  exact zi_1.2 (fun p hp => zi_1.1 h p (by omega))
theorem zip_s {s : zSto} {a k : Int} (h0 : 0 ≤ k) : zip s a k = 1 ∧ s 165 (a + 4 * k).toNat ≤ 5 ∧ s 165 (a + 4 * k + 1).toNat ≤ 5 → zip s a (k + 1) = 1 := by
  intro ⟨h, h1, h2⟩
  refine zi_1.2 fun p hp => ?_
  by_cases e : (p : Int) < k
  · exact zi_1.1 h p e
  · have e1 : (p : Int) = k := by omega
    rw [e1]
    exact ⟨h1, h2⟩
theorem zip_at {s : zSto} {a n k v w : Int} (h : zip s a n = 1) (h0 : 0 ≤ k) (hk : k < n) (hv : s 165 (a + 4 * k).toNat = v) (hw : s 165 (a + 4 * k + 1).toNat = w) : v ≤ 5 ∧ w ≤ 5 := by
  have c := zi_1.1 h k.toNat (by omega)
  have e1 : (k.toNat : Int) = k := by omega
  rw [e1, hv, hw] at c
  exact c
theorem zip_k {s s1 : zSto} {k j : Nat} {v : Int} (h : zset s k j v = s1) (a n : Int) (hk : k ≠ 165) : zip s1 a n = zip s a n := by
  have e5 : s1 165 = s 165 := by subst h; exact funext fun i => zset_k hk.symm
  unfold zip
  rw [e5]
