/-! what is coded and what waits in the reference's parser: heights, levels, brackets, squares -/
def zSQ (f : Nat → Int) : Nat → Int
  | 0 => 0
  | n + 1 => if f n = 25 then 1 else zSQ f n
def zTB (f : Nat → Int) (b : Nat) : Nat → Int
  | 0 => -1
  | n + 1 => if n < b then -1 else if 20 ≤ f n ∧ f n ≤ 24 then f n else zTB f b n
def zwt (v : Int) : Int := if (1 ≤ v ∧ v ≤ 11) ∨ v = 23 ∨ v = 24 then 1 else 0
def zHt (s : zSto) : Int := zH (s 234) (s 164 97).toNat
def zBt (s : zSto) : Int := zB (s 235) (s 164 99).toNat
def zBb (s : zSto) : Int := zB (s 235) (s 164 101).toNat
def zsq (s : zSto) : Int := zSQ (s 235) (s 164 99).toNat
def zSb (s : zSto) : Int := zSQ (s 235) (s 164 101).toNat
def ztb (s : zSto) : Int := zTB (s 235) (s 164 101).toNat (s 164 99).toNat
def zTl (v : Int) : Prop := v = 10 ∨ v = 11 ∨ v = 12 ∨ v = 25
def zSl (v : Int) : Prop := (1 ≤ v ∧ v ≤ 4) ∨ (20 ≤ v ∧ v ≤ 24) ∨ v = 60
def zRS (s : zSto) : Prop := zCW (s 234) (s 164 97).toNat ∧ (∀ j, j < (s 164 101).toNat → zTl (s 235 j)) ∧ (∀ j, (s 164 101).toNat ≤ j → j < (s 164 99).toNat → zSl (s 235 j))
def zRT (s : zSto) : Prop := zCW (s 234) (s 164 97).toNat ∧ (∀ j, j < (s 164 99).toNat → zTl (s 235 j))
noncomputable def zr (s : zSto) : Int := zi (zRS s)
noncomputable def zt (s : zSto) : Int := zi (zRT s)
theorem zB_s (f : Nat → Int) (n : Nat) : zB f (n + 1) = zB f n + zwt (f n) := rfl
theorem zBt_nn (s : zSto) : 0 ≤ zBt s := zB_nn _ _
theorem zCW_s {f : Nat → Int} {n : Nat} (h : zCW f n) (hv : znd (f n) ≤ zH f n) : zCW f (n + 1) := by
  intro i hi
  rcases Nat.lt_or_ge i n with h1 | h1
  · exact h i h1
  · have : i = n := by omega
    subst this
    exact hv
theorem zSQ_eq {f g : Nat → Int} {n : Nat} (h : ∀ i, i < n → f i = g i) : zSQ f n = zSQ g n := by
  induction n with
  | zero => rfl
  | succ n ih =>
    show (if f n = 25 then 1 else zSQ f n) = (if g n = 25 then 1 else zSQ g n)
    rw [ih (fun i hi => h i (Nat.lt_succ_of_lt hi)), h n (Nat.lt_succ_self n)]
/-- nothing of it has changed -/
def zE (s s' : zSto) : Prop := zr s' = zr s ∧ zt s' = zt s ∧ zHt s' = zHt s ∧ zBt s' = zBt s ∧ zBb s' = zBb s ∧ zSb s' = zSb s ∧ zsq s' = zsq s ∧ ztb s' = ztb s
theorem zE_of {s s' : zSto} (h4 : s' 234 = s 234) (h5 : s' 235 = s 235) (h97 : s' 164 97 = s 164 97) (h99 : s' 164 99 = s 164 99) (h101 : s' 164 101 = s 164 101) : zE s s' := by
  simp only [zE, zr, zt, zRS, zRT, zHt, zBt, zBb, zSb, zsq, ztb, h4, h5, h97, h99, h101, and_self]
theorem zE_q1 {s s' : zSto} (h : zOn zQ1 s s') : zE s s' := zE_of (funext fun j => h 234 j rfl) (funext fun j => h 235 j rfl) (h _ _ rfl) (h _ _ rfl) (h _ _ rfl)
theorem zE_set {s s1 : zSto} {j : Nat} {v : Int} (h : zset s 164 j v = s1) (hj : j ≠ 97 ∧ j ≠ 99 ∧ j ≠ 101) : zE s s1 := by
  subst h
  exact zE_of (funext fun i => zset_k (by decide)) (funext fun i => zset_k (by decide)) (zset_j hj.1.symm) (zset_j hj.2.1.symm) (zset_j hj.2.2.symm)
theorem zE_setk {s s1 : zSto} {k j : Nat} {v : Int} (h : zset s k j v = s1) (hk : k ≠ 164 ∧ k ≠ 234 ∧ k ≠ 235) : zE s s1 := by
  subst h
  exact zE_of (funext fun i => zset_k hk.2.1.symm) (funext fun i => zset_k hk.2.2.symm) (zset_k hk.1.symm) (zset_k hk.1.symm) (zset_k hk.1.symm)
/-- a code is written -/
def zcd (s : zSto) (v : Int) : zSto := zset (zset s 234 (s 164 97).toNat v) 164 97 (s 164 97 + 1)
theorem zcd_1 {s s1 s2 : zSto} {i : Nat} {v x : Int} (h1 : zset s 234 i v = s1) (h2 : zset s1 164 97 x = s2) (hi : i = (s 164 97).toNat) (hx : x = s 164 97 + 1) : s2 = zcd s v := by
  subst h1 h2 hi hx
  rfl
theorem zcd_5 (s : zSto) (v : Int) : zcd s v 235 = s 235 := funext fun j => by
  unfold zcd
  rw [zset_k (by decide), zset_k (by decide)]
theorem zcd_m (s : zSto) (v : Int) {j : Nat} (hj : j ≠ 97) : zcd s v 164 j = s 164 j := by
  unfold zcd
  rw [zset_j hj, zset_k (by decide)]
theorem zcd_c (s : zSto) (v : Int) : zcd s v 164 97 = s 164 97 + 1 := zset_s
theorem zcd_lo (s : zSto) (v : Int) {j : Nat} (hj : j < (s 164 97).toNat) : zcd s v 234 j = s 234 j := by
  unfold zcd
  rw [zset_k (by decide), zset_j (by omega)]
theorem zcd_at (s : zSto) (v : Int) : zcd s v 234 (s 164 97).toNat = v := by
  unfold zcd
  rw [zset_k (by decide), zset_s]
theorem zcd_n {s : zSto} (v : Int) (h0 : 0 ≤ s 164 97) : (zcd s v 164 97).toNat = (s 164 97).toNat + 1 := by
  rw [zcd_c]
  omega
theorem zcd_h {s s' : zSto} {v : Int} (h : s' = zcd s v) (h0 : 0 ≤ s 164 97) : zHt s' = zHt s + zdl v ∧ zBt s' = zBt s ∧ zBb s' = zBb s ∧ zSb s' = zSb s ∧ zsq s' = zsq s ∧ ztb s' = ztb s := by
  subst h
  refine ⟨?_, ?_, ?_, ?_, ?_, ?_⟩
  · show zH (zcd s v 234) (zcd s v 164 97).toNat = _
    rw [zcd_n v h0]
    show zH (zcd s v 234) (s 164 97).toNat + zdl (zcd s v 234 (s 164 97).toNat) = _
    rw [zcd_at, zH_eq (fun i hi => zcd_lo s v hi)]
    rfl
  · unfold zBt; rw [zcd_5, zcd_m s v (by decide)]
  · unfold zBb; rw [zcd_5, zcd_m s v (by decide)]
  · unfold zSb; rw [zcd_5, zcd_m s v (by decide)]
  · unfold zsq; rw [zcd_5, zcd_m s v (by decide)]
  · unfold ztb; rw [zcd_5, zcd_m s v (by decide), zcd_m s v (by decide)]
theorem zcd_cw {s : zSto} {v : Int} (h0 : 0 ≤ s 164 97) (hc : zCW (s 234) (s 164 97).toNat) (hv : znd v ≤ zHt s) : zCW (zcd s v 234) (zcd s v 164 97).toNat := by
  rw [zcd_n v h0]
  refine zCW_s (zCW_eq (fun i hi => (zcd_lo s v hi).symm) hc) ?_
  rw [zcd_at, zH_eq (fun i hi => zcd_lo s v hi)]
  exact hv
theorem zcd_r {s s' : zSto} {v : Int} (h : s' = zcd s v) (h0 : 0 ≤ s 164 97) (hv : znd v ≤ zHt s) : zr s = 1 → zr s' = 1 := by
  subst h
  refine zi_m fun a => ⟨zcd_cw h0 a.1 hv, ?_, ?_⟩
  · rw [zcd_5, zcd_m s v (by decide)]; exact a.2.1
  · rw [zcd_5, zcd_m s v (by decide), zcd_m s v (by decide)]; exact a.2.2
theorem zcd_t {s s' : zSto} {v : Int} (h : s' = zcd s v) (h0 : 0 ≤ s 164 97) (hv : znd v ≤ zHt s) : zt s = 1 → zt s' = 1 := by
  subst h
  refine zi_m fun a => ⟨zcd_cw h0 a.1 hv, ?_⟩
  rw [zcd_5, zcd_m s v (by decide)]; exact a.2
/-- what waits on top is taken away -/
theorem zpop {s s1 : zSto} {x : Int} (h : zset s 164 99 x = s1) (hx : x = s 164 99 - 1) (h0 : 0 ≤ x) (hb : 0 ≤ s 164 101) : zHt s1 = zHt s ∧ zBt s = zBt s1 + zwt (s 235 x.toNat) ∧ zBb s1 = zBb s ∧ zSb s1 = zSb s ∧ (zr s = 1 → zr s1 = 1) ∧ (zt s = 1 → zt s1 = 1) ∧ (s 235 x.toNat ≠ 25 → zsq s1 = zsq s) ∧ (s 164 101 ≤ x → ¬ (20 ≤ s 235 x.toNat ∧ s 235 x.toNat ≤ 24) → ztb s1 = ztb s) := by
  have en : (s 164 99).toNat = x.toNat + 1 := by omega
  have e4 : s1 234 = s 234 := by subst h; exact funext fun i => zset_k (by decide)
  have e5 : s1 235 = s 235 := by subst h; exact funext fun i => zset_k (by decide)
  have e97 : s1 164 97 = s 164 97 := by subst h; exact zset_j (by decide)
  have e101 : s1 164 101 = s 164 101 := by subst h; exact zset_j (by decide)
  have e99 : s1 164 99 = x := by subst h; exact zset_s
  refine ⟨?_, ?_, ?_, ?_, ?_, ?_, ?_, ?_⟩
  · unfold zHt; rw [e4, e97]
  · unfold zBt; rw [e5, e99, en]; rfl
  · unfold zBb; rw [e5, e101]
  · unfold zSb; rw [e5, e101]
  · refine zi_m fun a => ⟨?_, ?_, ?_⟩
    · rw [e4, e97]; exact a.1
    · rw [e5, e101]; exact a.2.1
    · rw [e5, e101, e99]; intro j h1 h2; exact a.2.2 j h1 (by omega)
  · refine zi_m fun a => ⟨?_, ?_⟩
    · rw [e4, e97]; exact a.1
    · rw [e5, e99]; intro j h2; exact a.2 j (by omega)
  · intro hn
    unfold zsq
    rw [e5, e99, en]
    show zSQ (s 235) x.toNat = if s 235 x.toNat = 25 then 1 else zSQ (s 235) x.toNat
    rw [if_neg hn]
  · intro h1 hn
    unfold ztb
    rw [e5, e99, e101, en]
    show zTB (s 235) (s 164 101).toNat x.toNat = if x.toNat < (s 164 101).toNat then -1 else if 20 ≤ s 235 x.toNat ∧ s 235 x.toNat ≤ 24 then s 235 x.toNat else zTB (s 235) (s 164 101).toNat x.toNat
    rw [if_neg (by omega), if_neg hn]
theorem zdw {v : Int} (h : (1 ≤ v ∧ v ≤ 4) ∨ (10 ≤ v ∧ v ≤ 12) ∨ v = 60) : zdl v = - zwt v ∧ znd v ≤ zwt v + 1 := by
  unfold zdl znd zwt
  repeat' split
  all_goals omega
/-- a drop at the level of sums -/
theorem zdr_S {s s1 s2 : zSto} {x v : Int} (h1 : zset s 164 99 x = s1) (hx : x = s 164 99 - 1) (hv : s1 235 (s1 164 99).toNat = v) (h2 : s2 = zcd s1 v) (hc : 0 ≤ s 164 97) (hb : 0 ≤ s 164 101) (hw : s 164 101 < s 164 99) (hr : zr s = 1) (hd : zBt s + 1 ≤ zHt s) (hn : ¬ (20 ≤ s 235 (s 164 99 - 1).toNat ∧ s 235 (s 164 99 - 1).toNat ≤ 24)) : zr s2 = 1 ∧ zHt s2 - zBt s2 = zHt s - zBt s ∧ ztb s2 = ztb s ∧ zBb s2 = zBb s ∧ zSb s2 = zSb s := by
  have p := zpop h1 hx (by omega) hb
  have e99 : s1 164 99 = x := by subst h1; exact zset_s
  have e97 : s1 164 97 = s 164 97 := by subst h1; exact zset_j (by decide)
  have e5 : s1 235 = s 235 := by subst h1; exact funext fun i => zset_k (by decide)
  rw [e99, e5] at hv
  rw [hv] at p
  rw [← hx, hv] at hn
  have q := zcd_h h2 (by omega)
  have hl : zSl v := by
    rw [← hv]
    exact (zi_1.1 hr).2.2 _ (by omega) (by omega)
  have hn2 := zBt_nn s1
  have hw2 : (1 ≤ v ∧ v ≤ 4) ∨ (10 ≤ v ∧ v ≤ 12) ∨ v = 60 := by
    rcases hl with h | h | h
    · exact Or.inl h
    · exact absurd h hn
    · exact Or.inr (Or.inr h)
  have w := zdw hw2
  refine ⟨zcd_r h2 (by omega) ?_ (p.2.2.2.2.1 hr), ?_, ?_, ?_, ?_⟩
  · have := p.1; have := p.2.1; omega
  · have := p.1; have := p.2.1; have := q.1; have := q.2.1; omega
  · rw [q.2.2.2.2.2]; exact p.2.2.2.2.2.2.2 (by omega) hn
  · rw [q.2.2.1]; exact p.2.2.1
  · rw [q.2.2.2.1]; exact p.2.2.2.1
/-- a drop at the level of tests -/
theorem zdr_T {s s1 s2 : zSto} {x v : Int} (h1 : zset s 164 99 x = s1) (hx : x = s 164 99 - 1) (hv : s1 235 (s1 164 99).toNat = v) (h2 : s2 = zcd s1 v) (hc : 0 ≤ s 164 97) (hb : 0 ≤ s 164 101) (hw : 1 ≤ s 164 99) (hr : zt s = 1) (hd : zBt s + 1 ≤ zHt s) (hn : s 235 (s 164 99 - 1).toNat ≠ 25) : zt s2 = 1 ∧ zHt s2 - zBt s2 = zHt s - zBt s ∧ zsq s2 = zsq s := by
  have p := zpop h1 hx (by omega) hb
  have e99 : s1 164 99 = x := by subst h1; exact zset_s
  have e97 : s1 164 97 = s 164 97 := by subst h1; exact zset_j (by decide)
  have e5 : s1 235 = s 235 := by subst h1; exact funext fun i => zset_k (by decide)
  rw [e99, e5] at hv
  rw [hv] at p
  rw [← hx, hv] at hn
  have q := zcd_h h2 (by omega)
  have hl : zTl v := by
    rw [← hv]
    exact (zi_1.1 hr).2 _ (by omega)
  have hn2 := zBt_nn s1
  have hw2 : (1 ≤ v ∧ v ≤ 4) ∨ (10 ≤ v ∧ v ≤ 12) ∨ v = 60 := by
    unfold zTl at hl
    omega
  have w := zdw hw2
  refine ⟨zcd_t h2 (by omega) ?_ (p.2.2.2.2.2.1 hr), ?_, ?_⟩
  · have := p.1; have := p.2.1; omega
  · have := p.1; have := p.2.1; have := q.1; have := q.2.1; omega
  · rw [q.2.2.2.2.1]; exact p.2.2.2.2.2.2.1 hn
/-- something is put on what waits -/
theorem zpush0 {s s1 s2 : zSto} {i : Nat} {v x : Int} (h1 : zset s 235 i v = s1) (h2 : zset s1 164 99 x = s2) (hi : (i : Int) = s 164 99) (hx : x = s 164 99 + 1) : s2 234 = s 234 ∧ s2 164 97 = s 164 97 ∧ s2 164 101 = s 164 101 ∧ (s2 164 99).toNat = i + 1 ∧ (s 164 99).toNat = i ∧ (∀ j, j < i → s2 235 j = s 235 j) ∧ s2 235 i = v := by
  subst h1 h2
  refine ⟨funext fun j => ?_, ?_, ?_, ?_, by omega, fun j hj => ?_, ?_⟩
  · rw [zset_k (by decide), zset_k (by decide)]
  · rw [zset_j (by decide), zset_k (by decide)]
  · rw [zset_j (by decide), zset_k (by decide)]
  · rw [zset_s]; omega
  · rw [zset_k (by decide), zset_j (by omega)]
  · rw [zset_k (by decide), zset_s]
theorem zpush_S {s s1 s2 : zSto} {i : Nat} {v x : Int} (h1 : zset s 235 i v = s1) (h2 : zset s1 164 99 x = s2) (hi : (i : Int) = s 164 99) (hx : x = s 164 99 + 1) (hb : s 164 101 ≤ s 164 99) (hv : (1 ≤ v ∧ v ≤ 4) ∨ (20 ≤ v ∧ v ≤ 24) ∨ v = 60) : (zr s = 1 → zr s2 = 1) ∧ zHt s2 = zHt s ∧ zBt s2 = zBt s + zwt v ∧ zBb s2 = zBb s ∧ zSb s2 = zSb s := by
  obtain ⟨a4, a97, a101, a99, b99, al, ai⟩ := zpush0 h1 h2 hi hx
  refine ⟨zi_m fun a => ⟨?_, ?_, ?_⟩, ?_, ?_, ?_, ?_⟩
  · rw [a4, a97]; exact a.1
  · rw [a101]; intro j hj; rw [al j (by omega)]; exact a.2.1 j hj
  · rw [a101, a99]; intro j h1 h2
    rcases Nat.lt_or_ge j i with h | h
    · rw [al j h]; exact a.2.2 j h1 (by omega)
    · have : j = i := by omega
      subst this
      rw [ai]; exact hv
  · unfold zHt; rw [a4, a97]
  · unfold zBt; rw [a99, b99, zB_s, ai, zB_eq al]
  · unfold zBb; rw [a101, zB_eq (fun j hj => al j (by omega))]
  · unfold zSb; rw [a101, zSQ_eq (fun j hj => al j (by omega))]
theorem zpush_T {s s1 s2 : zSto} {i : Nat} {v x : Int} (h1 : zset s 235 i v = s1) (h2 : zset s1 164 99 x = s2) (hi : (i : Int) = s 164 99) (hx : x = s 164 99 + 1) (hv : v = 10 ∨ v = 11 ∨ v = 12 ∨ v = 25) : (zt s = 1 → zt s2 = 1) ∧ zHt s2 = zHt s ∧ zBt s2 = zBt s + zwt v := by
  obtain ⟨a4, a97, a101, a99, b99, al, ai⟩ := zpush0 h1 h2 hi hx
  refine ⟨zi_m fun a => ⟨?_, ?_⟩, ?_, ?_⟩
  · rw [a4, a97]; exact a.1
  · rw [a99]; intro j hj
    rcases Nat.lt_or_ge j i with h | h
    · rw [al j h]; exact a.2 j (by omega)
    · have : j = i := by omega
      subst this
      rw [ai]; exact hv
  · unfold zHt; rw [a4, a97]
  · unfold zBt; rw [a99, b99, zB_s, ai, zB_eq al]
theorem zw_v (v : Int) : (1 ≤ v ∧ v ≤ 4 → zwt v = 1) ∧ (10 ≤ v ∧ v ≤ 11 → zwt v = 1) ∧ (v = 12 → zwt v = 0) ∧ (20 ≤ v ∧ v ≤ 22 → zwt v = 0) ∧ (23 ≤ v ∧ v ≤ 24 → zwt v = 1) ∧ (25 ≤ v → zwt v = 0) := by
  unfold zwt
  refine ⟨?_, ?_, ?_, ?_, ?_, ?_⟩ <;> intro h <;> split <;> omega
/-- a comma: the bracket on top changes its kind -/
theorem zcomma {s s1 : zSto} {i : Nat} {x : Int} (h1 : zset s 235 i x = s1) (hi : (i : Int) = s 164 99 - 1) (hb : 0 ≤ s 164 101) (hw : s 164 101 < s 164 99) (hv : s 235 i = 21 ∨ s 235 i = 22) (hx : x = s 235 i + 2) : (zr s = 1 → zr s1 = 1) ∧ zHt s1 = zHt s ∧ zBt s1 = zBt s + 1 ∧ zBb s1 = zBb s ∧ zSb s1 = zSb s := by
  have a4 : s1 234 = s 234 := by subst h1; exact funext fun j => zset_k (by decide)
  have am : ∀ j, s1 164 j = s 164 j := by intro j; subst h1; exact zset_k (by decide)
  have al : ∀ j, j ≠ i → s1 235 j = s 235 j := by intro j hj; subst h1; exact zset_j hj
  have ai : s1 235 i = x := by subst h1; exact zset_s
  have b99 : (s 164 99).toNat = i + 1 := by omega
  refine ⟨zi_m fun a => ⟨?_, ?_, ?_⟩, ?_, ?_, ?_, ?_⟩
  · rw [a4, am]; exact a.1
  · rw [am]; intro j hj; rw [al j (by omega)]; exact a.2.1 j hj
  · rw [am, am]; intro j h1 h2
    by_cases h : j = i
    · subst h
      rw [ai]
      exact Or.inr (Or.inl (by omega))
    · rw [al j h]; exact a.2.2 j h1 h2
  · unfold zHt; rw [a4, am]
  · unfold zBt
    rw [am, b99, zB_s, zB_s, ai, zB_eq (fun j hj => al j (by omega))]
    have w1 := (zw_v x).2.2.2.2.1 (by omega)
    have w2 := (zw_v (s 235 i)).2.2.2.1 (by omega)
    omega
  · unfold zBb; rw [am, zB_eq (fun j hj => al j (by omega))]
  · unfold zSb; rw [am, zSQ_eq (fun j hj => al j (by omega))]
/-- a run of sums begins, and ends -/
theorem zbase1 {s s1 : zSto} {x : Int} (h : zset s 164 101 x = s1) (hx : x = s 164 99) : (zt s = 1 → zr s1 = 1) ∧ zHt s1 = zHt s ∧ zBt s1 = zBt s ∧ zBb s1 = zBt s ∧ zSb s1 = zsq s := by
  have a4 : s1 234 = s 234 := by subst h; exact funext fun j => zset_k (by decide)
  have a5 : s1 235 = s 235 := by subst h; exact funext fun j => zset_k (by decide)
  have a97 : s1 164 97 = s 164 97 := by subst h; exact zset_j (by decide)
  have a99 : s1 164 99 = s 164 99 := by subst h; exact zset_j (by decide)
  have a101 : s1 164 101 = s 164 99 := by rw [← hx]; subst h; exact zset_s
  refine ⟨fun a => zi_1.2 ?_, ?_, ?_, ?_, ?_⟩
  · have a := zi_1.1 a
    refine ⟨?_, ?_, ?_⟩
    · rw [a4, a97]; exact a.1
    · rw [a101, a5]; exact a.2
    · rw [a101, a99]; intro j h1 h2; omega
  · unfold zHt; rw [a4, a97]
  · unfold zBt; rw [a5, a99]
  · unfold zBb zBt; rw [a5, a101]
  · unfold zSb zsq; rw [a5, a101]
theorem zbase2 {s s1 : zSto} {x : Int} (h : zset s 164 101 x = s1) (hw : s 164 99 = s 164 101) : (zr s = 1 → zt s1 = 1) ∧ zHt s1 = zHt s ∧ zBt s1 = zBt s ∧ zBt s = zBb s ∧ zsq s1 = zSb s := by
  have a4 : s1 234 = s 234 := by subst h; exact funext fun j => zset_k (by decide)
  have a5 : s1 235 = s 235 := by subst h; exact funext fun j => zset_k (by decide)
  have a97 : s1 164 97 = s 164 97 := by subst h; exact zset_j (by decide)
  have a99 : s1 164 99 = s 164 99 := by subst h; exact zset_j (by decide)
  refine ⟨fun a => zi_1.2 ?_, ?_, ?_, ?_, ?_⟩
  · have a := zi_1.1 a
    refine ⟨?_, ?_⟩
    · rw [a4, a97]; exact a.1
    · rw [a99, a5, hw]; exact a.2.1
  · unfold zHt; rw [a4, a97]
  · unfold zBt; rw [a5, a99]
  · unfold zBb zBt; rw [hw]
  · unfold zSb zsq; rw [a5, a99, hw]
/-- what lies on top -/
theorem zr_on {s : zSto} {v : Int} (hv : s 235 (s 164 99 - 1).toNat = v) (h1 : 1 ≤ s 164 99) (hb : s 164 101 ≤ s 164 99) (h4 : 1 ≤ v ∧ v ≤ 4) : zr s = 1 → s 164 101 < s 164 99 := by
  intro hr
  rcases Int.lt_or_le (s 164 101) (s 164 99) with h | h
  · exact h
  · have a := (zi_1.1 hr).2.1 (s 164 99 - 1).toNat (by omega)
    rw [hv] at a
    unfold zTl at a
    omega
theorem ztb_top {s : zSto} {v : Int} (hv : s 235 (s 164 99 - 1).toNat = v) (hb : 0 ≤ s 164 101) (hw : s 164 101 < s 164 99) : (20 ≤ v ∧ v ≤ 24 → ztb s = v) ∧ (ztb s = -1 → ¬ (20 ≤ v ∧ v ≤ 24)) := by
  have en : (s 164 99).toNat = (s 164 99 - 1).toNat + 1 := by omega
  have e : ztb s = if 20 ≤ v ∧ v ≤ 24 then v else zTB (s 235) (s 164 101).toNat (s 164 99 - 1).toNat := by
    unfold ztb
    rw [en]
    show (if (s 164 99 - 1).toNat < (s 164 101).toNat then -1 else if 20 ≤ s 235 (s 164 99 - 1).toNat ∧ s 235 (s 164 99 - 1).toNat ≤ 24 then s 235 (s 164 99 - 1).toNat else zTB (s 235) (s 164 101).toNat (s 164 99 - 1).toNat) = _
    rw [if_neg (by omega), hv]
  constructor
  · intro h; rw [e, if_pos h]
  · intro h h2; rw [e, if_pos h2] at h; omega
theorem ztb_no {s : zSto} (hw : s 164 99 ≤ s 164 101) : ztb s = -1 := by
  unfold ztb
  cases h : (s 164 99).toNat with
  | zero => rfl
  | succ n => show (if n < (s 164 101).toNat then (-1 : Int) else _) = -1; rw [if_pos (by omega)]
def ztk (s : zSto) (k : Int) : Int := zTB (s 235) (s 164 101).toNat k.toNat
theorem ztk_w (s : zSto) : ztk s (s 164 99) = ztb s := rfl
theorem ztk_no {s : zSto} {k : Int} (hw : k ≤ s 164 101) : ztk s k = -1 := by
  unfold ztk
  cases h : k.toNat with
  | zero => rfl
  | succ n => show (if n < (s 164 101).toNat then (-1 : Int) else _) = -1; rw [if_pos (by omega)]
theorem ztk_s {s : zSto} {k v : Int} (hv : s 235 k.toNat = v) (h0 : 0 ≤ s 164 101) (hb : s 164 101 ≤ k) : (20 ≤ v ∧ v ≤ 24 → ztk s (k + 1) = v) ∧ (¬ (20 ≤ v ∧ v ≤ 24) → ztk s (k + 1) = ztk s k) := by
  have en : (k + 1).toNat = k.toNat + 1 := by omega
  have e : ztk s (k + 1) = if 20 ≤ v ∧ v ≤ 24 then v else ztk s k := by
    unfold ztk
    rw [en]
    show (if k.toNat < (s 164 101).toNat then -1 else if 20 ≤ s 235 k.toNat ∧ s 235 k.toNat ≤ 24 then s 235 k.toNat else zTB (s 235) (s 164 101).toNat k.toNat) = _
    rw [if_neg (by omega), hv]
  constructor
  · intro h; rw [e, if_pos h]
  · intro h; rw [e, if_neg h]
theorem zSQ_b (f : Nat → Int) (n : Nat) : zSQ f n = 0 ∨ zSQ f n = 1 := by
  induction n with
  | zero => exact Or.inl rfl
  | succ n ih =>
    show (if f n = 25 then 1 else zSQ f n) = 0 ∨ (if f n = 25 then 1 else zSQ f n) = 1
    split
    · exact Or.inr rfl
    · exact ih
theorem zSQ_up {f : Nat → Int} {n m : Nat} (h : zSQ f n = 1) (hm : n ≤ m) : zSQ f m = 1 := by
  induction m with
  | zero => have : n = 0 := by omega
            subst this; exact h
  | succ m ih =>
    rcases Nat.lt_or_ge m n with h1 | h1
    · have : n = m + 1 := by omega
      subst this; exact h
    · show (if f m = 25 then 1 else zSQ f m) = 1
      split
      · rfl
      · exact ih h1
def zsk (s : zSto) (k : Int) : Int := zSQ (s 235) k.toNat
theorem zsk_0 (s : zSto) : zsk s 0 = 0 := rfl
theorem zsk_w (s : zSto) : zsk s (s 164 99) = zsq s := rfl
theorem zsk_s {s : zSto} {k v : Int} (hv : s 235 k.toNat = v) (h0 : 0 ≤ k) (hk : k < s 164 99) : (v = 25 → zsq s = 1) ∧ (v ≠ 25 → zsk s (k + 1) = zsk s k) := by
  have en : (k + 1).toNat = k.toNat + 1 := by omega
  have e : zsk s (k + 1) = if v = 25 then 1 else zsk s k := by
    unfold zsk
    rw [en]
    show (if s 235 k.toNat = 25 then 1 else zSQ (s 235) k.toNat) = _
    rw [hv]
  constructor
  · intro h
    rw [if_pos h] at e
    unfold zsk at e
    exact zSQ_up e (by omega)
  · intro h; rw [e, if_neg h]
theorem zsq_top {s : zSto} {v : Int} (hv : s 235 (s 164 99 - 1).toNat = v) (h1 : 1 ≤ s 164 99) : v = 25 → zsq s = 1 := by
  intro h
  exact (zsk_s hv (by omega) (by omega)).1 h
theorem zsq_0 {s : zSto} (h : s 164 99 ≤ 0) : zsq s = 0 ∧ zBt s = 0 := by
  have : (s 164 99).toNat = 0 := by omega
  unfold zsq zBt
  rw [this]
  exact ⟨rfl, rfl⟩
theorem zt_0 {s : zSto} (h : s 164 97 = 0) (h2 : s 164 99 = 0) : zt s = 1 ∧ zHt s = 0 ∧ zBt s = 0 ∧ zsq s = 0 := by
  refine ⟨zi_1.2 ⟨?_, ?_⟩, ?_, ?_, ?_⟩
  · rw [h]; intro i hi; exact absurd hi (Nat.not_lt_zero i)
  · rw [h2]; intro j hj; exact absurd hj (Nat.not_lt_zero j)
  · unfold zHt; rw [h]; rfl
  · unfold zBt; rw [h2]; rfl
  · unfold zsq; rw [h2]; rfl
theorem zdo {v : Int} (h : (40 ≤ v ∧ v < 60) ∨ 1000 ≤ v ∨ v = 13) : zdl v = 1 ∧ znd v = 0 := by
  unfold zdl znd
  repeat' split
  all_goals omega
theorem zdb {v : Int} (h : 1 ≤ v ∧ v ≤ 11) : zdl v = -1 ∧ znd v = 2 := by
  unfold zdl znd
  repeat' split
  all_goals omega
theorem zwr_eq {r x : Int} (h : r = (zI x).toInt) : -2147483648 ≤ x → x ≤ 2147483647 → r = x := fun a b => by rw [h, zI_t a b]
def zQ5 (k j : Nat) : Bool := (k == 164 && (j == 97 || j == 99 || j == 100)) || (k == 234 && decide (j < 1700)) || (k == 235 && decide (j < 1700))
theorem zq5_234 {j : Nat} (h : j < 1700) : zQ5 234 j = true := by simp [zQ5, h]
theorem zq5_235 {j : Nat} (h : j < 1700) : zQ5 235 j = true := by simp [zQ5, h]
theorem zi_52 : ∀ k j, zQ5 k j = true → zQ2 k j = true := by
  intro k j h
  simp only [zQ5, Bool.or_eq_true] at h
  rcases h with (h | h) | h
  · simp only [Bool.and_eq_true, Bool.or_eq_true] at h
    rcases h.2 with (h2 | h2) | h2 <;> simp only [zQ2, h.1, h2, Bool.true_or, Bool.or_true, Bool.and_self]
  · simp only [zQ2, h, Bool.true_or, Bool.or_true]
  · simp only [zQ2, h, Bool.true_or, Bool.or_true]
theorem zi_53 : ∀ k j, zQ5 k j = true → zQ3 k j = true := fun k j h => zi_23 k j (zi_52 k j h)
theorem ztopE {s s1 : zSto} {j : Nat} {v : Int} (h : zset s 164 j v = s1) (hj : j ≠ 99) : s1 235 (s1 164 99 - 1).toNat = s 235 (s 164 99 - 1).toNat := by
  subst h
  rw [zset_j (b := 99) hj.symm, zset_k (by decide)]
theorem ztopP {s s1 s2 : zSto} {j : Nat} {x v : Int} (h1 : zset s 164 99 x = s1) (h2 : zset s1 164 j v = s2) (hj : j ≠ 99) : s2 235 (s2 164 99).toNat = s 235 x.toNat := by
  subst h1 h2
  rw [zset_j (b := 99) hj.symm, zset_s, zset_k (by decide), zset_k (by decide)]
theorem zcd_ri {s s' : zSto} {v : Int} (h : s' = zcd s v) (h0 : 0 ≤ s 164 97) : znd v ≤ zHt s ∧ zr s = 1 → zr s' = 1 := fun a => zcd_r h h0 a.1 a.2
theorem zcd_ti {s s' : zSto} {v : Int} (h : s' = zcd s v) (h0 : 0 ≤ s 164 97) : znd v ≤ zHt s ∧ zt s = 1 → zt s' = 1 := fun a => zcd_t h h0 a.1 a.2
theorem zcd_f {s s' : zSto} {v : Int} (h : s' = zcd s v) : s' 164 97 = s 164 97 + 1 ∧ s' 164 99 = s 164 99 := by
  subst h
  exact ⟨zcd_c s v, zcd_m s v (by decide)⟩
theorem zcd_op {s s' : zSto} {v : Int} (h : s' = zcd s v) (h0 : 0 ≤ s 164 97) (hv : (40 ≤ v ∧ v < 60) ∨ 1000 ≤ v ∨ v = 13) (hr : zr s = 1) (hn : 0 ≤ zHt s) : zr s' = 1 ∧ zHt s' = zHt s + 1 := by
  have d := zdo hv
  have q := (zcd_h h h0).1
  exact ⟨zcd_r h h0 (by omega) hr, by omega⟩
theorem zcd_opT {s s' : zSto} {v : Int} (h : s' = zcd s v) (h0 : 0 ≤ s 164 97) (hv : (40 ≤ v ∧ v < 60) ∨ 1000 ≤ v ∨ v = 13) (hr : zt s = 1) (hn : 0 ≤ zHt s) : zt s' = 1 ∧ zHt s' = zHt s + 1 := by
  have d := zdo hv
  have q := (zcd_h h h0).1
  exact ⟨zcd_t h h0 (by omega) hr, by omega⟩
theorem zcd_bn {s s' : zSto} {v : Int} (h : s' = zcd s v) (h0 : 0 ≤ s 164 97) (hv : 1 ≤ v ∧ v ≤ 11) (hr : zr s = 1) (hn : 2 ≤ zHt s) : zr s' = 1 ∧ zHt s' = zHt s - 1 := by
  have d := zdb hv
  have q := (zcd_h h h0).1
  exact ⟨zcd_r h h0 (by omega) hr, by omega⟩
theorem zcd_bnT {s s' : zSto} {v : Int} (h : s' = zcd s v) (h0 : 0 ≤ s 164 97) (hv : 1 ≤ v ∧ v ≤ 11) (hr : zt s = 1) (hn : 2 ≤ zHt s) : zt s' = 1 ∧ zHt s' = zHt s - 1 := by
  have d := zdb hv
  have q := (zcd_h h h0).1
  exact ⟨zcd_t h h0 (by omega) hr, by omega⟩
theorem zcd_e {s s' : zSto} {v : Int} (h : s' = zcd s v) (h0 : 0 ≤ s 164 97) : zBt s' = zBt s ∧ zBb s' = zBb s ∧ zSb s' = zSb s ∧ zsq s' = zsq s ∧ ztb s' = ztb s ∧ s' 164 97 = s 164 97 + 1 ∧ s' 164 99 = s 164 99 := by
  have q := (zcd_h h h0).2
  have f := zcd_f h
  exact ⟨q.1, q.2.1, q.2.2.1, q.2.2.2.1, q.2.2.2.2, f.1, f.2⟩
theorem zpopS {s s1 : zSto} {x : Int} (h : zset s 164 99 x = s1) (hx : x = s 164 99 - 1) (h0 : 0 ≤ x) (hb : 0 ≤ s 164 101) (hr : zr s = 1) (hv : s 235 x.toNat = 20 ∨ s 235 x.toNat = 23 ∨ s 235 x.toNat = 24) : zr s1 = 1 ∧ zHt s1 = zHt s ∧ zBb s1 = zBb s ∧ zSb s1 = zSb s ∧ 0 ≤ zBt s1 ∧ (s 235 x.toNat = 20 → zBt s1 = zBt s) ∧ (s 235 x.toNat ≠ 20 → zBt s = zBt s1 + 1) := by
  have p := zpop h hx h0 hb
  have w := zw_v (s 235 x.toNat)
  refine ⟨p.2.2.2.2.1 hr, p.1, p.2.2.1, p.2.2.2.1, zBt_nn s1, ?_, ?_⟩
  · intro e
    have := w.2.2.2.1 (by omega)
    have := p.2.1
    omega
  · intro e
    have := w.2.2.2.2.1 (by omega)
    have := p.2.1
    omega
theorem zpopT {s s1 : zSto} {x : Int} (h : zset s 164 99 x = s1) (hx : x = s 164 99 - 1) (h0 : 0 ≤ x) (hb : 0 ≤ s 164 101) (hr : zt s = 1) (hv : s 235 x.toNat = 25) : zt s1 = 1 ∧ zHt s1 = zHt s ∧ zBt s1 = zBt s := by
  have p := zpop h hx h0 hb
  have w := (zw_v (s 235 x.toNat)).2.2.2.2.2 (by omega)
  have := p.2.1
  exact ⟨p.2.2.2.2.2.1 hr, p.1, by omega⟩
theorem zsq_p {s : zSto} (h : zsq s = 1) : 1 ≤ s 164 99 := by
  rcases Int.lt_or_le 0 (s 164 99) with h1 | h1
  · exact h1
  · have := (zsq_0 h1).1
    omega
theorem zbase2r {s s1 : zSto} {x : Int} (h : zset s 164 101 x = s1) (hw : s 164 99 = s 164 101) (hr : zr s = 1) : zt s1 = 1 ∧ zHt s1 = zHt s ∧ zBt s1 = zBt s ∧ zBt s = zBb s ∧ zsq s1 = zSb s := by
  have q := zbase2 h hw
  exact ⟨q.1 hr, q.2⟩
