def yckn (f : Int → Int) : Nat → Int
  | 0 => 127
  | n + 1 => Int.tmod (3 * yckn f n + f n) 251
def yckz (f : Int → Int) (k : Int) : Int := yckn f k.toNat
theorem yckz_0 {f : Int → Int} : 127 = yckz f 0 := rfl
theorem yckz_s {f : Int → Int} {k c b u r : Int} (h : c = yckz f k) (h0 : 0 ≤ k) (hb : b = f u) (hu : u = k) (e : r = Int.tmod (3 * c + b) 251) : r = yckz f (k + 1) := by
  rw [e, h, hb, hu]
  unfold yckz
  rw [show (k + 1).toNat = k.toNat + 1 by omega]
  show _ = Int.tmod (3 * yckn f k.toNat + f ((k.toNat : Nat) : Int)) 251
  rw [show ((k.toNat : Nat) : Int) = k by omega]
def yOt (f : Int → Int) (b p k : Int) : Prop := ∀ q : Nat, (q : Int) < k → ¬ (f (b + 4 * (q : Int)) = f (b + 4 * p) ∧ f (b + 4 * (q : Int) + 1) = f (b + 4 * p + 1))
theorem yOt_0 {f : Int → Int} {b p : Int} : yOt f b p 0 := fun q h => absurd h (by omega)
theorem yOt_le {f : Int → Int} {b p k j : Int} (h : yOt f b p k) (l : j ≤ k) : yOt f b p j := fun q hq => h q (by omega)
theorem yOt_s {f : Int → Int} {b p k x y c d : Int} (h : yOt f b p k) (hx : x = f (b + 4 * k)) (hy : y = f (b + 4 * k + 1)) (hc : c = f (b + 4 * p)) (hd : d = f (b + 4 * p + 1)) (g : ¬ (x = c ∧ y = d)) : yOt f b p (k + 1) := by
  intro q hq
  by_cases e : (q : Int) < k
  · exact h q e
  · rw [show (q : Int) = k by omega, ← hx, ← hy, ← hc, ← hd]; exact g
theorem yOt_s1 {f : Int → Int} {b p k x c : Int} (h : yOt f b p k) (hx : x = f (b + 4 * k)) (hc : c = f (b + 4 * p)) (g : x ≠ c) : yOt f b p (k + 1) := yOt_s h hx rfl hc rfl (fun e => g e.1)
theorem yOt_s2 {f : Int → Int} {b p k y d : Int} (h : yOt f b p k) (hy : y = f (b + 4 * k + 1)) (hd : d = f (b + 4 * p + 1)) (g : y ≠ d) : yOt f b p (k + 1) := yOt_s h rfl hy rfl hd (fun e => g e.2)
theorem yOt_n {f : Int → Int} {b p k n x y c d : Int} (h0 : 0 ≤ k) (hk : k < n) (hx : x = f (b + 4 * k)) (hy : y = f (b + 4 * k + 1)) (hc : c = f (b + 4 * p)) (hd : d = f (b + 4 * p + 1)) (g : x = c ∧ y = d) : ¬ yOt f b p n := by
  intro h
  have q := h k.toNat (by omega)
  rw [show ((k.toNat : Nat) : Int) = k by omega, ← hx, ← hy, ← hc, ← hd] at q
  exact q g
def yPe (f : Int → Int) (b c r p : Int) : Prop := (0 ≤ f (b + 4 * p) ∧ f (b + 4 * p) < c ∧ 0 ≤ f (b + 4 * p + 1) ∧ f (b + 4 * p + 1) < r) ∧ (f (b + 4 * p + 2) ≤ 99 ∧ f (b + 4 * p + 3) ≤ 1) ∧ yOt f b p p
theorem yPe_y {f : Int → Int} {b c r p x y t u : Int} (hx : x = f (b + 4 * p)) (hy : y = f (b + 4 * p + 1)) (ht : t = f (b + 4 * p + 2)) (hu : u = f (b + 4 * p + 3)) (g : 0 ≤ x ∧ x < c ∧ 0 ≤ y ∧ y < r) (i : t ≤ 99 ∧ u ≤ 1) (o : yOt f b p p) : yPe f b c r p := by
  subst hx hy ht hu
  exact ⟨g, i, o⟩
theorem yPe_c {f : Int → Int} {b c r p x y : Int} (hx : x = f (b + 4 * p)) (hy : y = f (b + 4 * p + 1)) (g : ¬ (0 ≤ x ∧ x < c ∧ 0 ≤ y ∧ y < r)) : ¬ yPe f b c r p := by
  subst hx hy
  exact fun h => g h.1
theorem yPe_t {f : Int → Int} {b c r p t : Int} (ht : t = f (b + 4 * p + 2)) (g : ¬ t ≤ 99) : ¬ yPe f b c r p := by
  subst ht
  exact fun h => g h.2.1.1
theorem yPe_u {f : Int → Int} {b c r p u : Int} (hu : u = f (b + 4 * p + 3)) (g : ¬ u ≤ 1) : ¬ yPe f b c r p := by
  subst hu
  exact fun h => g h.2.1.2
theorem yPe_o {f : Int → Int} {b c r p : Int} (h : ¬ yOt f b p p) : ¬ yPe f b c r p := fun g => h g.2.2
def yCe (f : Int → Int) (k : Int) : Prop := ∀ i : Nat, (i : Int) < k → f (2 + (i : Int)) ≤ 1
theorem yCe_0 {f : Int → Int} : yCe f 0 := fun i h => absurd h (by omega)
theorem yCe_s {f : Int → Int} {k v u : Int} (h : yCe f k) (hv : v = f u) (hu : u = 2 + k) (l : v ≤ 1) : yCe f (k + 1) := by
  intro i hi
  by_cases c : (i : Int) < k
  · exact h i c
  · rw [show (i : Int) = k by omega, ← hu, ← hv]; exact l
theorem yCe_n {f : Int → Int} {k n v u : Int} (h0 : 0 ≤ k) (hk : k < n) (hv : v = f u) (hu : u = 2 + k) (l : ¬ v ≤ 1) : ¬ yCe f n := by
  intro h
  have q := h k.toNat (by omega)
  rw [show ((k.toNat : Nat) : Int) = k by omega, ← hu, ← hv] at q
  exact l q
def yPs_ (f : Int → Int) (b c r k : Int) : Prop := ∀ p : Nat, (p : Int) < k → yPe f b c r p
theorem yPs__0 {f : Int → Int} {b c r : Int} : yPs_ f b c r 0 := fun i h => absurd h (by omega)
theorem yPs__s {f : Int → Int} {b c r k : Int} (h : yPs_ f b c r k) (g : yPe f b c r k) : yPs_ f b c r (k + 1) := by
  intro i hi
  by_cases q : (i : Int) < k
  · exact h i q
  · rw [show (i : Int) = k by omega]; exact g
theorem yPs__n {f : Int → Int} {b c r k n : Int} (h0 : 0 ≤ k) (hk : k < n) (g : ¬ yPe f b c r k) : ¬ yPs_ f b c r n := by
  intro h
  have q := h k.toNat (by omega)
  rw [show ((k.toNat : Nat) : Int) = k by omega] at q
  exact g q
def yHd (f : Int → Int) (n c r m : Int) : Prop := 1 ≤ c ∧ n = 3 + c * r + 4 * m ∧ f (n - 1) = yckz f (n - 1) ∧ 256 * f 0 + f 1 ≤ 999
def yIx (f : Int → Int) (n c r m : Int) : Prop := yHd f n c r m ∧ yCe f (c * r) ∧ yPs_ f (2 + c * r) c r m
theorem yHd_y {f : Int → Int} {n c r m a b h l : Int} (h1 : 1 ≤ c) (h2 : n = 3 + c * r + 4 * m) (ha : a = f l) (hl : l = n - 1) (hb : b = yckz f l) (e : a = b) (hh : h = 256 * f 0 + f 1) (g : h ≤ 999) : yHd f n c r m := ⟨h1, h2, by rw [← hl, ← ha, ← hb]; exact e, by rw [← hh]; exact g⟩
theorem yIx_c {f : Int → Int} {n c r m : Int} (h : ¬ 1 ≤ c) : ¬ yIx f n c r m := fun g => h g.1.1
theorem yIx_l {f : Int → Int} {n c r m : Int} (h : ¬ n = 3 + c * r + 4 * m) : ¬ yIx f n c r m := fun g => h g.1.2.1
theorem yIx_k {f : Int → Int} {n c r m a b l : Int} (ha : a = f l) (hl : l = n - 1) (hb : b = yckz f l) (e : a ≠ b) : ¬ yIx f n c r m := by
  intro g
  have q := g.1.2.2.1
  rw [← hl, ← ha, ← hb] at q
  exact e q
theorem yIx_h {f : Int → Int} {n c r m h : Int} (hh : h = 256 * f 0 + f 1) (g : ¬ h ≤ 999) : ¬ yIx f n c r m := fun q => g (by rw [hh]; exact q.1.2.2.2)
def yIr (P : Prop) (x : Int) : Prop := (P → x = 1) ∧ (¬ P → x = 0)
theorem yIr_u {P : Prop} {x y : Int} (h : yIr P x) (g : yIr P y) : x = y := by
  by_cases c : P
  · exact (h.1 c).trans (g.1 c).symm
  · exact (h.2 c).trans (g.2 c).symm
theorem yIr_y {P : Prop} {x : Int} (c : P) (e : x = 1) : yIr P x := ⟨fun _ => e, fun n => absurd c n⟩
theorem yIr_n {P : Prop} {x : Int} (c : ¬ P) (e : x = 0) : yIr P x := ⟨fun h => absurd h c, fun _ => e⟩
theorem yIr_b {P : Prop} {x : Int} (h : yIr P x) : (x = 1 ∧ P) ∨ (x = 0 ∧ ¬ P) := by
  by_cases c : P
  · exact Or.inl ⟨h.1 c, c⟩
  · exact Or.inr ⟨h.2 c, c⟩
def ysl (a b : Int) : Int := (zI a <<< (zI b &&& 31)).toInt
def yor (a b : Int) : Int := (zI a ||| zI b).toInt
theorem ysl_8 {a : Int} (h : 0 ≤ a ∧ a ≤ 255) : ysl a 8 = 256 * a := by
  have q : ∀ n : Nat, n < 256 → (zI (n : Int) <<< (zI 8 &&& 31)).toInt = 256 * (n : Int) := by decide +kernel
  have e := q a.toNat (by omega)
  rw [show ((a.toNat : Nat) : Int) = a by omega] at e
  exact e
theorem yor_p {a b : Int} (ha : 0 ≤ a ∧ a ≤ 255) (hb : 0 ≤ b ∧ b ≤ 255) : yor (256 * a) b = 256 * a + b := by
  obtain ⟨m, rfl⟩ : ∃ m : Nat, a = (m : Int) := ⟨a.toNat, by omega⟩
  obtain ⟨n, rfl⟩ : ∃ n : Nat, b = (n : Int) := ⟨b.toNat, by omega⟩
  unfold yor
  have hz : ∀ k : Nat, k < 2147483648 → zI (k : Int) = nI k := fun k hk => Int32.toInt_inj.1 (by rw [zI_t (by omega) (by omega), nI_toInt (by omega)])
  have hm : (256 * (m : Int)) = ((256 * m : Nat) : Int) := by omega
  have ho : nI (256 * m) ||| nI n = nI (256 * m + n) := by
    rw [show 256 * m + n = 256 * m ||| n from Nat.two_pow_add_eq_or_of_lt (i := 8) (by omega) m]
    apply Int32.toBitVec_inj.1
    show BitVec.ofNat 32 (256 * m) ||| BitVec.ofNat 32 n = BitVec.ofNat 32 (256 * m ||| n)
    apply BitVec.eq_of_getLsbD_eq
    intro i hi
    simp [hi]
  rw [hm, hz _ (by omega), hz _ (by omega), ho, nI_toInt (by omega)]
  omega
theorem ypair {a b c d r : Int} (ha : 0 ≤ a ∧ a ≤ 255) (hb : 0 ≤ b ∧ b ≤ 255) (z : c = ysl a 8) (y : r = yor c b) (hd : d = 256 * a + b) : r = d := by
  rw [y, z, ysl_8 ha, yor_p ha hb, hd]
theorem yT_r {s : zSto} {k : Int} (h : 0 ≤ k ∧ k < s 1 1) : 0 ≤ yT s k ∧ yT s k ≤ 255 := by
  unfold yT
  rw [if_pos h]
  omega
def yBz (x c y d r : Int) : Prop := (x = c ∧ y = d → r = 0) ∧ (¬ (x = c ∧ y = d) → r ≠ 0)
theorem yBz_0 {x c y d r : Int} (h : yBz x c y d r) (e : r = 0) : x = c ∧ y = d := Decidable.byContradiction (fun g => h.2 g e)
theorem yBz_1 {x c y d r : Int} (h : yBz x c y d r) (e : r ≠ 0) : ¬ (x = c ∧ y = d) := fun g => e (h.1 g)
def yAh (f : Int → Int) (s : zSto) (b n : Int) : Prop := ∀ q : Nat, (q : Int) < n → s 41 q = f (b + 4 * (q : Int)) ∧ s 42 q = f (b + 4 * (q : Int) + 1)
theorem yAh_0 {f : Int → Int} {s : zSto} {b : Int} : yAh f s b 0 := fun q h => absurd h (by omega)
theorem yAh_a {f : Int → Int} {s : zSto} {b n k : Int} (h : yAh f s b n) (h0 : 0 ≤ k) (h1 : k < n) : s 41 k.toNat = f (b + 4 * k) ∧ s 42 k.toNat = f (b + 4 * k + 1) := by
  have q := h k.toNat (by omega)
  rw [show ((k.toNat : Nat) : Int) = k by omega] at q
  exact q
theorem yAh_s {f : Int → Int} {b p : Int} {σ s1 s2 s3 s4 : zSto} {v1 v2 v3 v4 : Int} (h : yAh f σ b p) (e1 : zset σ 41 p.toNat v1 = s1) (e2 : zset s1 42 p.toNat v2 = s2) (e3 : zset s2 43 p.toNat v3 = s3) (e4 : zset s3 40 7 v4 = s4) (h0 : 0 ≤ p) (hv : v1 = f (b + 4 * p)) (hw : v2 = f (b + 4 * p + 1)) : yAh f s4 b (p + 1) := by
  have k1 : ∀ j, s4 41 j = s1 41 j := fun j => by rw [← e4, zset_k (by decide), ← e3, zset_k (by decide), ← e2, zset_k (by decide)]
  have k2 : ∀ j, s4 42 j = s2 42 j := fun j => by rw [← e4, zset_k (by decide), ← e3, zset_k (by decide)]
  have k3 : ∀ j, s1 42 j = σ 42 j := fun j => by rw [← e1, zset_k (by decide)]
  intro q hq
  by_cases e : (q : Int) < p
  · have n : q ≠ p.toNat := by omega
    have a1 : s1 41 q = σ 41 q := by rw [← e1]; exact zset_j n
    have a2 : s2 42 q = s1 42 q := by rw [← e2]; exact zset_j n
    exact ⟨(k1 q).trans (a1.trans (h q e).1), (k2 q).trans (a2.trans ((k3 q).trans (h q e).2))⟩
  · have n : q = p.toNat := by omega
    have n2 : (q : Int) = p := by omega
    have a1 : s1 41 q = v1 := by rw [← e1, n]; exact zset_s
    have a2 : s2 42 q = v2 := by rw [← e2, n]; exact zset_s
    rw [n2]
    exact ⟨(k1 q).trans (a1.trans hv), (k2 q).trans (a2.trans hw)⟩
def zSe (k _j : Nat) : Bool := k == 40 || k == 41 || k == 42 || k == 43
def yJ1 (f : Int → Int) (n c r m v k : Int) : Prop := (v = 1 ∧ yHd f n c r m ∧ yCe f k) ∨ (v = 0 ∧ ¬ yIx f n c r m)
def yJ2 (f : Int → Int) (s : zSto) (n c r m v k : Int) : Prop := (v = 1 ∧ yHd f n c r m ∧ yCe f (c * r) ∧ yPs_ f (2 + c * r) c r k ∧ yAh f s (2 + c * r) k) ∨ (v = 0 ∧ ¬ yIx f n c r m)
def yTf (s : zSto) (f : Int → Int) (n : Int) : Prop := ∀ j : Nat, (j : Int) < n → s 165 j = f (j : Int)
theorem yTf_a {s : zSto} {f : Int → Int} {n u v : Int} (h : yTf s f n) (h0 : 0 ≤ u) (h1 : u < n) (hv : s 165 u.toNat = v) : v = f u := by
  rw [← hv, h u.toNat (by omega), show ((u.toNat : Nat) : Int) = u by omega]
theorem yTf_w {σ s : zSto} (e : ∀ j, s 165 j = σ 165 j) : yTf s (yW σ) (σ 164 1) := fun j h => yW_j (e j) rfl h
theorem yPne_eq {σ s : zSto} (h : yPne σ) (e : s 164 50 = σ 164 50) (g : s 194 3 = σ 194 3) : yPne s := by
  unfold yPne
  rw [e, g]
  exact h
theorem yIx_zip {f : Int → Int} {s : zSto} {n c r m : Int} (h : yIx f n c r m) (t : yTf s f n) (hc : c ≤ 6) (hr : r ≤ 6) (b : 0 ≤ c * r) : zip s (2 + c * r) m = 1 := by
  refine zi_1.2 (fun p hp => ?_)
  have q := h.2.2 p hp
  have l := h.1.2.1
  have x := yTf_a (u := 2 + c * r + 4 * (p : Int)) t (by omega) (by omega) rfl
  have y := yTf_a (u := 2 + c * r + 4 * (p : Int) + 1) t (by omega) (by omega) rfl
  have q1 := q.1
  rw [x, y]
  omega
