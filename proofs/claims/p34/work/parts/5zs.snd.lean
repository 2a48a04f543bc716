def ySd (f : Int → Int) (c r i : Int) : Prop := ∀ k : Nat, (k : Int) < i → 0 ≤ f (4 * (k : Int)) ∧ f (4 * (k : Int)) < c ∧ 0 ≤ f (4 * (k : Int) + 1) ∧ f (4 * (k : Int) + 1) < r
theorem ySd_0 {f : Int → Int} {c r : Int} : ySd f c r 0 := fun k h => absurd h (by omega)
theorem ySd_s {f : Int → Int} {c r i x y u w : Int} (h : ySd f c r i) (h0 : 0 ≤ i) (hx : x = f u) (hu : u = 4 * i) (hy : y = f w) (hw : w = 4 * i + 1) (g : 0 ≤ x ∧ x < c ∧ 0 ≤ y ∧ y < r) : ySd f c r (i + 1) := by
  intro k hk
  by_cases e : (k : Int) < i
  · exact h k e
  · have q : (k : Int) = i := by omega
    rw [q]
    rw [hx, hy, hu, hw] at g
    exact g
theorem ySd_le {f : Int → Int} {c r i j : Int} (h : ySd f c r i) (l : j ≤ i) : ySd f c r j := fun k hk => h k (by omega)
theorem ySd_a {f : Int → Int} {c r i k u : Int} (h : ySd f c r i) (h0 : 0 ≤ k) (h1 : k < i) (hu : u = 4 * k) : 0 ≤ f u ∧ f u < c := by
  have q := h k.toNat (by omega)
  rw [show ((k.toNat : Nat) : Int) = k by omega, ← hu] at q
  exact ⟨q.1, q.2.1⟩
theorem ySd_b {f : Int → Int} {c r i k u : Int} (h : ySd f c r i) (h0 : 0 ≤ k) (h1 : k < i) (hu : u = 4 * k + 1) : 0 ≤ f u ∧ f u < r := by
  have q := h k.toNat (by omega)
  rw [show ((k.toNat : Nat) : Int) = k by omega, ← hu] at q
  exact ⟨q.2.2.1, q.2.2.2⟩
def ySx (f : Int → Int) (n c r x : Int) : Prop := ((1 ≤ n ∧ n % 4 = 0 ∧ n ≤ 48 ∧ 1 ≤ c ∧ ySd f c r (n / 4)) → x = n / 4) ∧ (¬ (1 ≤ n ∧ n % 4 = 0 ∧ n ≤ 48 ∧ 1 ≤ c ∧ ySd f c r (n / 4)) → x = -1)
theorem ySx_u {f : Int → Int} {n c r x y : Int} (h : ySx f n c r x) (g : ySx f n c r y) : x = y := by
  by_cases a : 1 ≤ n ∧ n % 4 = 0 ∧ n ≤ 48 ∧ 1 ≤ c ∧ ySd f c r (n / 4)
  · exact (h.1 a).trans (g.1 a).symm
  · exact (h.2 a).trans (g.2 a).symm
theorem ySx_y {f : Int → Int} {n c r x : Int} (a : 1 ≤ n ∧ n % 4 = 0 ∧ n ≤ 48 ∧ 1 ≤ c) (d : ySd f c r (n / 4)) (e : x = n / 4) : ySx f n c r x := ⟨fun _ => e, fun h => absurd ⟨a.1, a.2.1, a.2.2.1, a.2.2.2, d⟩ h⟩
theorem ySx_n {f : Int → Int} {n c r x : Int} (a : ¬ (1 ≤ n ∧ n % 4 = 0 ∧ n ≤ 48 ∧ 1 ≤ c)) (e : x = -1) : ySx f n c r x := ⟨fun h => absurd ⟨h.1, h.2.1, h.2.2.1, h.2.2.2.1⟩ a, fun _ => e⟩
theorem ySx_k {f : Int → Int} {n c r k x y u w z : Int} (h0 : 0 ≤ k) (h1 : k < n / 4) (hx : x = f u) (hu : u = 4 * k) (hy : y = f w) (hw : w = 4 * k + 1) (g : ¬ (0 ≤ x ∧ x < c ∧ 0 ≤ y ∧ y < r)) (e : z = -1) : ySx f n c r z := by
  refine ⟨fun h => absurd ?_ g, fun _ => e⟩
  have a := ySd_a h.2.2.2.2 h0 h1 hu
  have b := ySd_b h.2.2.2.2 h0 h1 hw
  rw [← hx] at a
  rw [← hy] at b
  exact ⟨a.1, a.2, b.1, b.2⟩
theorem ysph {A : Prop} {r : Int} (h : (A → r = 1) ∧ (¬ A → r = 0)) : (r = 1 ∧ A) ∨ (r = 0 ∧ ¬ A) := by
  by_cases c : A
  · exact Or.inl ⟨h.1 c, c⟩
  · exact Or.inr ⟨h.2 c, c⟩
def zSd (k j : Nat) : Bool := (k == 147 && j == 5) || k == 151 || k == 152
def zSm (k _j : Nat) : Bool := !(k == 165)
theorem zSm_N {a b : zSto} (h : zGM a b) : zOn zSm a b := fun k j x => by
  have e : k = 165 := by
    simp only [zSm, Bool.not_eq_false', beq_iff_eq] at x
    exact x
  subst e
  exact congrFun (h.1.1 165 (by decide)) j
def yPne (s : zSto) : Prop := (s 164 50 = 1 ∧ 2 ≤ s 194 3) ∨ (s 164 50 = 0 ∧ s 194 3 = 0)
theorem yPne_0 {s : zSto} (h : yPne s) (e : s 164 50 = 0) : s 194 3 = 0 := by rcases h with h | h <;> omega
theorem yPne_1 {s : zSto} (h : yPne s) (e : s 164 50 ≠ 0) : 1 ≤ s 194 3 ∧ s 164 50 = 1 := by rcases h with h | h <;> omega
theorem yPne_2 {s : zSto} (h : yPne s) (e : 1 ≤ s 194 3) : s 164 50 = 1 := by rcases h with h | h <;> omega
theorem yW_j {σ s : zSto} {u : Int} {j : Nat} (e : s 165 j = σ 165 j) (hu : (j : Int) = u) (h1 : u < σ 164 1) : s 165 j = yW σ u := by
  unfold yW
  rw [if_pos ⟨by omega, h1⟩, e, show u.toNat = j by omega]
def ySy (f : Int → Int) (n c r v i : Int) : Prop := (v = 1 ∧ (1 ≤ n ∧ n % 4 = 0 ∧ n ≤ 48 ∧ 1 ≤ c) ∧ (0 ≤ i ∧ i % 4 = 0) ∧ ySd f c r (i / 4)) ∨ (v = 0 ∧ ySx f n c r (-1))
theorem ySy_s {f : Int → Int} {n c r i x y u w : Int} (a : 1 ≤ n ∧ n % 4 = 0 ∧ n ≤ 48 ∧ 1 ≤ c) (b : 0 ≤ i ∧ i % 4 = 0) (h : ySd f c r (i / 4)) (hx : x = f u) (hu : u = i) (hy : y = f w) (hw : w = i + 1) (g : 0 ≤ x ∧ x < c ∧ 0 ≤ y ∧ y < r) : ySy f n c r 1 (i + 4) := by
  refine Or.inl ⟨rfl, a, by omega, ?_⟩
  have q := ySd_s h (by omega) hx (by omega) hy (by omega) g
  rw [show (i + 4) / 4 = i / 4 + 1 by omega]
  exact q
theorem ySy_k {f : Int → Int} {n c r i x y u w : Int} (b : 0 ≤ i ∧ i % 4 = 0) (l : i < n) (m : n % 4 = 0) (hx : x = f u) (hu : u = i) (hy : y = f w) (hw : w = i + 1) (g : ¬ (0 ≤ x ∧ x < c ∧ 0 ≤ y ∧ y < r)) (j : Int) : ySy f n c r 0 j := Or.inr ⟨rfl, ySx_k (k := i / 4) (by omega) (by omega) hx (by omega) hy (by omega) g rfl⟩
