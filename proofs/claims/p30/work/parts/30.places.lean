def zQ1 (k j : Nat) : Bool := (k == 164 && (j == 2 || j == 4 || j == 5 || j == 6 || j == 10 || j == 38))
def zQ2 (k j : Nat) : Bool := zQ1 k j || (k == 164 && (j == 97 || j == 99 || j == 100 || j == 101 || j == 51)) || (k == 234 && decide (j < 1700)) || (k == 235 && decide (j < 1700))
theorem zq2_234 {j : Nat} (h : j < 1700) : zQ2 234 j = true := by simp [zQ1, zQ2, h]
theorem zq2_235 {j : Nat} (h : j < 1700) : zQ2 235 j = true := by simp [zQ1, zQ2, h]
def zQ3 (k j : Nat) : Bool := zQ2 k j || (k == 164 && (j == 48 || j == 49)) || (k == 194 && decide (j < 3)) || (k == 195 && decide (j < 1)) || (k == 196 && decide (j < 10)) || (k == 197 && decide (j < 36)) || (k == 198 && decide (j < 20)) || (k == 199 && decide (j < 3)) || (k == 200 && decide (j < 2)) || (k == 201 && decide (j < 2)) || (k == 202 && decide (j < 1600))
theorem zq3_234 {j : Nat} (h : j < 1700) : zQ3 234 j = true := by simp [zQ1, zQ2, zQ3, h]
theorem zq3_235 {j : Nat} (h : j < 1700) : zQ3 235 j = true := by simp [zQ1, zQ2, zQ3, h]
theorem zq3_194 {j : Nat} (h : j < 3) : zQ3 194 j = true := by simp [zQ1, zQ2, zQ3, h]
theorem zq3_195 {j : Nat} (h : j < 1) : zQ3 195 j = true := by simp [zQ1, zQ2, zQ3, h]
theorem zq3_196 {j : Nat} (h : j < 10) : zQ3 196 j = true := by simp [zQ1, zQ2, zQ3, h]
theorem zq3_197 {j : Nat} (h : j < 36) : zQ3 197 j = true := by simp [zQ1, zQ2, zQ3, h]
theorem zq3_198 {j : Nat} (h : j < 20) : zQ3 198 j = true := by simp [zQ1, zQ2, zQ3, h]
theorem zq3_199 {j : Nat} (h : j < 3) : zQ3 199 j = true := by simp [zQ1, zQ2, zQ3, h]
theorem zq3_200 {j : Nat} (h : j < 2) : zQ3 200 j = true := by simp [zQ1, zQ2, zQ3, h]
theorem zq3_201 {j : Nat} (h : j < 2) : zQ3 201 j = true := by simp [zQ1, zQ2, zQ3, h]
theorem zq3_202 {j : Nat} (h : j < 1600) : zQ3 202 j = true := by simp [zQ1, zQ2, zQ3, h]
def zOn (P : Nat → Nat → Bool) (σ σ' : zSto) : Prop := ∀ k j, P k j = false → σ' k j = σ k j
theorem zOn_rf (P : Nat → Nat → Bool) (σ : zSto) : zOn P σ σ := fun _ _ _ => rfl
theorem zOn_tr {P Q : Nat → Nat → Bool} {a b c : zSto} (h1 : zOn P a b) (h2 : zOn Q b c) (hQ : ∀ k j, Q k j = true → P k j = true) : zOn P a c := by
  intro k j h
  have hq : Q k j = false := by
    cases hx : Q k j with
    | false => rfl
    | true => rw [hQ k j hx] at h; cases h
  rw [h2 k j hq, h1 k j h]
theorem zOn_set {P : Nat → Nat → Bool} {σ s : zSto} {k j : Nat} {v : Int} (h : zOn P σ s) (hp : P k j = true) : zOn P σ (zset s k j v) := by
  intro a b hab
  by_cases e : a = k ∧ b = j
  · obtain ⟨rfl, rfl⟩ := e
    rw [hp] at hab
    cases hab
  · have : zset s k j v a b = s a b := by simp [zset, e]
    rw [this]
    exact h a b hab
theorem zi_id {P : Nat → Nat → Bool} : ∀ k j, P k j = true → P k j = true := fun _ _ h => h
theorem zi_12 : ∀ k j, zQ1 k j = true → zQ2 k j = true := fun k j h => by simp only [zQ2, h, Bool.true_or]
theorem zi_23 : ∀ k j, zQ2 k j = true → zQ3 k j = true := fun k j h => by simp only [zQ3, h, Bool.true_or]
theorem zi_13 : ∀ k j, zQ1 k j = true → zQ3 k j = true := fun k j h => zi_23 k j (zi_12 k j h)
theorem zP_lo {k j : Nat} (h : k < zNK) : zQ3 k j = false := by
  have h : k < 164 := h
  have h1 : ∀ c, 164 ≤ c → (k == c) = false := fun c hc => by simp; omega
  simp only [zQ3, zQ2, zQ1, h1 164 (by decide), h1 194 (by decide), h1 195 (by decide), h1 196 (by decide), h1 197 (by decide), h1 198 (by decide), h1 199 (by decide), h1 200 (by decide), h1 201 (by decide), h1 202 (by decide), h1 234 (by decide), h1 235 (by decide), Bool.false_and, Bool.or_self]
theorem zOn_N {σ σ' : zSto} (h : zOn zQ3 σ σ') : zFN σ σ' := fun k hk => funext fun j => h k j (zP_lo hk)
theorem zOn_up {P : Nat → Nat → Bool} {σ σ' : zSto} (h : zOn P σ σ') (hP : ∀ k j, P k j = true → zQ3 k j = true) : zOn zQ3 σ σ' := zOn_tr (zOn_rf zQ3 σ) h hP
def zQ4 (k j : Nat) : Bool := zQ1 k j || (k == 195 && decide (j < 1)) || (k == 196 && decide (j < 10)) || (k == 197 && decide (j < 36)) || (k == 198 && decide (j < 20))
theorem zq4_195 {j : Nat} (h : j < 1) : zQ4 195 j = true := by simp [zQ1, zQ4, h]
theorem zq4_196 {j : Nat} (h : j < 10) : zQ4 196 j = true := by simp [zQ1, zQ4, h]
theorem zq4_197 {j : Nat} (h : j < 36) : zQ4 197 j = true := by simp [zQ1, zQ4, h]
theorem zq4_198 {j : Nat} (h : j < 20) : zQ4 198 j = true := by simp [zQ1, zQ4, h]
theorem zi_14 : ∀ k j, zQ1 k j = true → zQ4 k j = true := fun k j h => by simp only [zQ4, h, Bool.true_or]
theorem zi_43 : ∀ k j, zQ4 k j = true → zQ3 k j = true := by
  intro k j h
  simp only [zQ4, Bool.or_eq_true] at h
  rcases h with (((h | h) | h) | h) | h <;> simp only [zQ3, zQ2, h, Bool.true_or, Bool.or_true]
