def zQ1 (k j : Nat) : Bool := (k == 164 && (j == 2 || j == 4 || j == 5 || j == 6 || j == 10 || j == 38))
def zQ2 (k j : Nat) : Bool := zQ1 k j || (k == 164 && (j == 97 || j == 99 || j == 100 || j == 101 || j == 51)) || (k == 234 && decide (j < 1700)) || (k == 235 && decide (j < 1700))
theorem zq2_234 {j : Nat} (h : j < 1700) : zQ2 234 j = true := by simp [zQ1, zQ2, h]
theorem zq2_235 {j : Nat} (h : j < 1700) : zQ2 235 j = true := by simp [zQ1, zQ2, h]
def zQ3 (k j : Nat) : Bool := zQ2 k j || (k == 164 && (j == 48 || j == 49)) || (k == 194 && decide (j < 3)) || (k == 195 && decide (j < 1)) || (k == 196 && decide (j < 10)) || (k == 197 && decide (j < 36)) || (k == 198 && decide (j < 20)) || (k == 199 && decide (j < 3)) || (k == 200 && decide (j < 2)) || (k == 201 && decide (j < 2)) || (k == 202 && decide (j < 1600))
theorem zq3_234 {j : Nat} (h : j < 1700) : zQ3 234 j = true := by simp [zQ1, zQ2, zQ3, h]
theorem zq3_235 {j : Nat} (h : j < 1700) : zQ3 235 j = true := by simp [zQ1, zQ2, zQ3, h]
theorem zq3_194 {j : Nat} (h : j < 3) : zQ3 194 j = true := by simp [zQ1, zQ2, zQ3, h]
theorem zq3_195 {j : Nat} (h : j < 1) : zQ3 195 j = true := by simp [zQ1, zQ2, zQ3, h]
theorem zq3_196 {j : Nat} (h : j < 10) : zQ3 196 j = true := by simp [zQ1, zQ2, zQ3, h]
theorem zq3_197 {j : Nat} (h : j < 36) : zQ3 197 j = true := by simp [zQ1, zQ2, zQ3, h]
theorem zq3_198 {j : Nat} (h : j < 20) : zQ3 198 j = true := by simp [zQ1, zQ2, zQ3, h]
theorem zq3_199 {j : Nat} (h : j < 3) : zQ3 199 j = true := by simp [zQ1, zQ2, zQ3, h]
theorem zq3_200 {j : Nat} (h : j < 2) : zQ3 200 j = true := by simp [zQ1, zQ2, zQ3, h]
theorem zq3_201 {j : Nat} (h : j < 2) : zQ3 201 j = true := by simp [zQ1, zQ2, zQ3, h]
theorem zq3_202 {j : Nat} (h : j < 1600) : zQ3 202 j = true := by simp [zQ1, zQ2, zQ3, h]
def zOn (P : Nat → Nat → Bool) (σ σ' : zSto) : Prop := ∀ k j, P k j = false → σ' k j = σ k j
theorem zOn_rf (P : Nat → Nat → Bool) (σ : zSto) : zOn P σ σ := fun _ _ _ => rfl
theorem zOn_tr {P Q : Nat → Nat → Bool} {a b c : zSto} (h1 : zOn P a b) (h2 : zOn Q b c) (hQ : ∀ k j, Q k j = true → P k j = true) : zOn P a c := by
  intro k j h
  have hq : Q k j = false := by
    cases hx : Q k j with
    | false => rfl
    | true => rw [hQ k j hx] at h; cases h
  rw [h2 k j hq, h1 k j h]
theorem zOn_set {P : Nat → Nat → Bool} {σ s : zSto} {k j : Nat} {v : Int} (h : zOn P σ s) (hp : P k j = true) : zOn P σ (zset s k j v) := by
  intro a b hab
  by_cases e : a = k ∧ b = j
  · obtain ⟨rfl, rfl⟩ := e
    rw [hp] at hab
    cases hab
  · have : zset s k j v a b = s a b := by simp [zset, e]
    rw [this]
    exact h a b hab
theorem zi_id {P : Nat → Nat → Bool} : ∀ k j, P k j = true → P k j = true := fun _ _ h => h
theorem zi_12 : ∀ k j, zQ1 k j = true → zQ2 k j = true := fun k j h => by simp only [zQ2, h, Bool.true_or]
theorem zi_23 : ∀ k j, zQ2 k j = true → zQ3 k j = true := fun k j h => by simp only [zQ3, h, Bool.true_or]
theorem zi_13 : ∀ k j, zQ1 k j = true → zQ3 k j = true := fun k j h => zi_23 k j (zi_12 k j h)
theorem zP_lo {k j : Nat} (h : zkn k = true) : zQ3 k j = false := by
  have h1 : ∀ c, zkn c = false → (k == c) = false := fun c hc => by
    rw [beq_eq_false_iff_ne]; intro e; rw [e, hc] at h; exact absurd h Bool.false_ne_true
  simp only [zQ3, zQ2, zQ1, h1 164 (by decide), h1 194 (by decide), h1 195 (by decide), h1 196 (by decide), h1 197 (by decide), h1 198 (by decide), h1 199 (by decide), h1 200 (by decide), h1 201 (by decide), h1 202 (by decide), h1 234 (by decide), h1 235 (by decide), Bool.false_and, Bool.or_self]
theorem zOn_N {σ σ' : zSto} (h : zOn zQ3 σ σ') : zFN σ σ' := fun k hk => funext fun j => h k j (zP_lo hk)
theorem zOn_up {P : Nat → Nat → Bool} {σ σ' : zSto} (h : zOn P σ σ') (hP : ∀ k j, P k j = true → zQ3 k j = true) : zOn zQ3 σ σ' := zOn_tr (zOn_rf zQ3 σ) h hP
def zKm (σ σ' : zSto) : Prop := σ' 195 1 = σ 195 1 ∧ ∀ j, 10 ≤ j → σ' 196 j = σ 196 j
theorem zKm_tr {a b c : zSto} (h1 : zKm a b) (h2 : zKm b c) : zKm a c := ⟨h2.1.trans h1.1, fun j h => (h2.2 j h).trans (h1.2 j h)⟩
theorem zKm_rf (σ : zSto) : zKm σ σ := ⟨rfl, fun _ _ => rfl⟩
def zKl (σ σ' : zSto) : Prop := (∀ j, 2 ≤ j → σ' 200 j = σ 200 j) ∧ (∀ j, 2 ≤ j → σ' 201 j = σ 201 j) ∧ (∀ j, 1600 ≤ j → σ' 202 j = σ 202 j) ∧ (∀ j, 3 ≤ j → σ' 194 j = σ 194 j) ∧ σ' 164 50 = σ 164 50 ∧ zKm σ σ'
def zKo (σ σ' : zSto) : Prop := (∀ j, 2 ≤ j → σ' 200 j = σ 200 j) ∧ (∀ j, 2 ≤ j → σ' 201 j = σ 201 j) ∧ (∀ j, 1600 ≤ j → σ' 202 j = σ 202 j) ∧ (∀ j, 3 ≤ j → σ' 194 j = σ 194 j) ∧ σ' 164 50 = σ 164 50
theorem zKo_of {σ σ' : zSto} (h : zKl σ σ') : zKo σ σ' := ⟨h.1, h.2.1, h.2.2.1, h.2.2.2.1, h.2.2.2.2.1⟩
def zKp (σ σ' : zSto) : Prop := zKl σ σ' ∧ σ' 164 54 = σ 164 54
theorem zKl_rf (σ : zSto) : zKl σ σ := ⟨fun _ _ => rfl, fun _ _ => rfl, fun _ _ => rfl, fun _ _ => rfl, rfl, zKm_rf σ⟩
theorem zKp_rf (σ : zSto) : zKp σ σ := ⟨zKl_rf σ, rfl⟩
theorem zKl_tr {a b c : zSto} (h1 : zKl a b) (h2 : zKl b c) : zKl a c := ⟨fun j h => (h2.1 j h).trans (h1.1 j h), fun j h => (h2.2.1 j h).trans (h1.2.1 j h), fun j h => (h2.2.2.1 j h).trans (h1.2.2.1 j h), fun j h => (h2.2.2.2.1 j h).trans (h1.2.2.2.1 j h), h2.2.2.2.2.1.trans h1.2.2.2.2.1, zKm_tr h1.2.2.2.2.2 h2.2.2.2.2.2⟩
theorem zKp_tr {a b c : zSto} (h1 : zKp a b) (h2 : zKp b c) : zKp a c := ⟨zKl_tr h1.1 h2.1, h2.2.trans h1.2⟩
theorem zset_mj {s : zSto} {k j r i : Nat} {v : Int} (hk : zro k = r) (hn : r ≠ 46 ∨ j ≠ i) : zset s k j v 164 i = s 164 i := by
  by_cases e : 164 = k
  · subst e
    have e1 : r = 46 := hk.symm.trans zc_164
    have e2 : j ≠ i := hn.resolve_left (fun h => h e1)
    exact zset_j e2.symm
  · exact zset_k e
theorem zKl_set {σ s : zSto} {k j r : Nat} {v : Int} (h : zKl σ s) (hk : zro k = r) (hn : r ≠ 46 ∨ j ≠ 50) (hr : r ≠ 82 ∧ r ≠ 83 ∧ r ≠ 84 ∧ r ≠ 76 ∧ r ≠ 77 ∧ r ≠ 78) : zKl σ (zset s k j v) := by
  have e0 : (200 : Nat) ≠ k := zne_r zc_200 hk hr.1.symm
  have e1 : (201 : Nat) ≠ k := zne_r zc_201 hk hr.2.1.symm
  have e2 : (202 : Nat) ≠ k := zne_r zc_202 hk hr.2.2.1.symm
  have e3 : (194 : Nat) ≠ k := zne_r zc_194 hk hr.2.2.2.1.symm
  have e4 : (195 : Nat) ≠ k := zne_r zc_195 hk hr.2.2.2.2.1.symm
  have e5 : (196 : Nat) ≠ k := zne_r zc_196 hk hr.2.2.2.2.2.symm
  refine ⟨fun i hi => ?_, fun i hi => ?_, fun i hi => ?_, fun i hi => ?_, ?_, ?_, fun i hi => ?_⟩
  · rw [zset_k e0]; exact h.1 i hi
  · rw [zset_k e1]; exact h.2.1 i hi
  · rw [zset_k e2]; exact h.2.2.1 i hi
  · rw [zset_k e3]; exact h.2.2.2.1 i hi
  · rw [zset_mj hk hn]; exact h.2.2.2.2.1
  · rw [zset_k e4]; exact h.2.2.2.2.2.1
  · rw [zset_k e5]; exact h.2.2.2.2.2.2 i hi
theorem zKp_set {σ s : zSto} {k j r : Nat} {v : Int} (h : zKp σ s) (hk : zro k = r) (hn : r ≠ 46 ∨ (j ≠ 1 ∧ j ≠ 50 ∧ j ≠ 54)) (hr : r ≠ 82 ∧ r ≠ 83 ∧ r ≠ 84 ∧ r ≠ 76 ∧ r ≠ 77 ∧ r ≠ 78) : zKp σ (zset s k j v) := ⟨zKl_set h.1 hk (hn.imp_right (fun x => x.2.1)) hr, (zset_mj hk (hn.imp_right (fun x => x.2.2))).trans h.2⟩
theorem zOn_Kp {σ σ' : zSto} (h : zOn zQ3 σ σ') : zKp σ σ' := by
  have n1 : ∀ j : Nat, 2 ≤ j → decide (j < 2) = false := fun j hj => decide_eq_false (by omega)
  have n2 : ∀ j : Nat, 1600 ≤ j → decide (j < 1600) = false := fun j hj => decide_eq_false (by omega)
  have n3 : ∀ j : Nat, 10 ≤ j → decide (j < 10) = false := fun j hj => decide_eq_false (by omega)
  refine ⟨⟨fun j hj => h _ _ ?_, fun j hj => h _ _ ?_, fun j hj => h _ _ ?_, fun j hj => h _ _ ?_, h _ _ rfl, h _ _ rfl, fun j hj => h _ _ ?_⟩, h _ _ rfl⟩
  · simp [zQ3, zQ2, zQ1]; omega
  · simp [zQ3, zQ2, zQ1]; omega
  · simp [zQ3, zQ2, zQ1]; omega
  · simp [zQ3, zQ2, zQ1]; omega
  · simp [zQ3, zQ2, zQ1]; omega
def zGM (σ σ' : zSto) : Prop := zFM σ σ' ∧ zKp σ σ'
def zGN (σ σ' : zSto) : Prop := zFN σ σ' ∧ zKp σ σ'
theorem zGM_rf (σ : zSto) : zGM σ σ := ⟨zFM_rf σ, zKp_rf σ⟩
theorem zGN_rf (σ : zSto) : zGN σ σ := ⟨zFN_rf σ, zKp_rf σ⟩
theorem zGM_tr {a b c : zSto} (h1 : zGM a b) (h2 : zGM b c) : zGM a c := ⟨zFM_tr h1.1 h2.1, zKp_tr h1.2 h2.2⟩
theorem zGN_tr {a b c : zSto} (h1 : zGN a b) (h2 : zGN b c) : zGN a c := ⟨zFN_tr h1.1 h2.1, zKp_tr h1.2 h2.2⟩
theorem zGN_of {a b : zSto} (h : zGM a b) : zGN a b := ⟨zFN_of h.1, h.2⟩
theorem zGM_set {σ s : zSto} {k j r : Nat} {v : Int} (h : zGM σ s) (hk : zro k = r) (hr : r ≠ 0) (hc : zmor r = true) (hn : r ≠ 46 ∨ (j ≠ 1 ∧ j ≠ 50 ∧ j ≠ 54 ∧ j ≠ 7 ∧ j ≠ 8)) (h3 : r ≠ 82 ∧ r ≠ 83 ∧ r ≠ 84 ∧ r ≠ 76 ∧ r ≠ 77 ∧ r ≠ 78) : zGM σ (zset s k j v) := ⟨zFM_set h.1 hk hr hc (hn.imp_right (fun x => ⟨x.1, x.2.2.2.1, x.2.2.2.2⟩)), zKp_set h.2 hk (hn.imp_right (fun x => ⟨x.1, x.2.1, x.2.2.1⟩)) h3⟩
theorem zGN_set {σ s : zSto} {k j r : Nat} {v : Int} (h : zGN σ s) (hk : zro k = r) (hr : r ≠ 0) (hc : zmor r = true) (hn : r ≠ 46 ∨ (j ≠ 50 ∧ j ≠ 54)) (h3 : r ≠ 82 ∧ r ≠ 83 ∧ r ≠ 84 ∧ r ≠ 76 ∧ r ≠ 77 ∧ r ≠ 78) : zGN σ (zset s k j v) := ⟨zFN_set h.1 hk hr hc, zKl_set h.2.1 hk (hn.imp_right (fun x => x.1)) h3, (zset_mj hk (hn.imp_right (fun x => x.2))).trans h.2.2⟩
def zGT (σ σ' : zSto) : Prop := zFT σ σ' ∧ zKp σ σ'
theorem zGT_rf (σ : zSto) : zGT σ σ := ⟨fun _ _ => rfl, zKp_rf σ⟩
theorem zGT_tr {a b c : zSto} (h1 : zGT a b) (h2 : zGT b c) : zGT a c := ⟨zFT_tr h1.1 h2.1, zKp_tr h1.2 h2.2⟩
theorem zGT_set {σ s : zSto} {k j r : Nat} {v : Int} (h : zGT σ s) (hk : zro k = r) (hr : r ≠ 0) (hc : zmot r = true) (hn : r ≠ 46 ∨ (j ≠ 50 ∧ j ≠ 54)) (h3 : r ≠ 82 ∧ r ≠ 83 ∧ r ≠ 84 ∧ r ≠ 76 ∧ r ≠ 77 ∧ r ≠ 78) : zGT σ (zset s k j v) := ⟨zFT_set h.1 hk hr hc, zKl_set h.2.1 hk (hn.imp_right (fun x => x.1)) h3, (zset_mj hk (hn.imp_right (fun x => x.2))).trans h.2.2⟩
def zGL (σ σ' : zSto) : Prop := zFM σ σ' ∧ zKl σ σ'
theorem zGL_rf (σ : zSto) : zGL σ σ := ⟨zFM_rf σ, zKl_rf σ⟩
theorem zGL_tr {a b c : zSto} (h1 : zGL a b) (h2 : zGL b c) : zGL a c := ⟨zFM_tr h1.1 h2.1, zKl_tr h1.2 h2.2⟩
theorem zGL_of {a b : zSto} (h : zGM a b) : zGL a b := ⟨h.1, h.2.1⟩
theorem zGL_set {σ s : zSto} {k j r : Nat} {v : Int} (h : zGL σ s) (hk : zro k = r) (hr : r ≠ 0) (hc : zmor r = true) (hn : r ≠ 46 ∨ (j ≠ 1 ∧ j ≠ 50 ∧ j ≠ 7 ∧ j ≠ 8)) (h3 : r ≠ 82 ∧ r ≠ 83 ∧ r ≠ 84 ∧ r ≠ 76 ∧ r ≠ 77 ∧ r ≠ 78) : zGL σ (zset s k j v) := ⟨zFM_set h.1 hk hr hc (hn.imp_right (fun x => ⟨x.1, x.2.2.1, x.2.2.2⟩)), zKl_set h.2 hk (hn.imp_right (fun x => x.2.1)) h3⟩
theorem zOn_GN {σ σ' : zSto} (h : zOn zQ3 σ σ') : zGN σ σ' := ⟨zOn_N h, zOn_Kp h⟩
/-- how a stored or told code changes the pile's height, and how much it wants there -/
def zdl (c : Int) : Int := if 1000 ≤ c then 1 else if 60 ≤ c then 0 else if 40 ≤ c then 1 else if c = 13 then 1 else if c = 12 then 0 else -1
def znd (c : Int) : Int := if 1000 ≤ c then 0 else if 60 ≤ c then 1 else if 40 ≤ c then 0 else if c = 13 then 0 else if c = 12 then 1 else 2
def zH (f : Nat → Int) : Nat → Int
  | 0 => 0
  | n + 1 => zH f n + zdl (f n)
def zB (f : Nat → Int) : Nat → Int
  | 0 => 0
  | n + 1 => zB f n + (if (1 ≤ f n ∧ f n ≤ 11) ∨ f n = 23 ∨ f n = 24 then 1 else 0)
def zCW (f : Nat → Int) (n : Nat) : Prop := ∀ i, i < n → znd (f i) ≤ zH f i
theorem zH_le (f : Nat → Int) (n : Nat) : zH f n ≤ n := by
  induction n with
  | zero => exact Int.le_refl _
  | succ n ih =>
    have : zdl (f n) ≤ 1 := by unfold zdl; repeat' split <;> omega
    show zH f n + zdl (f n) ≤ ((n + 1 : Nat) : Int)
    omega
theorem zB_nn (f : Nat → Int) (n : Nat) : 0 ≤ zB f n := by
  induction n with
  | zero => exact Int.le_refl _
  | succ n ih =>
    show 0 ≤ zB f n + _
    split <;> omega
theorem zH_eq {f g : Nat → Int} {n : Nat} (h : ∀ i, i < n → f i = g i) : zH f n = zH g n := by
  induction n with
  | zero => rfl
  | succ n ih =>
    show zH f n + zdl (f n) = zH g n + zdl (g n)
    rw [ih (fun i hi => h i (Nat.lt_succ_of_lt hi)), h n (Nat.lt_succ_self n)]
theorem zB_eq {f g : Nat → Int} {n : Nat} (h : ∀ i, i < n → f i = g i) : zB f n = zB g n := by
  induction n with
  | zero => rfl
  | succ n ih =>
    show zB f n + _ = zB g n + _
    rw [ih (fun i hi => h i (Nat.lt_succ_of_lt hi)), h n (Nat.lt_succ_self n)]
theorem zCW_eq {f g : Nat → Int} {n : Nat} (h : ∀ i, i < n → f i = g i) (hw : zCW f n) : zCW g n := by
  intro i hi
  rw [← h i hi, ← zH_eq (f := f) (g := g) (fun a ha => h a (Nat.lt_trans ha hi))]
  exact hw i hi
/-- the stored codes of one kind: none, or a stretch that never wants more than lies there -/
def zWF1 (s : zSto) (w : Nat) : Prop := s 200 (2 + w) = -1 ∨ (0 ≤ s 200 (2 + w) ∧ s 200 (2 + w) ≤ s 201 (2 + w) ∧ s 201 (2 + w) ≤ 1600 ∧ zCW (fun i => s 202 (1600 + (s 200 (2 + w)).toNat + i)) (s 201 (2 + w) - s 200 (2 + w)).toNat)
def zWF (s : zSto) : Prop := zWF1 s 0 ∧ zWF1 s 1 ∧ (s 164 50 = 1 → 1 ≤ s 194 3 * s 194 4)
theorem zWF1_kp {σ s : zSto} {w : Nat} (h : zWF1 σ w) (hk : zKo σ s) : zWF1 s w := by
  unfold zWF1 at h ⊢
  rw [hk.1 (2 + w) (by omega), hk.2.1 (2 + w) (by omega)]
  rcases h with h | ⟨h1, h2, h3, h4⟩
  · exact Or.inl h
  · exact Or.inr ⟨h1, h2, h3, zCW_eq (fun i _ => (hk.2.2.1 _ (by omega)).symm) h4⟩
def zhw (σ : zSto) (w : Nat) (k : Int) : Int := zH (fun i => σ 202 (1600 + (σ 200 (2 + w)).toNat + i)) (k - σ 200 (2 + w)).toNat
theorem zhw_0 (σ : zSto) (w : Nat) (k : Int) (h : k = σ 200 (2 + w)) : zhw σ w k = 0 := by
  unfold zhw
  rw [h, Int.sub_self]
  rfl
theorem zWF1_b {σ : zSto} {w : Nat} (hW : zWF1 σ w) (hn : σ 200 (2 + w) ≠ -1) : 0 ≤ σ 200 (2 + w) ∧ σ 200 (2 + w) ≤ σ 201 (2 + w) ∧ σ 201 (2 + w) ≤ 1600 := by
  rcases hW with h | ⟨a1, a2, a3, a4⟩
  · exact absurd h hn
  · exact ⟨a1, a2, a3⟩
theorem zdn (c : Int) : zdl c ≤ 1 ∧ (c < 40 → c ≠ 13 → c ≠ 12 → zdl c = -1 ∧ znd c = 2) ∧ (c = 12 → zdl c = 0 ∧ znd c = 1) := by
  unfold zdl znd
  repeat' split
  all_goals omega
theorem zct_step {σ s : zSto} {w : Nat} {k c : Int} (hW : zWF1 σ w) (hn : σ 200 (2 + w) ≠ -1) (hk : zKl σ s) (h0 : σ 200 (2 + w) ≤ k) (h1 : k < σ 201 (2 + w)) (hc : s 202 (1600 + k).toNat = c) : znd c ≤ zhw σ w k ∧ zhw σ w (k + 1) = zhw σ w k + zdl c := by
  rcases hW with h | ⟨a1, a2, a3, a4⟩
  · exact absurd h hn
  · have e1 : (k + 1 - σ 200 (2 + w)).toNat = (k - σ 200 (2 + w)).toNat + 1 := by omega
    have e2 : 1600 + (σ 200 (2 + w)).toNat + (k - σ 200 (2 + w)).toNat = (1600 + k).toNat := by omega
    have e3 : σ 202 (1600 + (σ 200 (2 + w)).toNat + (k - σ 200 (2 + w)).toNat) = c := by
      rw [e2, ← hc]
      exact (hk.2.2.1 _ (by omega)).symm
    have e4 := a4 (k - σ 200 (2 + w)).toNat (by omega)
    unfold zhw
    refine ⟨?_, ?_⟩
    · rw [← e3]; exact e4
    · rw [e1, ← e3]; rfl
theorem zWF_ko {σ s : zSto} (h : zWF σ) (hk : zKo σ s) : zWF s := by
  refine ⟨zWF1_kp h.1 hk, zWF1_kp h.2.1 hk, ?_⟩
  rw [hk.2.2.2.2, hk.2.2.2.1 3 (by omega), hk.2.2.2.1 4 (by omega)]
  exact h.2.2
theorem zWF_kl {σ s : zSto} (h : zWF σ) (hk : zKl σ s) : zWF s := zWF_ko h (zKo_of hk)
theorem zWF_M {σ s : zSto} (h : zWF σ) (hk : zGM σ s) : zWF s := zWF_kl h hk.2.1
theorem zWF_N {σ s : zSto} (h : zWF σ) (hk : zGN σ s) : zWF s := zWF_kl h hk.2.1
theorem zWF_L {σ s : zSto} (h : zWF σ) (hk : zGL σ s) : zWF s := zWF_kl h hk.2
def zQ4 (k j : Nat) : Bool := zQ1 k j || (k == 195 && decide (j < 1)) || (k == 196 && decide (j < 10)) || (k == 197 && decide (j < 36)) || (k == 198 && decide (j < 20))
theorem zq4_195 {j : Nat} (h : j < 1) : zQ4 195 j = true := by simp [zQ1, zQ4, h]
theorem zq4_196 {j : Nat} (h : j < 10) : zQ4 196 j = true := by simp [zQ1, zQ4, h]
theorem zq4_197 {j : Nat} (h : j < 36) : zQ4 197 j = true := by simp [zQ1, zQ4, h]
theorem zq4_198 {j : Nat} (h : j < 20) : zQ4 198 j = true := by simp [zQ1, zQ4, h]
noncomputable def zi (p : Prop) : Int := @ite Int p (Classical.propDecidable p) 1 0
theorem zi_1 {p : Prop} : zi p = 1 ↔ p := by
  unfold zi
  by_cases h : p
  · simp [h]
  · simp [h]
theorem zi_m {p q : Prop} (h : p → q) : zi p = 1 → zi q = 1 := fun a => zi_1.2 (h (zi_1.1 a))
/-- a sign that is no blank lies at the place -/
noncomputable def zsb (s : zSto) : Int := zi (s 164 2 < s 164 3 ∧ s 165 (s 164 2).toNat ≠ 10 ∧ s 165 (s 164 2).toNat ≠ 32)
theorem zsb_x {s : zSto} {v : Int} (hv : s 165 (s 164 2).toNat = v) : (v = 10 ∨ v = 32 → zsb s ≠ 1) ∧ (s 164 2 < s 164 3 ∧ v ≠ 10 ∧ v ≠ 32 → zsb s = 1) := by
  constructor
  · intro h h1
    have := zi_1.1 h1
    rw [hv] at this
    omega
  · intro h
    refine zi_1.2 ⟨h.1, ?_, ?_⟩
    · rw [hv]; exact h.2.1
    · rw [hv]; exact h.2.2
theorem zsb_c {s s1 : zSto} (h : zOn zQ1 s s1) : s1 164 2 = s 164 2 → zsb s1 = zsb s := by
  intro e
  unfold zsb
  rw [e, h 164 3 rfl, h 165 _ rfl]
theorem zt_lremp {X : zCX} {cc : ByteArray} {own : String} {d n cs ss pc pc' : Nat} {σ : zSto} {lv : List (Option Value)} {st : List Value} {x y : Int} (hX : zok X cc own d) (hd : decode cc pc = .ok (.lrem, 1)) (hp : pc + 1 = pc') (h1 : -9223372036854775808 ≤ x ∧ x ≤ 9223372036854775807) (h2 : 0 < y ∧ y ≤ 9223372036854775807) (k : ∀ r : Int, r = x.tmod y → -y < r ∧ r < y → (0 ≤ x → 0 ≤ r) → zZ X n cs ss σ pc' lv (.long (zJ r) :: st)) : zZ X n cs ss σ pc lv (.long (zJ y) :: .long (zJ x) :: st) := by
  subst hp
  obtain ⟨E, p, l, e, R, s, m, args, below, meth, c, Q, nL⟩ := X
  obtain ⟨hx, hb, -⟩ := hX
  intro H locs ls hG hS hl
  refine lv_lrem hx hb hd (zne_j (by omega) (by omega)) ?_
  rw [zdivl_i h1 h2, ← zJ_mul, ← zJ_sub, show x - x.tdiv y * y = x.tmod y from by rw [Int.tmod_def, Int.mul_comm]]
  exact k _ rfl (ztm_b h2.1) (fun h => by rw [ztm_p h]; exact Int.emod_nonneg x (by omega)) H locs ls hG hS hl
theorem zpr_M {s s' : zSto} (h : zGM s s') : s' 194 3 * s' 194 4 = s 194 3 * s 194 4 := by rw [h.2.1.2.2.2.1 3 (by decide), h.2.1.2.2.2.1 4 (by decide)]
def zQ6 (k j : Nat) : Bool := zQ2 k j || (k == 164 && j == 48) || (k == 200 && decide (j < 2)) || (k == 201 && decide (j < 2)) || (k == 202 && decide (j < 1600))
theorem zq6_234 {j : Nat} (h : j < 1700) : zQ6 234 j = true := by simp [zQ1, zQ2, zQ6, h]
theorem zq6_235 {j : Nat} (h : j < 1700) : zQ6 235 j = true := by simp [zQ1, zQ2, zQ6, h]
theorem zq6_200 {j : Nat} (h : j < 2) : zQ6 200 j = true := by simp [zQ1, zQ2, zQ6, h]
theorem zq6_201 {j : Nat} (h : j < 2) : zQ6 201 j = true := by simp [zQ1, zQ2, zQ6, h]
theorem zq6_202 {j : Nat} (h : j < 1600) : zQ6 202 j = true := by simp [zQ1, zQ2, zQ6, h]
theorem zi_26 : ∀ k j, zQ2 k j = true → zQ6 k j = true := fun k j h => by simp only [zQ6, h, Bool.true_or]
theorem zi_16 : ∀ k j, zQ1 k j = true → zQ6 k j = true := fun k j h => zi_26 k j (zi_12 k j h)
theorem zi_63 : ∀ k j, zQ6 k j = true → zQ3 k j = true := by
  intro k j h
  simp only [zQ6, Bool.or_eq_true] at h
  rcases h with (((h | h) | h) | h) | h
  · exact zi_23 k j h
  · simp only [Bool.and_eq_true] at h
    simp only [zQ3, h.1, h.2, Bool.true_or, Bool.or_true, Bool.and_self]
  · simp only [zQ3, h, Bool.true_or, Bool.or_true]
  · simp only [zQ3, h, Bool.true_or, Bool.or_true]
  · simp only [zQ3, h, Bool.true_or, Bool.or_true]
def zQ7 (k j : Nat) : Bool := zQ1 k j || (k == 194 && decide (j < 3))
theorem zq7_194 {j : Nat} (h : j < 3) : zQ7 194 j = true := by simp [zQ7, h]
theorem zi_17 : ∀ k j, zQ1 k j = true → zQ7 k j = true := fun k j h => by simp only [zQ7, h, Bool.true_or]
theorem zi_73 : ∀ k j, zQ7 k j = true → zQ3 k j = true := by
  intro k j h
  simp only [zQ7, Bool.or_eq_true] at h
  rcases h with h | h
  · exact zi_13 k j h
  · simp only [zQ3, h, Bool.true_or, Bool.or_true]
theorem zi_14 : ∀ k j, zQ1 k j = true → zQ4 k j = true := fun k j h => by simp only [zQ4, h, Bool.true_or]
theorem zi_43 : ∀ k j, zQ4 k j = true → zQ3 k j = true := by
  intro k j h
  simp only [zQ4, Bool.or_eq_true] at h
  rcases h with (((h | h) | h) | h) | h <;> simp only [zQ3, zQ2, h, Bool.true_or, Bool.or_true]
