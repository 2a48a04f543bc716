/-! rows over the full store, in the form that the walks use -/
abbrev zF (X : zCX) (σ : zSto) (pc : Nat) (lv : List (Option Value)) (st : List Value) : Prop := zZ X zNC 0 0 σ pc lv st
def zmask : List Bool → List (Option Value) → List (Option Value)
  | true :: m, x :: l => x :: zmask m l
  | false :: m, _ :: l => none :: zmask m l
  | _, _ => []
theorem zmask_at : ∀ (m : List Bool) (l : List (Option Value)) (i : Nat) (v : Value), (zmask m l)[i]? = some (some v) → l[i]? = some (some v)
  | true :: m, x :: l, 0, v, h => h
  | true :: m, x :: l, i + 1, v, h => by
    simp only [zmask, List.getElem?_cons_succ] at h ⊢
    exact zmask_at m l i v h
  | false :: m, x :: l, 0, v, h => by simp [zmask] at h
  | false :: m, x :: l, i + 1, v, h => by
    simp only [zmask, List.getElem?_cons_succ] at h ⊢
    exact zmask_at m l i v h
  | [], l, i, v, h => by simp [zmask] at h
  | true :: m, [], i, v, h => by simp [zmask] at h
  | false :: m, [], i, v, h => by simp [zmask] at h
section ZM
variable {X : zCX} {cc : ByteArray} {own : String} {d n cs ss pc pc' : Nat} {σ : zSto} {lv : List (Option Value)} {st : List Value}
theorem zt_mask (m : List Bool) {lv' : List (Option Value)} (he : zmask m lv = lv') (k : zZ X n cs ss σ pc lv' st) : zZ X n cs ss σ pc lv st := by
  subst he
  obtain ⟨E, p, l, e, R, s, mm, args, below, meth, c, Q, nL⟩ := X
  intro H locs ls hG hS hl
  exact k H locs ls hG hS ⟨hl.1, hl.2.1, fun i v h => hl.2.2 i v (zmask_at _ _ _ _ h)⟩
theorem zt_wrap {x : Int} (k : ∀ r : Int, r = (zI x).toInt → -2147483648 ≤ r → r ≤ 2147483647 → zZ X n cs ss σ pc lv (.int (zI r) :: st)) : zZ X n cs ss σ pc lv (.int (zI x) :: st) := by
  have h := k _ rfl (zI_lo _) (zI_hi _)
  rw [zI_of] at h
  exact h
theorem zt_wrapl {x : Int} (k : ∀ r : Int, r = (zJ x).toInt → -9223372036854775808 ≤ r → r ≤ 9223372036854775807 → zZ X n cs ss σ pc lv (.long (zJ r) :: st)) : zZ X n cs ss σ pc lv (.long (zJ x) :: st) := by
  have h := k _ rfl (zJ_lo _) (zJ_hi _)
  rw [zJ_of] at h
  exact h
theorem zt_iushr {x y : Int} (hX : zok X cc own d) (hd : decode cc pc = .ok (.iushr, 1)) (hp : pc + 1 = pc') (k : ∀ r : Int, -2147483648 ≤ r → r ≤ 2147483647 → zZ X n cs ss σ pc' lv (.int (zI r) :: st)) : zZ X n cs ss σ pc lv (.int (zI y) :: .int (zI x) :: st) := by
  subst hp
  obtain ⟨E, p, l, e, R, s, m, args, below, meth, c, Q, nL⟩ := X
  obtain ⟨hx, hb, -⟩ := hX
  intro H locs ls hG hS hl
  have h := k _ (zI_lo ((zI x).toUInt32 >>> ((zI y).toUInt32 &&& Int32.toUInt32 31)).toInt32) (zI_hi _) H locs ls hG hS hl
  rw [zI_of] at h
  exact lv_iushr hx hb hd rfl h
theorem zt_lushr {x y : Int} (hX : zok X cc own d) (hd : decode cc pc = .ok (.lushr, 1)) (hp : pc + 1 = pc') (k : ∀ r : Int, -9223372036854775808 ≤ r → r ≤ 9223372036854775807 → zZ X n cs ss σ pc' lv (.long (zJ r) :: st)) : zZ X n cs ss σ pc lv (.int (zI y) :: .long (zJ x) :: st) := by
  subst hp
  obtain ⟨E, p, l, e, R, s, m, args, below, meth, c, Q, nL⟩ := X
  obtain ⟨hx, hb, -⟩ := hX
  intro H locs ls hG hS hl
  have h := k _ (zJ_lo ((zJ x).toUInt64 >>> ((zI y).toInt64.toUInt64 &&& Int64.toUInt64 63)).toInt64) (zJ_hi _) H locs ls hG hS hl
  rw [zJ_of] at h
  exact lv_lushr hx hb hd rfl h
theorem zne_j {y : Int} (hy : y ≠ 0) (h1 : -9223372036854775808 ≤ y ∧ y ≤ 9223372036854775807) : ¬ zJ y = 0 := by
  intro h
  have := congrArg Int64.toInt h
  rw [zJ_t h1.1 h1.2] at this
  exact hy (by simpa using this)
theorem zt_ldiv {x y : Int} (hX : zok X cc own d) (hd : decode cc pc = .ok (.ldiv, 1)) (hp : pc + 1 = pc') (hy : y ≠ 0) (h1 : -9223372036854775808 ≤ y ∧ y ≤ 9223372036854775807) (k : ∀ r : Int, r = (zJ x / zJ y).toInt → -9223372036854775808 ≤ r → r ≤ 9223372036854775807 → zZ X n cs ss σ pc' lv (.long (zJ r) :: st)) : zZ X n cs ss σ pc lv (.long (zJ y) :: .long (zJ x) :: st) := by
  subst hp
  obtain ⟨E, p, l, e, R, s, m, args, below, meth, c, Q, nL⟩ := X
  obtain ⟨hx, hb, -⟩ := hX
  intro H locs ls hG hS hl
  have h := k _ rfl (zJ_lo _) (zJ_hi _) H locs ls hG hS hl
  rw [zJ_of] at h
  exact lv_ldiv hx hb hd (zne_j hy h1) h
theorem zt_lrem {x y : Int} (hX : zok X cc own d) (hd : decode cc pc = .ok (.lrem, 1)) (hp : pc + 1 = pc') (hy : y ≠ 0) (h1 : -9223372036854775808 ≤ y ∧ y ≤ 9223372036854775807) (k : ∀ r : Int, r = (zJ x - zJ x / zJ y * zJ y).toInt → -9223372036854775808 ≤ r → r ≤ 9223372036854775807 → zZ X n cs ss σ pc' lv (.long (zJ r) :: st)) : zZ X n cs ss σ pc lv (.long (zJ y) :: .long (zJ x) :: st) := by
  subst hp
  obtain ⟨E, p, l, e, R, s, m, args, below, meth, c, Q, nL⟩ := X
  obtain ⟨hx, hb, -⟩ := hX
  intro H locs ls hG hS hl
  have h := k _ rfl (zJ_lo _) (zJ_hi _) H locs ls hG hS hl
  rw [zJ_of] at h
  exact lv_lrem hx hb hd (zne_j hy h1) h
/-- the static row of letters' worths -/
theorem zt_lwget {idx : Nat} (hX : zok X cc own d) (hd : decode cc pc = .ok (.getstatic idx, 3)) (hp : pc + 3 = pc') (hl : Cond.fieldLink own idx "OnePane" "LETTER_WORTH" "[I" ∈ wsL_law)
    (k : ∀ t : Nat, va_T .int t 6 (fun j => .int (zI (zlw j))) (fun q => X.1.1 ≤ q) X.2.2.2.2.2.1 X.2.2.2.2.2.1.heap → zZ X n cs ss σ pc' lv (.ref t :: st)) : zZ X n cs ss σ pc lv st := by
  subst hp
  obtain ⟨E, p, l, e, R, s, m, args, below, meth, c, Q, nL⟩ := X
  obtain ⟨hx, hb, hml, ho, ⟨w0, ht⟩, hlk, hK, ⟨hnw, t, hZ, hT⟩, -⟩ := hX
  intro H locs ls hG hS hlv
  exact va_gets hx hb hZ hS ho (ht _ (List.mem_cons_of_mem _ hl)) (fun _ h => h) hd (k t hT H locs ls hG hS hlv)
theorem zt_lwgetN {idx : Nat} (hX : zok X cc own d) (hd : decode cc pc = .ok (.getstatic idx, 3)) (hp : pc + 3 = pc') (hl : Cond.fieldLinkNest own idx "OnePane" "LETTER_WORTH" "[I" "OnePane" ∈ znwl)
    (k : ∀ t : Nat, va_T .int t 6 (fun j => .int (zI (zlw j))) (fun q => X.1.1 ≤ q) X.2.2.2.2.2.1 X.2.2.2.2.2.1.heap → zZ X n cs ss σ pc' lv (.ref t :: st)) : zZ X n cs ss σ pc lv st := by
  subst hp
  obtain ⟨E, p, l, e, R, s, m, args, below, meth, c, Q, nL⟩ := X
  obtain ⟨hx, hb, hml, ho, ⟨w0, ht⟩, hlk, hK, ⟨hnw, t, hZ, hT⟩, -⟩ := hX
  intro H locs ls hG hS hlv
  exact va_getsN hx hb hZ hS ho (va_Nw.use rfl (hnw _ hl)) (fun _ h => h) hd (k t hT H locs ls hG hS hlv)
theorem zt_lwald {t : Nat} {x : Int} (hX : zok X cc own d) (hd : decode cc pc = .ok (.iaload, 1)) (hp : pc + 1 = pc') (hT : va_T .int t 6 (fun j => .int (zI (zlw j))) (fun q => X.1.1 ≤ q) X.2.2.2.2.2.1 X.2.2.2.2.2.1.heap) (h0 : 0 ≤ x ∧ x < 6) (k : zZ X n cs ss σ pc' lv (.int (zI (zlw x.toNat)) :: st)) : zZ X n cs ss σ pc lv (.int (zI x) :: .ref t :: st) := by
  subst hp
  obtain ⟨E, p, l, e, R, s, m, args, below, meth, c, Q, nL⟩ := X
  obtain ⟨hx, hb, -⟩ := hX
  intro H locs ls hG hS hlv
  exact va_ti hx hb hT hS (zI_in h0.1 (by exact_mod_cast h0.2) (by omega)) (by rw [zI_cl h0.1 (by omega)]) hd (k H locs ls hG hS hlv)
theorem zlw_b (j : Nat) : 1 ≤ zlw j ∧ zlw j ≤ 14348907 := by
  unfold zlw
  split <;> decide

theorem zt_mmax {idx : Nat} {x y : Int} (hX : zok X cc own d) (hd0 : 0 < d) (hd : decode cc pc = .ok (.invokestatic idx, 3)) (hp : pc + 3 = pc') (hlk : Cond.methodLink own idx Lib.Math.max.name ∈ wsL_law) (hsta : Cond.static Lib.Math.max.name ∈ wsL_law) (hini : Cond.initialized "java/lang/Math" ∈ wsL_law) (hco : Cond.code Lib.Math.max.name Lib.Math.max.code 2 (some .int) ∈ wsL_law) (hcat : (st.map fun v => v.category).sum ≤ 8) (hroom : cs ≤ X.2.2.2.2.1.cells ∧ ss ≤ X.2.2.2.2.1.slots) (h1 : -2147483648 ≤ x ∧ x ≤ 2147483647) (h2 : -2147483648 ≤ y ∧ y ≤ 2147483647) (k : ∀ r : Int, (r = x ∧ y ≤ x) ∨ (r = y ∧ x < y) → zZ X n cs ss σ pc' lv (.int (zI r) :: st)) : zZ X n cs ss σ pc lv (.int (zI y) :: .int (zI x) :: st) := by
  subst hp
  obtain ⟨E, p, l, e, R, s, m, args, below, meth, c, Q, nL⟩ := X
  obtain ⟨hx, hb, hml, ho, ⟨w0, ht⟩, hlk2, hK, hst, hfr, hlc⟩ := hX
  intro H locs ls hG hS hl
  have hT := fun w h => ht w (List.mem_cons_of_mem _ h)
  refine va_mmax (R := R) hx hb (hml.trans hl.1.symm) ho (hT _ hlk) (hT _ hsta) (hT _ hini) (hT _ hco) (by omega) (by omega) hroom.1 hroom.2 hd ?_
  by_cases hc : x < y
  · rw [if_pos ((zI_lt h1 h2).mpr hc)]
    exact k y (Or.inr ⟨rfl, hc⟩) H locs ls hG hS hl
  · rw [if_neg (fun z => hc ((zI_lt h1 h2).mp z))]
    exact k x (Or.inl ⟨rfl, by omega⟩) H locs ls hG hS hl
theorem zt_mmin {idx : Nat} {x y : Int} (hX : zok X cc own d) (hd0 : 0 < d) (hd : decode cc pc = .ok (.invokestatic idx, 3)) (hp : pc + 3 = pc') (hlk : Cond.methodLink own idx Lib.Math.min.name ∈ wsL_law) (hsta : Cond.static Lib.Math.min.name ∈ wsL_law) (hini : Cond.initialized "java/lang/Math" ∈ wsL_law) (hco : Cond.code Lib.Math.min.name Lib.Math.min.code 2 (some .int) ∈ wsL_law) (hcat : (st.map fun v => v.category).sum ≤ 8) (hroom : cs ≤ X.2.2.2.2.1.cells ∧ ss ≤ X.2.2.2.2.1.slots) (h1 : -2147483648 ≤ x ∧ x ≤ 2147483647) (h2 : -2147483648 ≤ y ∧ y ≤ 2147483647) (k : ∀ r : Int, (r = x ∧ x ≤ y) ∨ (r = y ∧ y < x) → zZ X n cs ss σ pc' lv (.int (zI r) :: st)) : zZ X n cs ss σ pc lv (.int (zI y) :: .int (zI x) :: st) := by
  subst hp
  obtain ⟨E, p, l, e, R, s, m, args, below, meth, c, Q, nL⟩ := X
  obtain ⟨hx, hb, hml, ho, ⟨w0, ht⟩, hlk2, hK, hst, hfr, hlc⟩ := hX
  intro H locs ls hG hS hl
  have hT := fun w h => ht w (List.mem_cons_of_mem _ h)
  refine va_mmin (R := R) hx hb (hml.trans hl.1.symm) ho (hT _ hlk) (hT _ hsta) (hT _ hini) (hT _ hco) (by omega) (by omega) hroom.1 hroom.2 hd ?_
  by_cases hc : y < x
  · rw [if_pos ((zI_lt h2 h1).mpr hc)]
    exact k y (Or.inr ⟨rfl, hc⟩) H locs ls hG hS hl
  · rw [if_neg (fun z => hc ((zI_lt h2 h1).mp z))]
    exact k x (Or.inl ⟨rfl, by omega⟩) H locs ls hG hS hl
theorem zt_mabs {idx : Nat} {x : Int} (hX : zok X cc own d) (hd0 : 0 < d) (hd : decode cc pc = .ok (.invokestatic idx, 3)) (hp : pc + 3 = pc') (hlk : Cond.methodLink own idx Lib.Math.abs.name ∈ wsL_law) (hsta : Cond.static Lib.Math.abs.name ∈ wsL_law) (hini : Cond.initialized "java/lang/Math" ∈ wsL_law) (hco : Cond.code Lib.Math.abs.name Lib.Math.abs.code 1 (some .int) ∈ wsL_law) (hcat : (st.map fun v => v.category).sum ≤ 8) (hroom : cs ≤ X.2.2.2.2.1.cells ∧ ss ≤ X.2.2.2.2.1.slots) (h1 : -2147483647 ≤ x ∧ x ≤ 2147483647) (k : ∀ r : Int, (r = x ∧ 0 ≤ x) ∨ (r = -x ∧ x < 0) → zZ X n cs ss σ pc' lv (.int (zI r) :: st)) : zZ X n cs ss σ pc lv (.int (zI x) :: st) := by
  subst hp
  obtain ⟨E, p, l, e, R, s, m, args, below, meth, c, Q, nL⟩ := X
  obtain ⟨hx, hb, hml, ho, ⟨w0, ht⟩, hlk2, hK, hst, hfr, hlc⟩ := hX
  intro H locs ls hG hS hl
  have hT := fun w h => ht w (List.mem_cons_of_mem _ h)
  refine va_mabs (R := R) hx hb (hml.trans hl.1.symm) ho (hT _ hlk) (hT _ hsta) (hT _ hini) (hT _ hco) (by omega) (by omega) hroom.1 hroom.2 hd ?_
  by_cases hc : 0 ≤ x
  · rw [if_pos (by rw [← zI_0]; exact (zI_le (by omega) (by omega)).mpr hc)]
    exact k x (Or.inl ⟨rfl, hc⟩) H locs ls hG hS hl
  · rw [if_neg (fun z => hc (by rw [← zI_0] at z; exact (zI_le (by omega) (by omega)).mp z)), ← zI_0, ← zI_sub]
    exact k (0 - x) (Or.inr ⟨by omega, by omega⟩) H locs ls hG hS hl
theorem zt_cVi {idx k r0 c d' mL na : Nat} {y : MethodName} {b : ByteArray} {Post : Int → zSto → Prop} {As rest : List Value} {q : vw_C} (hX : zok X cc own d) (hd : decode cc pc = .ok (.invokevirtual idx, 3)) (hp : pc + 3 = pc') (hM : zMV y b mL (some .int) na) (hlk : Cond.methodLink own idx y ∈ wsL_law) (hk : zro k = r0) (hr0 : r0 ≠ 0) (hs : zrs r0 = .inl c) (hq : zcl[c]? = some q) (hqy : q.1 = y.cls) (hC : zCt X.2.2.1 X.1 y b mL (some .int) d' zNC zNC 0 0 σ (.ref (X.1.1 + k) :: As) Post) (hna : As.length = na) (hstk : st = As.reverse ++ .ref (X.1.1 + k) :: rest) (hcat : (rest.map fun v => v.category).sum ≤ 8) (hdd : d' < d) (kk : ∀ (r : Int) (σ' : zSto), (-2147483648 ≤ r ∧ r ≤ 2147483647) → Post r σ' → zZ X zNC 0 0 σ' pc' lv (.int (zI r) :: rest)) : zZ X zNC 0 0 σ pc lv st := by
  exact zt_callV hX hC hM hd hp hlk (zro_lt hk hr0) hk hs hq hqy hna hstk hcat hdd ⟨Nat.zero_le _, Nat.zero_le _⟩ kk
theorem zt_cVz {idx k r0 c d' mL na : Nat} {y : MethodName} {b : ByteArray} {Post : Int → zSto → Prop} {As rest : List Value} {q : vw_C} (hX : zok X cc own d) (hd : decode cc pc = .ok (.invokevirtual idx, 3)) (hp : pc + 3 = pc') (hM : zMV y b mL (some .boolean) na) (hlk : Cond.methodLink own idx y ∈ wsL_law) (hk : zro k = r0) (hr0 : r0 ≠ 0) (hs : zrs r0 = .inl c) (hq : zcl[c]? = some q) (hqy : q.1 = y.cls) (hC : zCt X.2.2.1 X.1 y b mL (some .boolean) d' zNC zNC 0 0 σ (.ref (X.1.1 + k) :: As) Post) (hna : As.length = na) (hstk : st = As.reverse ++ .ref (X.1.1 + k) :: rest) (hcat : (rest.map fun v => v.category).sum ≤ 8) (hdd : d' < d) (kk : ∀ (r : Int) (σ' : zSto), (0 ≤ r ∧ r ≤ 1) → Post r σ' → zZ X zNC 0 0 σ' pc' lv (.int (zI r) :: rest)) : zZ X zNC 0 0 σ pc lv st := by
  exact zt_callV hX hC hM hd hp hlk (zro_lt hk hr0) hk hs hq hqy hna hstk hcat hdd ⟨Nat.zero_le _, Nat.zero_le _⟩ kk
theorem zt_cVl {idx k r0 c d' mL na : Nat} {y : MethodName} {b : ByteArray} {Post : Int → zSto → Prop} {As rest : List Value} {q : vw_C} (hX : zok X cc own d) (hd : decode cc pc = .ok (.invokevirtual idx, 3)) (hp : pc + 3 = pc') (hM : zMV y b mL (some .long) na) (hlk : Cond.methodLink own idx y ∈ wsL_law) (hk : zro k = r0) (hr0 : r0 ≠ 0) (hs : zrs r0 = .inl c) (hq : zcl[c]? = some q) (hqy : q.1 = y.cls) (hC : zCt X.2.2.1 X.1 y b mL (some .long) d' zNC zNC 0 0 σ (.ref (X.1.1 + k) :: As) Post) (hna : As.length = na) (hstk : st = As.reverse ++ .ref (X.1.1 + k) :: rest) (hcat : (rest.map fun v => v.category).sum ≤ 8) (hdd : d' < d) (kk : ∀ (r : Int) (σ' : zSto), (-9223372036854775808 ≤ r ∧ r ≤ 9223372036854775807) → Post r σ' → zZ X zNC 0 0 σ' pc' lv (.long (zJ r) :: rest)) : zZ X zNC 0 0 σ pc lv st := by
  exact zt_callV hX hC hM hd hp hlk (zro_lt hk hr0) hk hs hq hqy hna hstk hcat hdd ⟨Nat.zero_le _, Nat.zero_le _⟩ kk
theorem zt_cVv {idx k r0 c d' mL na : Nat} {y : MethodName} {b : ByteArray} {Post : Int → zSto → Prop} {As rest : List Value} {q : vw_C} (hX : zok X cc own d) (hd : decode cc pc = .ok (.invokevirtual idx, 3)) (hp : pc + 3 = pc') (hM : zMV y b mL none na) (hlk : Cond.methodLink own idx y ∈ wsL_law) (hk : zro k = r0) (hr0 : r0 ≠ 0) (hs : zrs r0 = .inl c) (hq : zcl[c]? = some q) (hqy : q.1 = y.cls) (hC : zCt X.2.2.1 X.1 y b mL none d' zNC zNC 0 0 σ (.ref (X.1.1 + k) :: As) Post) (hna : As.length = na) (hstk : st = As.reverse ++ .ref (X.1.1 + k) :: rest) (hcat : (rest.map fun v => v.category).sum ≤ 8) (hdd : d' < d) (kk : ∀ (r : Int) (σ' : zSto), (True) → Post r σ' → zZ X zNC 0 0 σ' pc' lv (rest)) : zZ X zNC 0 0 σ pc lv st := by
  exact zt_callV hX hC hM hd hp hlk (zro_lt hk hr0) hk hs hq hqy hna hstk hcat hdd ⟨Nat.zero_le _, Nat.zero_le _⟩ kk
theorem zt_cSi {idx d' mL na : Nat} {y : MethodName} {b : ByteArray} {Post : Int → zSto → Prop} {As rest : List Value} (hX : zok X cc own d) (hd : decode cc pc = .ok (.invokestatic idx, 3)) (hp : pc + 3 = pc') (hM : zMS y b mL (some .int) na) (hlk : Cond.methodLink own idx y ∈ wsL_law) (hC : zCt X.2.2.1 X.1 y b mL (some .int) d' zNC zNC 0 0 σ As Post) (hna : As.length = na) (hstk : st = As.reverse ++ rest) (hcat : (rest.map fun v => v.category).sum ≤ 8) (hdd : d' < d) (kk : ∀ (r : Int) (σ' : zSto), (-2147483648 ≤ r ∧ r ≤ 2147483647) → Post r σ' → zZ X zNC 0 0 σ' pc' lv (.int (zI r) :: rest)) : zZ X zNC 0 0 σ pc lv st := by
  exact zt_callS hX hC hM hd hp hlk hna hstk hcat hdd ⟨Nat.zero_le _, Nat.zero_le _⟩ kk
theorem zt_cSz {idx d' mL na : Nat} {y : MethodName} {b : ByteArray} {Post : Int → zSto → Prop} {As rest : List Value} (hX : zok X cc own d) (hd : decode cc pc = .ok (.invokestatic idx, 3)) (hp : pc + 3 = pc') (hM : zMS y b mL (some .boolean) na) (hlk : Cond.methodLink own idx y ∈ wsL_law) (hC : zCt X.2.2.1 X.1 y b mL (some .boolean) d' zNC zNC 0 0 σ As Post) (hna : As.length = na) (hstk : st = As.reverse ++ rest) (hcat : (rest.map fun v => v.category).sum ≤ 8) (hdd : d' < d) (kk : ∀ (r : Int) (σ' : zSto), (0 ≤ r ∧ r ≤ 1) → Post r σ' → zZ X zNC 0 0 σ' pc' lv (.int (zI r) :: rest)) : zZ X zNC 0 0 σ pc lv st := by
  exact zt_callS hX hC hM hd hp hlk hna hstk hcat hdd ⟨Nat.zero_le _, Nat.zero_le _⟩ kk
theorem zt_cSl {idx d' mL na : Nat} {y : MethodName} {b : ByteArray} {Post : Int → zSto → Prop} {As rest : List Value} (hX : zok X cc own d) (hd : decode cc pc = .ok (.invokestatic idx, 3)) (hp : pc + 3 = pc') (hM : zMS y b mL (some .long) na) (hlk : Cond.methodLink own idx y ∈ wsL_law) (hC : zCt X.2.2.1 X.1 y b mL (some .long) d' zNC zNC 0 0 σ As Post) (hna : As.length = na) (hstk : st = As.reverse ++ rest) (hcat : (rest.map fun v => v.category).sum ≤ 8) (hdd : d' < d) (kk : ∀ (r : Int) (σ' : zSto), (-9223372036854775808 ≤ r ∧ r ≤ 9223372036854775807) → Post r σ' → zZ X zNC 0 0 σ' pc' lv (.long (zJ r) :: rest)) : zZ X zNC 0 0 σ pc lv st := by
  exact zt_callS hX hC hM hd hp hlk hna hstk hcat hdd ⟨Nat.zero_le _, Nat.zero_le _⟩ kk
theorem zt_cSv {idx d' mL na : Nat} {y : MethodName} {b : ByteArray} {Post : Int → zSto → Prop} {As rest : List Value} (hX : zok X cc own d) (hd : decode cc pc = .ok (.invokestatic idx, 3)) (hp : pc + 3 = pc') (hM : zMS y b mL none na) (hlk : Cond.methodLink own idx y ∈ wsL_law) (hC : zCt X.2.2.1 X.1 y b mL none d' zNC zNC 0 0 σ As Post) (hna : As.length = na) (hstk : st = As.reverse ++ rest) (hcat : (rest.map fun v => v.category).sum ≤ 8) (hdd : d' < d) (kk : ∀ (r : Int) (σ' : zSto), (True) → Post r σ' → zZ X zNC 0 0 σ' pc' lv (rest)) : zZ X zNC 0 0 σ pc lv st := by
  exact zt_callS hX hC hM hd hp hlk hna hstk hcat hdd ⟨Nat.zero_le _, Nat.zero_le _⟩ kk
theorem zt_cSNi {idx d' mL na : Nat} {y : MethodName} {b : ByteArray} {Post : Int → zSto → Prop} {As rest : List Value} (hX : zok X cc own d) (hd : decode cc pc = .ok (.invokestatic idx, 3)) (hp : pc + 3 = pc') (hM : zMS y b mL (some .int) na) (hlk : Cond.methodLinkNest own idx y "OnePane" ∈ znwl) (hC : zCt X.2.2.1 X.1 y b mL (some .int) d' zNC zNC 0 0 σ As Post) (hna : As.length = na) (hstk : st = As.reverse ++ rest) (hcat : (rest.map fun v => v.category).sum ≤ 8) (hdd : d' < d) (kk : ∀ (r : Int) (σ' : zSto), (-2147483648 ≤ r ∧ r ≤ 2147483647) → Post r σ' → zZ X zNC 0 0 σ' pc' lv (.int (zI r) :: rest)) : zZ X zNC 0 0 σ pc lv st := by
  exact zt_callSN hX hC hM hd hp hlk hna hstk hcat hdd ⟨Nat.zero_le _, Nat.zero_le _⟩ kk
theorem zt_ishl1 (q : Nat) {y : Int} (hX : zok X cc own d) (hd : decode cc pc = .ok (.ishl, 1)) (hp : pc + 1 = pc') (h1 : 0 ≤ y ∧ y ≤ (q : Int)) (hq : q ≤ 10) (k : ∀ r : Int, r = (zI 1 <<< (zI y &&& 31)).toInt → 1 ≤ r → r ≤ ((2 ^ q : Nat) : Int) → zZ X n cs ss σ pc' lv (.int (zI r) :: st)) : zZ X n cs ss σ pc lv (.int (zI y) :: .int (zI 1) :: st) := by
  refine zt_ishl hX hd hp (fun r er _ _ => ?_)
  obtain ⟨j, rfl⟩ : ∃ j : Nat, y = (j : Int) := ⟨y.toNat, by omega⟩
  have hj : j ≤ q := by omega
  have h : ∀ a : Nat, a < 11 → (zI 1 <<< (zI (a : Int) &&& 31)).toInt = ((2 ^ a : Nat) : Int) := by decide +kernel
  have e := h j (by omega)
  have hle : (2 : Nat) ^ j ≤ 2 ^ q := Nat.pow_le_pow_right (by decide) hj
  have hpos : (1 : Nat) ≤ 2 ^ j := Nat.one_le_two_pow
  exact k r er (by rw [er, e]; exact_mod_cast hpos) (by rw [er, e]; exact_mod_cast hle)
theorem zt_idivg {x y : Int} (hX : zok X cc own d) (hd : decode cc pc = .ok (.idiv, 1)) (hp : pc + 1 = pc') (hy : y ≠ 0) (h2 : -2147483648 ≤ y ∧ y ≤ 2147483647) (k : ∀ r : Int, r = (zI x / zI y).toInt → -2147483648 ≤ r → r ≤ 2147483647 → zZ X n cs ss σ pc' lv (.int (zI r) :: st)) : zZ X n cs ss σ pc lv (.int (zI y) :: .int (zI x) :: st) := by
  subst hp
  obtain ⟨E, p, l, e, R, s, m, args, below, meth, c, Q, nL⟩ := X
  obtain ⟨hx, hb, -⟩ := hX
  intro H locs ls hG hS hl
  have h := k _ rfl (zI_lo _) (zI_hi _) H locs ls hG hS hl
  rw [zI_of] at h
  refine lv_idiv hx hb hd ?_ h
  rw [← zI_0, zI_eq h2 (by omega)]
  exact hy
/-- a copied stretch: the new store -/
def zcp (σ σ' : zSto) (a b sp dp n : Nat) : Prop := (∀ k, k ≠ b → σ' k = σ k) ∧ ∀ j, σ' b j = if dp ≤ j ∧ j < dp + n then σ a (sp + (j - dp)) else σ b j
theorem zt_copy {idx a b r N : Nat} {sp dp q : Int} (hX : zok X cc own d) (hd0 : 0 < d) (hd : decode cc pc = .ok (.invokestatic idx, 3)) (hp : pc + 3 = pc') (hlk : Cond.methodLink own idx arraycopyName ∈ wsL_law) (hnat : Cond.native arraycopyName ∈ wsL_law) (hsta : Cond.static arraycopyName ∈ wsL_law) (hini : Cond.initialized "java/lang/System" ∈ wsL_law) (hcat : (st.map fun v => v.category).sum ≤ 8) (ha : a < zNC) (hka : zro a = r) (hb' : b < zNC) (hkb : zro b = r) (hs : zrs r = .inr (0, N)) (hN : N ≤ 2147483647) (h0 : 0 ≤ sp ∧ 0 ≤ dp ∧ 0 ≤ q) (h1 : sp + q ≤ (N : Int) ∧ dp + q ≤ (N : Int))
    (k : ∀ σ' : zSto, zcp σ σ' a b sp.toNat dp.toNat q.toNat → zZ X zNC cs ss σ' pc' lv st) : zZ X zNC cs ss σ pc lv (.int (zI q) :: .int (zI dp) :: .ref (X.1.1 + b) :: .int (zI sp) :: .ref (X.1.1 + a) :: st) := by
  subst hp
  obtain ⟨E, p, l, e, R, s, m, args, below, meth, c, Q, nL⟩ := X
  obtain ⟨hx, hb, hml, ho, ⟨w0, ht⟩, hlk2, hK, hst, hfr, hlc⟩ := hX
  intro H locs ls hG hS hl
  have hT := fun w h => ht w (List.mem_cons_of_mem _ h)
  have ea : (zws E zNC σ)[a]? = some (E.1 + a, .inl (E.2.2 0, N, zarr E.1 0 (σ a))) := by rw [zws_at ha, zen_a hka hs]
  have eb : (zws E zNC σ)[b]? = some (E.1 + b, .inl (E.2.2 0, N, zarr E.1 0 (σ b))) := by rw [zws_at hb', zen_a hkb hs]
  have c1 : (zI sp).toNatClampNeg = sp.toNat := zI_cl h0.1 (by omega)
  have c2 : (zI dp).toNatClampNeg = dp.toNat := zI_cl h0.2.1 (by omega)
  have c3 : (zI q).toNatClampNeg = q.toNat := zI_cl h0.2.2 (by omega)
  have e5 : nativeFrameWords "java/lang/System" "arraycopy" 5 = 7 := by decide +kernel
  have n1 : ¬ zI sp < 0 := by rw [← zI_0, zI_lt (by omega) (by omega)]; omega
  have n2 : ¬ zI dp < 0 := by rw [← zI_0, zI_lt (by omega) (by omega)]; omega
  have n3 : ¬ zI q < 0 := by rw [← zI_0, zI_lt (by omega) (by omega)]; omega
  refine va_copyi (R := R) hx hb (hml.trans hl.1.symm) ho (hT _ hlk) (hT _ hnat) (hT _ hsta) (hT _ hini) hK hG.2 (zws_D E zNC σ) hS a b 0 0 ea eb (ztys_at E (by decide)) (ztys_at E (by decide)) rfl n1 n2 n3 (by rw [c1, c3]; omega) (by rw [c2, c3]; omega) (fun _ _ => rfl) (by omega) (by rw [e5]; omega) hd (fun H1 locs1 hP hD hS1 => ?_)
  refine k (fun i j => if i = b then (if dp.toNat ≤ j ∧ j < dp.toNat + q.toNat then σ a (sp.toNat + (j - dp.toNat)) else σ b j) else σ i j) ⟨fun i hi => by funext j; simp [hi], fun j => by simp⟩ H1 locs1 ls ⟨Or.inl rfl, ?_⟩ hS1 hl
  rw [← zws_cpy (σ := σ) hb' (zen_a hkb hs) (fun i hi => by funext j; simp [hi])]
  rw [c1, c2, c3] at hP
  have : va_cpy (fun j => zI (σ a j)) (fun j => zI (σ b j)) sp.toNat dp.toNat q.toNat = fun j => zI (if dp.toNat ≤ j ∧ j < dp.toNat + q.toNat then σ a (sp.toNat + (j - dp.toNat)) else σ b j) := by
    funext j
    unfold va_cpy
    split <;> rfl
  simp only [zarr, if_true]
  rw [← this]
  exact hP
end ZM
theorem zcp_inv {σ σ' : zSto} {a b sp dp n r : Nat} (h : zcp σ σ' a b sp dp n) (hI : zInv σ) (hka : zro a = r) (hkb : zro b = r) (hp : ∀ (j : Nat) (v : Int), zP r a j v → ∀ i, zP r b i v) : zInv σ' := by
  intro k j
  by_cases hk : k = b
  · subst hk
    rw [h.2 j, hkb]
    split
    · exact hp _ _ (hka ▸ hI a _) _
    · exact hkb ▸ hI k j
  · rw [h.1 k hk]
    exact hI k j
theorem zmul_b {x y a b : Int} (h1 : 0 ≤ x) (h2 : x ≤ a) (h3 : 0 ≤ y) (h4 : y ≤ b) : 0 ≤ x * y ∧ x * y ≤ a * b := by
  refine ⟨Int.mul_nonneg h1 h3, ?_⟩
  exact Int.mul_le_mul h2 h4 h3 (by omega)
theorem zmul_s {x y lo hi b : Int} (h1 : lo ≤ x) (h2 : x ≤ hi) (h3 : 0 ≤ y) (h4 : y ≤ b) (h5 : lo ≤ 0) (h6 : 0 ≤ hi) : lo * b ≤ x * y ∧ x * y ≤ hi * b := by
  rcases Int.le_total 0 x with h | h
  · have q := zmul_b h h2 h3 h4
    have q2 : lo * b ≤ 0 := Int.mul_nonpos_of_nonpos_of_nonneg h5 (by omega)
    omega
  · have q := zmul_b (x := -x) (a := -lo) (by omega) (by omega) h3 h4
    have q2 : 0 ≤ hi * b := Int.mul_nonneg h6 (by omega)
    rw [Int.neg_mul, Int.neg_mul] at q
    omega
theorem zmul_t {x y lo hi b : Int} (h1 : lo ≤ y) (h2 : y ≤ hi) (h3 : 0 ≤ x) (h4 : x ≤ b) (h5 : lo ≤ 0) (h6 : 0 ≤ hi) : lo * b ≤ x * y ∧ x * y ≤ hi * b := by
  rw [Int.mul_comm x y]
  exact zmul_s h1 h2 h3 h4 h5 h6
/-! frames: what a method of the class, of the reference, leaves -/
def zFA (σ σ' : zSto) : Prop := (∀ k, (zNK ≤ k ∨ k = 28 ∨ k = 2) → σ' k = σ k) ∧ σ' 1 1 = σ 1 1
def zFB (σ σ' : zSto) : Prop := ∀ k, (zNK ≤ k ∨ k = 28 ∨ k = 2) → σ' k = σ k
def zK0 (σ σ' : zSto) : Prop := σ' 0 3 = σ 0 3 ∧ σ' 0 4 = σ 0 4 ∧ σ' 0 15 = σ 0 15 ∧ σ' 0 16 = σ 0 16
def zFC (σ σ' : zSto) : Prop := (∀ k, (zNK ≤ k ∨ k = 28 ∨ (5 ≤ k ∧ k ≤ 26)) → σ' k = σ k) ∧ zK0 σ σ'
def zFD (σ σ' : zSto) : Prop := (∀ k, (zNK ≤ k ∨ k = 28 ∨ k = 2 ∨ (5 ≤ k ∧ k ≤ 26)) → σ' k = σ k) ∧ zK0 σ σ'
def zFE (σ σ' : zSto) : Prop := zFD σ σ' ∧ σ' 1 1 = σ 1 1
theorem zK0_rf (σ : zSto) : zK0 σ σ := ⟨rfl, rfl, rfl, rfl⟩
theorem zK0_tr {a b c : zSto} (h1 : zK0 a b) (h2 : zK0 b c) : zK0 a c := ⟨h2.1.trans h1.1, h2.2.1.trans h1.2.1, h2.2.2.1.trans h1.2.2.1, h2.2.2.2.trans h1.2.2.2⟩
theorem zFD_rf (σ : zSto) : zFD σ σ := ⟨fun _ _ => rfl, zK0_rf σ⟩
theorem zFE_rf (σ : zSto) : zFE σ σ := ⟨zFD_rf σ, rfl⟩
theorem zFD_tr {a b c : zSto} (h1 : zFD a b) (h2 : zFD b c) : zFD a c := ⟨fun k h => (h2.1 k h).trans (h1.1 k h), zK0_tr h1.2 h2.2⟩
theorem zFE_tr {a b c : zSto} (h1 : zFE a b) (h2 : zFE b c) : zFE a c := ⟨zFD_tr h1.1 h2.1, h2.2.trans h1.2⟩
theorem zFD_of {a b : zSto} (h : zFE a b) : zFD a b := h.1
theorem zFA_rf (σ : zSto) : zFA σ σ := ⟨fun _ _ => rfl, rfl⟩
theorem zFB_rf (σ : zSto) : zFB σ σ := fun _ _ => rfl
theorem zFC_rf (σ : zSto) : zFC σ σ := ⟨fun _ _ => rfl, zK0_rf σ⟩
theorem zFA_tr {a b c : zSto} (h1 : zFA a b) (h2 : zFA b c) : zFA a c := ⟨fun k h => (h2.1 k h).trans (h1.1 k h), h2.2.trans h1.2⟩
theorem zFB_tr {a b c : zSto} (h1 : zFB a b) (h2 : zFB b c) : zFB a c := fun k h => (h2 k h).trans (h1 k h)
theorem zFC_tr {a b c : zSto} (h1 : zFC a b) (h2 : zFC b c) : zFC a c := ⟨fun k h => (h2.1 k h).trans (h1.1 k h), zK0_tr h1.2 h2.2⟩
theorem zFB_of {a b : zSto} (h : zFA a b) : zFB a b := h.1
theorem zFC_of {a b : zSto} (h : zFD a b) : zFC a b := ⟨fun k hk => h.1 k (hk.imp_right (fun x => x.imp_right Or.inr)), h.2⟩
theorem zFB_D {a b : zSto} (h : zFD a b) : zFB a b := fun k hk => h.1 k (by rcases hk with g | g | g <;> simp [g])
theorem zFB_E {a b : zSto} (h : zFE a b) : zFB a b := zFB_D h.1
theorem zFC_E {a b : zSto} (h : zFE a b) : zFC a b := zFC_of h.1
theorem zFA_E {a b : zSto} (h : zFE a b) : zFA a b := ⟨zFB_D h.1, h.2⟩
def zclr (r : Nat) : Bool := (List.range zNC).all (fun k => !(zro k == r) || (decide (k < zNK) && decide (k ≠ 28) && decide (k ≠ 2)))
theorem zclr_lt {k r : Nat} (hk : zro k = r) (hr : r ≠ 0) (h : zclr r = true) : k < zNK ∧ k ≠ 28 ∧ k ≠ 2 := by
  have h1 := List.all_eq_true.mp h k (List.mem_range.mpr (zro_lt hk hr))
  rw [hk] at h1
  simpa [and_assoc] using h1
theorem zFB_set {σ s : zSto} {k j r : Nat} {v : Int} (h : zFB σ s) (hk : zro k = r) (hr : r ≠ 0) (hc : zclr r = true) : zFB σ (zset s k j v) := by
  intro a ha
  obtain ⟨h1, h2, h3⟩ := zclr_lt hk hr hc
  funext b
  rw [zset_k (by rcases ha with g | g | g <;> omega)]
  exact congrFun (h a ha) b
def zcle (r : Nat) : Bool := (List.range zNC).all (fun k => !(zro k == r) || (decide (k < zNK) && decide (k ≠ 28) && decide (k ≠ 2) && decide (k < 5 ∨ 26 < k)))
def zclc (r : Nat) : Bool := (List.range zNC).all (fun k => !(zro k == r) || (decide (k < zNK) && decide (k ≠ 28) && decide (k < 5 ∨ 26 < k)))
theorem zK0_set {σ s : zSto} {k j r : Nat} {v : Int} (h : zK0 σ s) (hk : zro k = r) (hn : r ≠ 1 ∨ (j ≠ 3 ∧ j ≠ 4 ∧ j ≠ 15 ∧ j ≠ 16)) : zK0 σ (zset s k j v) := by
  have e : ∀ i, (i = 3 ∨ i = 4 ∨ i = 15 ∨ i = 16) → zset s k j v 0 i = s 0 i := fun i hi => by
    rcases hn with q | q
    · exact zset_k (fun x => q (by rw [← hk, ← x]; exact zc_0))
    · exact zset_j (fun x => by omega)
  unfold zK0 at *
  rw [e 3 (by omega), e 4 (by omega), e 15 (by omega), e 16 (by omega)]
  exact h
theorem zFD_set {σ s : zSto} {k j r : Nat} {v : Int} (h : zFD σ s) (hk : zro k = r) (hr : r ≠ 0) (hc : zcle r = true) (hn : r ≠ 1 ∨ (j ≠ 3 ∧ j ≠ 4 ∧ j ≠ 15 ∧ j ≠ 16)) : zFD σ (zset s k j v) := by
  refine ⟨fun a ha => ?_, zK0_set h.2 hk hn⟩
  have h1 := List.all_eq_true.mp hc k (List.mem_range.mpr (zro_lt hk hr))
  rw [hk] at h1
  have h1 : k < zNK ∧ k ≠ 28 ∧ k ≠ 2 ∧ (k < 5 ∨ 26 < k) := by simpa [and_assoc] using h1
  obtain ⟨g1, g2, g3, g4⟩ := h1
  funext b
  rw [zset_k (by rcases ha with g | g | g | g <;> omega)]
  exact congrFun (h.1 a ha) b
theorem zFE_set {σ s : zSto} {k j r : Nat} {v : Int} (h : zFE σ s) (hk : zro k = r) (hr : r ≠ 0) (hc : zcle r = true) (hn : r ≠ 1 ∨ (j ≠ 3 ∧ j ≠ 4 ∧ j ≠ 15 ∧ j ≠ 16)) (hm : r ≠ 2 ∨ j ≠ 1) : zFE σ (zset s k j v) := by
  refine ⟨zFD_set h.1 hk hr hc hn, ?_⟩
  have : zset s k j v 1 1 = s 1 1 := by
    rcases hm with q | q
    · exact zset_k (fun e => q (by rw [← hk, ← e]; exact zc_1))
    · exact zset_j (fun e => q e.symm)
  rw [this]
  exact h.2
theorem zFC_set {σ s : zSto} {k j r : Nat} {v : Int} (h : zFC σ s) (hk : zro k = r) (hr : r ≠ 0) (hc : zclc r = true) (hn : r ≠ 1 ∨ (j ≠ 3 ∧ j ≠ 4 ∧ j ≠ 15 ∧ j ≠ 16)) : zFC σ (zset s k j v) := by
  refine ⟨fun a ha => ?_, zK0_set h.2 hk hn⟩
  have h1 := List.all_eq_true.mp hc k (List.mem_range.mpr (zro_lt hk hr))
  rw [hk] at h1
  have h1 : k < zNK ∧ k ≠ 28 ∧ (k < 5 ∨ 26 < k) := by simpa [and_assoc] using h1
  obtain ⟨g1, g2, g4⟩ := h1
  funext b
  rw [zset_k (by rcases ha with g | g | g <;> omega)]
  exact congrFun (h.1 a ha) b
theorem zFA_set {σ s : zSto} {k j r : Nat} {v : Int} (h : zFA σ s) (hk : zro k = r) (hr : r ≠ 0) (hc : zclr r = true) (hn : r ≠ 2 ∨ j ≠ 1) : zFA σ (zset s k j v) := by
  refine ⟨zFB_set h.1 hk hr hc, ?_⟩
  have : zset s k j v 1 1 = s 1 1 := by
    rcases hn with q | q
    · exact zset_k (fun e => q (by rw [← hk, ← e]; exact zc_1))
    · exact zset_j (fun e => q e.symm)
  rw [this]
  exact h.2
theorem zcp_FA {σ0 σ σ' : zSto} {a b sp dp n r : Nat} (h : zcp σ σ' a b sp dp n) (hF : zFA σ0 σ) (hkb : zro b = r) (hr : r ≠ 0) (hc : zclr r = true) (hn : r ≠ 2) : zFA σ0 σ' := by
  obtain ⟨h1, h2, h3⟩ := zclr_lt hkb hr hc
  refine ⟨fun k hk => ?_, ?_⟩
  · rw [h.1 k (by rcases hk with g | g | g <;> omega)]
    exact hF.1 k hk
  · have : (1 : Nat) ≠ b := fun e => hn (by rw [← hkb, ← e]; exact zc_1)
    rw [congrFun (h.1 1 this) 1]
    exact hF.2
theorem zcp_FE {σ0 σ σ' : zSto} {a b sp dp n r : Nat} (h : zcp σ σ' a b sp dp n) (hF : zFE σ0 σ) (hkb : zro b = r) (hr : r ≠ 0) (hc : zcle r = true) (hn : r ≠ 2 ∧ r ≠ 1) : zFE σ0 σ' := by
  have h1 := List.all_eq_true.mp hc b (List.mem_range.mpr (zro_lt hkb hr))
  rw [hkb] at h1
  have h1 : b < zNK ∧ b ≠ 28 ∧ b ≠ 2 ∧ (b < 5 ∨ 26 < b) := by simpa [and_assoc] using h1
  obtain ⟨g1, g2, g3, g4⟩ := h1
  have e0 : (0 : Nat) ≠ b := fun e => hn.2 (by rw [← hkb, ← e]; exact zc_0)
  have e1 : (1 : Nat) ≠ b := fun e => hn.1 (by rw [← hkb, ← e]; exact zc_1)
  refine ⟨⟨fun k hk => ?_, ?_⟩, ?_⟩
  · rw [h.1 k (by rcases hk with g | g | g | g <;> omega)]
    exact hF.1.1 k hk
  · unfold zK0
    rw [h.1 0 e0]
    exact hF.1.2
  · rw [congrFun (h.1 1 e1) 1]
    exact hF.2
theorem zwr (x : Int) : ∃ r : Int, zI r = zI x ∧ -2147483648 ≤ r ∧ r ≤ 2147483647 := ⟨(zI x).toInt, zI_of _, zI_lo _, zI_hi _⟩
theorem zne_r {a b r q : Nat} (h1 : zro a = r) (h2 : zro b = q) (h : r ≠ q) : a ≠ b := fun e => h (h1.symm.trans (e ▸ h2))
def zlvof : List Value → List (Option Value)
  | [] => []
  | .long x :: l => some (.long x) :: none :: zlvof l
  | .double x :: l => some (.double x) :: none :: zlvof l
  | v :: l => some v :: zlvof l
theorem zlvof_mem : ∀ (av : List Value) (n i0 i : Nat) (v : Value), (zlvof av ++ List.replicate n none)[i]? = some (some v) → (i0 + i, v) ∈ lv_args i0 av
  | [], n, i0, i, v, h => by
    simp only [zlvof, List.nil_append] at h
    rw [List.getElem?_replicate] at h
    split at h
    · cases h
    · cases h
  | a :: av, n, i0, i, v, h => by
    have step : (∀ j, (zlvof av ++ List.replicate n none)[j]? = some (some v) → ∀ c, (c + j, v) ∈ lv_args c av) := fun j hj c => zlvof_mem av n c j v hj
    by_cases hc : a.category = 2
    · have e : zlvof (a :: av) = some a :: none :: zlvof av := by cases a <;> first | rfl | (simp [Value.category] at hc)
      rw [e] at h
      match i, h with
      | 0, h => simp at h; subst h; exact List.mem_cons_self
      | 1, h => simp at h
      | j + 2, h =>
        simp only [List.cons_append, List.getElem?_cons_succ] at h
        refine List.mem_cons_of_mem _ ?_
        rw [if_pos hc]
        have := step j h (i0 + 2)
        rwa [show i0 + 2 + j = i0 + (j + 2) by omega] at this
    · have e : zlvof (a :: av) = some a :: zlvof av := by cases a <;> first | rfl | (simp [Value.category] at hc)
      rw [e] at h
      match i, h with
      | 0, h => simp at h; subst h; exact List.mem_cons_self
      | j + 1, h =>
        simp only [List.cons_append, List.getElem?_cons_succ] at h
        refine List.mem_cons_of_mem _ ?_
        rw [if_neg hc]
        have := step j h (i0 + 1)
        rwa [show i0 + 1 + j = i0 + (j + 1) by omega] at this
theorem zCt_of2 {l : Launch} {E : zEN} {y : MethodName} {b : ByteArray} {mL : Nat} {ret : Option FieldType} {d n n' mc ms : Nat} {σ : zSto} {av : List Value} {Post : Int → zSto → Prop} (lv : List (Option Value)) (hy : plainName y.cls = true) (hlen : (lg_sl av).length ≤ mL) (hlv : zlvof av ++ List.replicate (mL - (zlvof av).length) none = lv)
    (body : ∀ X : zCX, X.1 = E → zok X b y.cls d → zret X mc ms n' ret Post → X.2.2.2.2.2.2.2.2.2.2.2.2 = mL → X.2.2.2.2.2.2.2.2.2.1.name = y.name ∧ X.2.2.2.2.1.cells = mc ∧ X.2.2.2.2.1.slots = ms → zZ X n 0 0 σ 0 lv []) : zCt l E y b mL ret d n n' mc ms σ av Post := by
  unfold zCt
  refine Met.ofW (cc := b) (maxL := mL) (ret := ret) hy rfl ?_
  intro p e s m args below meth c s₁ B hml hv
  obtain ⟨rfl, hG, hK, hst⟩ := hv
  have hts := atoms_spec (ws := .code y b mL ret :: wsL_law) B.pre
  have hown : s.vm.findClass y.cls = some m.cls := findClass_of_methodNamed B.named
  have hb := body (E, p, l, e, (headSpec (.code y b mL ret :: wsL_law) (zrm d mc ms)).room, s, m, av.toArray, below, meth, c, MQ below (zQc E n' ret Post) av.toArray s mc ms (fun q => E.1 ≤ q), mL) rfl
    ⟨B.exec, B.bytes, hml, hown, ⟨_, hts⟩, B.notSynchronized, hK, hst, Nat.le_refl _, Nat.le_refl _⟩ ⟨B.returns, rfl⟩ rfl ⟨(name_of_methodNamed B.named B.method).1, rfl, rfl⟩
  have hl := lv_entry av (n := mL) hlen
  rw [lg_entry_eq]
  refine hb s.heap [] _ hG va_S.rf (zlv_of hl fun i v h => ?_)
  rw [← hlv] at h
  have := zlvof_mem av _ 0 i v h
  rwa [Nat.zero_add] at this
def zkn (k : Nat) : Bool := decide (k < zNK) || decide (k = 165) || (decide (167 ≤ k) && decide (k ≤ 193)) || (decide (211 ≤ k) && decide (k ≤ 233))
def zkt (k : Nat) : Bool := decide (k < zNK) || (decide (167 ≤ k) && decide (k ≤ 193)) || (decide (211 ≤ k) && decide (k ≤ 233))
theorem zkn_t {k : Nat} (h : zkt k = true) : zkn k = true := by
  simp only [zkt, zkn, Bool.or_eq_true] at h ⊢
  rcases h with (h | h) | h
  · exact Or.inl (Or.inl (Or.inl h))
  · exact Or.inl (Or.inr h)
  · exact Or.inr h
theorem zkn_c {k : Nat} (h : k < 164) : zkn k = true := by
  have h : k < zNK := h
  simp only [zkn, decide_eq_true h, Bool.true_or]
theorem zkt_c {k : Nat} (h : k < 164) : zkt k = true := by
  have h : k < zNK := h
  simp only [zkt, decide_eq_true h, Bool.true_or]
def zFM (σ σ' : zSto) : Prop := (∀ k, zkn k = true → σ' k = σ k) ∧ σ' zNK 1 = σ zNK 1 ∧ σ' zNK 7 = σ zNK 7 ∧ σ' zNK 8 = σ zNK 8
def zFN (σ σ' : zSto) : Prop := ∀ k, zkn k = true → σ' k = σ k
def zFT (σ σ' : zSto) : Prop := ∀ k, zkt k = true → σ' k = σ k
theorem zFM_rf (σ : zSto) : zFM σ σ := ⟨fun _ _ => rfl, rfl, rfl, rfl⟩
theorem zFN_rf (σ : zSto) : zFN σ σ := fun _ _ => rfl
theorem zFM_tr {a b c : zSto} (h1 : zFM a b) (h2 : zFM b c) : zFM a c := ⟨fun k h => (h2.1 k h).trans (h1.1 k h), h2.2.1.trans h1.2.1, h2.2.2.1.trans h1.2.2.1, h2.2.2.2.trans h1.2.2.2⟩
theorem zFN_tr {a b c : zSto} (h1 : zFN a b) (h2 : zFN b c) : zFN a c := fun k h => (h2 k h).trans (h1 k h)
theorem zFT_tr {a b c : zSto} (h1 : zFT a b) (h2 : zFT b c) : zFT a c := fun k h => (h2 k h).trans (h1 k h)
theorem zFN_of {a b : zSto} (h : zFM a b) : zFN a b := h.1
def zmor (r : Nat) : Bool := (List.range zNC).all (fun k => !(zro k == r) || !(zkn k))
def zmot (r : Nat) : Bool := (List.range zNC).all (fun k => !(zro k == r) || !(zkt k))
theorem zmor_ge {k r : Nat} (hk : zro k = r) (hr : r ≠ 0) (h : zmor r = true) : zkn k = false := by
  have h1 := List.all_eq_true.mp h k (List.mem_range.mpr (zro_lt hk hr))
  rw [hk] at h1
  simpa using h1
theorem zmot_ge {k r : Nat} (hk : zro k = r) (hr : r ≠ 0) (h : zmot r = true) : zkt k = false := by
  have h1 := List.all_eq_true.mp h k (List.mem_range.mpr (zro_lt hk hr))
  rw [hk] at h1
  simpa using h1
theorem zFN_set {σ s : zSto} {k j r : Nat} {v : Int} (h : zFN σ s) (hk : zro k = r) (hr : r ≠ 0) (hc : zmor r = true) : zFN σ (zset s k j v) := by
  intro a ha
  have hlt := zmor_ge hk hr hc
  funext b
  rw [zset_k (fun e => by rw [e, hlt] at ha; exact absurd ha Bool.false_ne_true)]
  exact congrFun (h a ha) b
theorem zFT_set {σ s : zSto} {k j r : Nat} {v : Int} (h : zFT σ s) (hk : zro k = r) (hr : r ≠ 0) (hc : zmot r = true) : zFT σ (zset s k j v) := by
  intro a ha
  have hlt := zmot_ge hk hr hc
  funext b
  rw [zset_k (fun e => by rw [e, hlt] at ha; exact absurd ha Bool.false_ne_true)]
  exact congrFun (h a ha) b
theorem zFM_set {σ s : zSto} {k j r : Nat} {v : Int} (h : zFM σ s) (hk : zro k = r) (hr : r ≠ 0) (hc : zmor r = true) (hn : r ≠ 46 ∨ (j ≠ 1 ∧ j ≠ 7 ∧ j ≠ 8)) : zFM σ (zset s k j v) := by
  have e : ∀ i, (i = 1 ∨ i = 7 ∨ i = 8) → zset s k j v zNK i = s zNK i := fun i hi => by
    rcases hn with q | q
    · exact zset_k (fun e => q (by rw [← hk, ← e]; exact zc_164))
    · exact zset_j (fun e => by omega)
  refine ⟨zFN_set h.1 hk hr hc, ?_⟩
  rw [e 1 (by omega), e 7 (by omega), e 8 (by omega)]
  exact h.2
theorem zro_town {i : Nat} (h : i < 20) : zro (47 + 5 * i) = 22 := by
  have q : ∀ a, a < 20 → zro (47 + 5 * a) = 22 := by decide +kernel
  exact q i h
