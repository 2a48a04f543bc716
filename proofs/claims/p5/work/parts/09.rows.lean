abbrev zEN : Type := Nat × va_G × (Nat → ClassId)
def zty (t : Nat) : FieldType := match t with
  | 0 => .int
  | 1 => .byte
  | 2 => .boolean
  | 3 => .char
  | 4 => .long
  | _ => .object "OnePane$Town"
def ztys (E : zEN) : List (ClassId × FieldType) := (List.range 6).map (fun t => (E.2.2 t, zty t))
def zrf (B : Nat) (x : Int) : Option Nat := if x < 0 then none else some (B + x.toNat)
def zfv (B : Nat) (ty : FieldType) (x : Int) : Value := match ty with
  | .long => .long (zJ x)
  | .object _ => va_rf (zrf B x)
  | .array _ => va_rf (zrf B x)
  | _ => .int (zI x)
def zarr (B t : Nat) (f : Nat → Int) : (Nat → Int32) ⊕ (Nat → Int64) ⊕ (Nat → UInt32) ⊕ (Nat → UInt64) ⊕ (Nat → Option Nat) := match t with
  | 4 => .inr (.inl (fun j => zJ (f j)))
  | 5 => .inr (.inr (.inr (.inr (fun j => zrf B (f j)))))
  | _ => .inl (fun j => zI (f j))
def znf (c : Nat) : Nat := ((zcl[c]?).getD (RX0, TX0, 0)).2.2
def zen (E : zEN) (σ : zSto) (k : Nat) : va_E := match zrs (zro k) with
  | .inl c => .inr (c, (List.range (znf c)).map (fun j => zfv E.1 (zft c j) (σ k j)))
  | .inr (t, n) => .inl (E.2.2 t, n, zarr E.1 t (σ k))
def zws (E : zEN) (n : Nat) (σ : zSto) : va_W := (List.range n).map (fun k => (E.1 + k, zen E σ k))
def zG (E : zEN) (n : Nat) (σ : zSto) (H : Heap) : Prop := (n = zNC ∨ H.size = E.1 + n) ∧ va_P E.2.1 zcl (zws E n σ) H
theorem zws_at {E : zEN} {n k : Nat} {σ : zSto} (h : k < n) : (zws E n σ)[k]? = some (E.1 + k, zen E σ k) := by
  unfold zws
  rw [List.getElem?_map, List.getElem?_range h]
  rfl
theorem zws_k {E : zEN} {n k : Nat} {σ : zSto} {q : Nat × va_E} (h : (zws E n σ)[k]? = some q) : k < n ∧ q = (E.1 + k, zen E σ k) := by
  have hk : k < n := by
    have := (List.getElem?_eq_some_iff.mp h).1
    simpa [zws] using this
  rw [zws_at hk] at h
  exact ⟨hk, (Option.some.inj h).symm⟩
theorem zws_D (E : zEN) (n : Nat) (σ : zSto) : va_D (fun q => E.1 ≤ q) (zws E n σ) := by
  refine ⟨fun i j p q hi hj e => ?_, fun k q hk => ?_⟩
  · obtain ⟨-, rfl⟩ := zws_k hi
    obtain ⟨-, rfl⟩ := zws_k hj
    exact Nat.add_left_cancel e
  · obtain ⟨-, rfl⟩ := zws_k hk
    exact Nat.le_add_right _ _
theorem zen_o {E : zEN} {σ : zSto} {k r c : Nat} (hk : zro k = r) (hs : zrs r = .inl c) : zen E σ k = .inr (c, (List.range (znf c)).map (fun j => zfv E.1 (zft c j) (σ k j))) := by
  unfold zen
  rw [hk, hs]
theorem zen_a {E : zEN} {σ : zSto} {k r t m : Nat} (hk : zro k = r) (hs : zrs r = .inr (t, m)) : zen E σ k = .inl (E.2.2 t, m, zarr E.1 t (σ k)) := by
  unfold zen
  rw [hk, hs]
/-- one place written: the list of cells with that cell new is the new store's list -/
theorem zws_set {E : zEN} {n k j : Nat} {σ : zSto} {v : Int} {e : va_E} (h : k < n) (he : zen E (zset σ k j v) k = e) : (zws E n σ).set k (E.1 + k, e) = zws E n (zset σ k j v) := by
  subst he
  apply List.ext_getElem?
  intro i
  by_cases hi : i < n
  · rw [zws_at hi]
    by_cases hik : k = i
    · subst hik
      rw [List.getElem?_set_self (by simpa [zws] using h)]
    · rw [List.getElem?_set_ne hik, zws_at hi]
      have : zen E (zset σ k j v) i = zen E σ i := by
        unfold zen
        have e : zset σ k j v i = σ i := by
          funext b
          exact zset_k (fun q => hik q.symm)
        rw [e]
      rw [this]
  · rw [List.getElem?_eq_none (by simpa [zws] using Nat.le_of_not_lt hi), List.getElem?_eq_none (by simpa [zws] using Nat.le_of_not_lt hi)]
theorem zws_cpy {E : zEN} {n k : Nat} {σ σ' : zSto} {e : va_E} (h : k < n) (he : zen E σ' k = e) (ho : ∀ i, i ≠ k → σ' i = σ i) : (zws E n σ).set k (E.1 + k, e) = zws E n σ' := by
  subst he
  apply List.ext_getElem?
  intro i
  by_cases hi : i < n
  · rw [zws_at hi]
    by_cases hik : k = i
    · subst hik
      rw [List.getElem?_set_self (by simpa [zws] using h)]
    · rw [List.getElem?_set_ne hik, zws_at hi]
      have : zen E σ' i = zen E σ i := by
        unfold zen
        rw [ho i (fun q => hik q.symm)]
      rw [this]
  · rw [List.getElem?_eq_none (by simpa [zws] using Nat.le_of_not_lt hi), List.getElem?_eq_none (by simpa [zws] using Nat.le_of_not_lt hi)]
/-! the locals -/
def zlv (ls : Array Slot) (nL : Nat) (lv : List (Option Value)) : Prop := ls.size = nL ∧ lv_wf ls ∧ ∀ (i : Nat) (v : Value), lv[i]? = some (some v) → ls[i]? = some (.val v)
def zas (lv : List (Option Value)) : List (Nat × Value) := (List.range lv.length).filterMap (fun i => match lv[i]? with
  | some (some v) => some (i, v)
  | _ => none)
theorem zas_mem {lv : List (Option Value)} {q : Nat × Value} : q ∈ zas lv ↔ lv[q.1]? = some (some q.2) := by
  unfold zas
  rw [List.mem_filterMap]
  constructor
  · rintro ⟨i, -, hi⟩
    split at hi
    · rename_i v hv
      cases hi
      exact hv
    · cases hi
  · intro h
    refine ⟨q.1, List.mem_range.mpr (List.getElem?_eq_some_iff.mp h).1, ?_⟩
    rw [h]
theorem zlv_has {ls : Array Slot} {nL : Nat} {lv : List (Option Value)} (h : zlv ls nL lv) : lv_has ls nL (zas lv) := ⟨h.1, h.2.1, fun q hq => h.2.2 q.1 q.2 (zas_mem.mp hq)⟩
theorem zlv_of {ls : Array Slot} {nL : Nat} {lv : List (Option Value)} {l : List (Nat × Value)} (h : lv_has ls nL l) (hl : ∀ (i : Nat) (v : Value), lv[i]? = some (some v) → (i, v) ∈ l) : zlv ls nL lv := ⟨h.1, h.2.1, fun i v hv => h.2.2 (i, v) (hl i v hv)⟩
/-- storing a value of one slot: the place before it must not be a long -/
def zst1 (lv : List (Option Value)) (i : Nat) (v : Value) : List (Option Value) := (lv.set i (some v)).mapIdx (fun j x => if j + 1 = i then (match x with
  | some (.int _) => x
  | some (.ref _) => x
  | _ => none) else x)
def zst2 (lv : List (Option Value)) (i : Nat) (v : Value) : List (Option Value) := ((lv.set i (some v)).set (i + 1) none).mapIdx (fun j x => if j + 1 = i then (match x with
  | some (.int _) => x
  | some (.ref _) => x
  | _ => none) else x)
theorem zst1_ok {ls : Array Slot} {nL i : Nat} {lv : List (Option Value)} {v : Value} (h : lv_has ls nL ((i, v) :: (zas lv).filter (fun q => !(q.1 == i) && !(q.1 + 1 == i && q.2.category == 2)))) : zlv ls nL (zst1 lv i v) := by
  refine zlv_of h fun j w hj => ?_
  unfold zst1 at hj
  rw [List.getElem?_mapIdx] at hj
  by_cases hji : j = i
  · subst hji
    rw [List.getElem?_set] at hj
    by_cases hl : j < lv.length
    · simp [hl] at hj
      rw [hj]
      exact List.mem_cons_self
    · simp [hl] at hj
  · rw [List.getElem?_set_ne (fun q => hji q.symm)] at hj
    cases hq : lv[j]? with
    | none => rw [hq] at hj; simp at hj
    | some x =>
      rw [hq] at hj
      refine List.mem_cons_of_mem _ (List.mem_filter.mpr ?_)
      by_cases h1 : j + 1 = i
      · simp only [Option.map_some, h1, if_true] at hj
        split at hj
        · rename_i z
          cases hj
          exact ⟨zas_mem.mpr hq, by simp [hji, Value.category]⟩
        · rename_i z
          cases hj
          exact ⟨zas_mem.mpr hq, by simp [hji, Value.category]⟩
        · cases hj
      · simp only [Option.map_some, h1, if_false] at hj
        cases hj
        exact ⟨zas_mem.mpr hq, by simp [hji, h1]⟩
theorem zst2_ok {ls : Array Slot} {nL i : Nat} {lv : List (Option Value)} {v : Value} (h : lv_has ls nL ((i, v) :: (zas lv).filter (fun q => !(q.1 == i) && (!(q.1 == i + 1) && !(q.1 + 1 == i && q.2.category == 2))))) : zlv ls nL (zst2 lv i v) := by
  refine zlv_of h fun j w hj => ?_
  unfold zst2 at hj
  rw [List.getElem?_mapIdx] at hj
  by_cases hj1 : j = i + 1
  · subst hj1
    rw [List.getElem?_set] at hj
    by_cases hl : i + 1 < (lv.set i (some v)).length
    · simp [hl] at hj
    · simp [hl] at hj
  · rw [List.getElem?_set_ne (fun q => hj1 q.symm)] at hj
    by_cases hji : j = i
    · subst hji
      rw [List.getElem?_set] at hj
      by_cases hl : j < lv.length
      · simp [hl] at hj
        rw [hj]
        exact List.mem_cons_self
      · simp [hl] at hj
    · rw [List.getElem?_set_ne (fun q => hji q.symm)] at hj
      cases hq : lv[j]? with
      | none => rw [hq] at hj; simp at hj
      | some x =>
        rw [hq] at hj
        refine List.mem_cons_of_mem _ (List.mem_filter.mpr ?_)
        by_cases h1 : j + 1 = i
        · simp only [Option.map_some, h1, if_true] at hj
          split at hj
          · rename_i z
            cases hj
            exact ⟨zas_mem.mpr hq, by simp [hji, hj1, Value.category]⟩
          · rename_i z
            cases hj
            exact ⟨zas_mem.mpr hq, by simp [hji, hj1, Value.category]⟩
          · cases hj
        · simp only [Option.map_some, h1, if_false] at hj
          cases hj
          exact ⟨zas_mem.mpr hq, by simp [hji, hj1, h1]⟩
