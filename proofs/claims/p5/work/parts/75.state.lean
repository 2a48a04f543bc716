/-! what the start gives: classes, array classes, statics, the words' String -/
theorem zinst {c : Nat} {q : vw_C} (h : zcl[c]? = some q) : Cond.instantiable q.1 q.2.2 ∈ wsL_law := by
  match c, h with
  | 0, h => cases h; exact zw_9_12
  | 1, h => cases h; exact zw_2_7
  | 2, h => cases h; exact zw_2_20
  | 3, h => cases h; exact zw_1_22
  | 4, h => cases h; exact zw_1_18
  | 5, h => cases h; exact zw_2_3
  | 6, h => cases h; exact zw_3_4
  | 7, h => cases h; exact zw_3_0
  | 8, h => cases h; exact zw_2_11
  | 9, h => cases h; exact zw_1_13
  | 10, h => cases h; exact zw_2_15
  | 11, h => cases h; exact zw_1_1
  | 12, h => cases h; exact zw_1_4
  | c + 13, h => simp [zcl] at h
theorem zknow {s : State} {args : Array Value} (ht : ∀ w ∈ wsL_law, w.before args s = true) : ∃ D : va_G, ∀ (k : Nat) (q : vw_C), zcl[k]? = some q → u_Kn s q.1 q.2.1 q.2.2 (D.1 k) (D.2 k) := by
  have h : ∀ k : Nat, ∃ y : ClassId × (Nat → Nat), ∀ q : vw_C, zcl[k]? = some q → u_Kn s q.1 q.2.1 q.2.2 y.1 y.2 := by
    intro k
    cases hq : zcl[k]? with
    | none =>
      obtain ⟨c0, i0, -⟩ := u_known (C := RX0) (T := TX0) (N := 4) ht (zw_cl (c := 0) (q := (RX0, TX0, 4)) rfl) (ht _ (zinst (c := 0) (q := (RX0, TX0, 4)) rfl))
      exact ⟨(c0, i0), fun q h => by cases h⟩
    | some q =>
      obtain ⟨c0, i0, h0⟩ := u_known (C := q.1) (T := q.2.1) (N := q.2.2) ht (zw_cl hq) (ht _ (zinst hq))
      exact ⟨(c0, i0), fun q' h' => by cases h'; exact h0⟩
  obtain ⟨f, hf⟩ := Classical.axiomOfChoice h
  exact ⟨(fun k => (f k).1, fun k => (f k).2), fun k q hq => hf k q hq⟩
theorem zarp {s : State} {args : Array Value} {ty : FieldType} (h : (Cond.arrayClass ty).before args s = true) : ∃ c : ClassId, ArrOfT s c ty ∧ s.vm.findClass ("[" ++ ty.toString) = some c := by
  obtain ⟨c, k, comp, h1, h2, h3⟩ := Cond.arrayClass_spec (args := args) (first := s) (o := none) (s := s) (idx := []) h
  exact ⟨c, fun n z => ⟨fun k h => (by cases h), k, h2, comp, h3⟩, h1⟩
theorem zarr6 {s : State} {args : Array Value} (ht : ∀ w ∈ wsL_law, w.before args s = true) (h5 : (Cond.arrayOver (.object "OnePane$Town")).before args s = true) : ∃ f : Nat → ClassId, ∀ (k : Nat) (q : ClassId × FieldType), ((List.range 6).map (fun t => (f t, zty t)))[k]? = some q → ArrOfT s q.1 q.2 ∧ va_RA s q.1 q.2 := by
  obtain ⟨c0, a0, b0⟩ := zarp (ht _ zw_3_7)
  obtain ⟨c1, a1, b1⟩ := zarp (ht _ zw_3_17)
  obtain ⟨c2, a2, b2⟩ := zarp (ht _ zw_8_23)
  obtain ⟨c3, a3, b3⟩ := zarp (ht _ zw_10_19)
  obtain ⟨c4, a4, b4⟩ := zarp (ht _ zw_12_1)
  obtain ⟨comp, c5, k5, g1, g2, g3, g4, g5⟩ := Cond.arrayOver_spec (args := args) (first := s) (o := none) (s := s) (idx := []) h5
  refine ⟨fun t => match t with
    | 0 => c0
    | 1 => c1
    | 2 => c2
    | 3 => c3
    | 4 => c4
    | _ => c5, fun k q hq => ?_⟩
  have hk : k < 6 := by
    have := (List.getElem?_eq_some_iff.mp hq).1
    simpa using this
  rcases (show k = 0 ∨ k = 1 ∨ k = 2 ∨ k = 3 ∨ k = 4 ∨ k = 5 by omega) with rfl | rfl | rfl | rfl | rfl | rfl
  · cases hq; exact ⟨a0, b0⟩
  · cases hq; exact ⟨a1, b1⟩
  · cases hq; exact ⟨a2, b2⟩
  · cases hq; exact ⟨a3, b3⟩
  · cases hq; exact ⟨a4, b4⟩
  · cases hq; exact ⟨fun N z => ⟨(fun k h => by cases h), k5, g3, comp, g4⟩, k5, comp, g3, g4, g1, g5⟩
theorem znw_in : ∀ w ∈ znwl, w ∈ lw_tbl ∧ w.onTables = true := List.forall_mem_cons.mpr ⟨⟨zib_0, rfl⟩, List.forall_mem_cons.mpr ⟨⟨zib_1, rfl⟩, List.forall_mem_cons.mpr ⟨⟨zib_2, rfl⟩, List.forall_mem_cons.mpr ⟨⟨zib_3, rfl⟩, List.forall_mem_cons.mpr ⟨⟨zib_4, rfl⟩, List.forall_mem_cons.mpr ⟨⟨zib_5, rfl⟩, List.forall_mem_cons.mpr ⟨⟨zib_6, rfl⟩, List.forall_mem_cons.mpr ⟨⟨zib_7, rfl⟩, List.forall_mem_cons.mpr ⟨⟨zib_8, rfl⟩, fun _ h => absurd h List.not_mem_nil⟩⟩⟩⟩⟩⟩⟩⟩⟩
abbrev zfl : List Cond := flatC (Jvm.Cond.and given_1 narrow_1)
def zby : List Int32 := [112, 97, 110, 101, 32, 98, 121, 32, 116, 111, 117, 103, 104, 32, 104, 101, 97, 118, 121, 32, 112, 111, 108, 101, 32, 97, 116, 32, 108, 105, 102, 116, 115, 32, 97, 100, 100, 115, 32, 104, 111, 108, 100, 115, 32, 102, 97, 100, 101, 115, 32, 115, 116, 111, 110, 101, 32, 104, 97, 105, 108, 32, 104, 111, 117, 114, 32, 99, 114, 97, 99, 107, 115, 32, 119, 101, 105, 103, 104, 116, 32, 116, 105, 114, 101, 100, 32, 110, 101, 97, 114, 32, 110, 117, 109, 98, 101, 114, 32, 99, 111, 108, 117, 109, 110, 32, 114, 111, 119, 32, 102, 97, 114, 32, 111, 114, 32, 97, 110, 100, 32, 110, 111, 116, 32, 97, 108, 108, 32, 109, 105, 110, 32, 109, 97, 120, 32, 102, 105, 114, 115, 116, 32, 108, 97, 115, 116, 32, 111, 102, 116, 101, 110, 32, 116, 111, 116, 97, 108, 32, 109, 111, 115, 116, 32, 108, 101, 97, 115, 116, 32]
theorem zf_4 : Cond.eq (.static "java/lang/String" "COMPACT_STRINGS" "Z") (.int 1) ∈ zfl := List.mem_of_getElem? (i := 4) (by decide +kernel)
theorem zf_5 : Cond.isRef (.static "jdk/internal/util/Preconditions" "SIOOBE_FORMATTER" "Ljava/util/function/BiFunction;") ∈ zfl := List.mem_of_getElem? (i := 5) (by decide +kernel)
abbrev zLW : Term := .static "OnePane" "LETTER_WORTH" "[I"
theorem zf_10 : Cond.arrayOf zLW .int ∈ zfl := List.mem_of_getElem? (i := 10) (by decide +kernel)
theorem zf_11 : Cond.eq (.length zLW) (.int 6) ∈ zfl := List.mem_of_getElem? (i := 11) (by decide +kernel)
theorem zf_12 : Cond.eq (.elem zLW (.int 0)) (.int 14348907) ∈ zfl := List.mem_of_getElem? (i := 12) (by decide +kernel)
theorem zf_13 : Cond.eq (.elem zLW (.int 1)) (.int 531441) ∈ zfl := List.mem_of_getElem? (i := 13) (by decide +kernel)
theorem zf_14 : Cond.eq (.elem zLW (.int 2)) (.int 19683) ∈ zfl := List.mem_of_getElem? (i := 14) (by decide +kernel)
theorem zf_15 : Cond.eq (.elem zLW (.int 3)) (.int 729) ∈ zfl := List.mem_of_getElem? (i := 15) (by decide +kernel)
theorem zf_16 : Cond.eq (.elem zLW (.int 4)) (.int 27) ∈ zfl := List.mem_of_getElem? (i := 16) (by decide +kernel)
theorem zf_17 : Cond.eq (.elem zLW (.int 5)) (.int 1) ∈ zfl := List.mem_of_getElem? (i := 17) (by decide +kernel)
abbrev zSR : Term := .string "OnePane$Reader" 40
abbrev zSV : Term := .field zSR "java/lang/String" "value" "[B"
theorem zf_18 : Cond.exactly zSR "java/lang/String" ∈ zfl := List.mem_of_getElem? (i := 18) (by decide +kernel)
theorem zf_19 : Cond.eq (.field zSR "java/lang/String" "coder" "B") (.int 0) ∈ zfl := List.mem_of_getElem? (i := 19) (by decide +kernel)
theorem zf_20 : Cond.arrayOf zSV .byte ∈ zfl := List.mem_of_getElem? (i := 20) (by decide +kernel)
theorem zf_21 : Cond.eq (.length zSV) (.int 171) ∈ zfl := List.mem_of_getElem? (i := 21) (by decide +kernel)
set_option maxRecDepth 100000 in
theorem zf_el : ∀ j, j < 171 → zfl[j + 22]? = some (Cond.eq (.elem zSV (.int (Int32.ofNat j))) (.int (zby.getD j 0))) := by decide +kernel
set_option maxRecDepth 100000 in
theorem yzb : ∀ j, j < 171 → (zby.getD j 0 &&& zI 255).toInt = ybyt.getD j 0 := by decide +kernel
theorem zst_of {s : State} {b : Nat} {E : zEN} (hE : E.1 = s.heap.size) (hts : ∀ w ∈ lw_tbl, w.before #[Value.ref b] s = true) (hgv : (Jvm.Cond.and given_1 narrow_1).before #[Value.ref b] s = true) : zstat E s := by
  have hA : ∀ a : Nat, a < s.heap.size → ¬ (fun q : Nat => E.1 ≤ q) a := fun a ha h => by
    have h : E.1 ≤ a := h
    omega
  have hf := flat_of_before _ hgv
  refine ⟨fun w hw => va_Nw.of (znw_in w hw).2 (hts w (znw_in w hw).1), ?_⟩
  obtain ⟨t, ht, hT⟩ := va_Tof (tm := zLW) (ty := .int) (N := 6) (f := fun j => .int (zI (zlw j))) (A := fun q => E.1 ≤ q) (by decide) (hf _ zf_10) (va_eqt (hf _ zf_11)) (fun j hj => by
    rcases (show j = 0 ∨ j = 1 ∨ j = 2 ∨ j = 3 ∨ j = 4 ∨ j = 5 by omega) with rfl | rfl | rfl | rfl | rfl | rfl
    · exact va_eqt (hf _ zf_12)
    · exact va_eqt (hf _ zf_13)
    · exact va_eqt (hf _ zf_14)
    · exact va_eqt (hf _ zf_15)
    · exact va_eqt (hf _ zf_16)
    · exact va_eqt (hf _ zf_17)) hA
  exact ⟨t, va_Zof (hts _ zib_9) (hts _ zib_14) ht hA, hT⟩
theorem zxs_of {s : State} {b : Nat} {E : zEN} (hE : E.1 = s.heap.size) (hts : ∀ w ∈ lw_tbl, w.before #[Value.ref b] s = true) (hgv : (Jvm.Cond.and given_1 narrow_1).before #[Value.ref b] s = true) : ∃ z : zST, zxs E z s ∧ yzs z := by
  have hA : ∀ a : Nat, a < s.heap.size → ¬ (fun q : Nat => E.1 ≤ q) a := fun a ha h => by
    have h : E.1 ≤ a := h
    omega
  have hf := flat_of_before _ hgv
  obtain ⟨aK, aV, hS, hev⟩ := vk_Sof (args := #[Value.ref b]) (s := s) (N := 1) (tm := fun _ => zSR) (len := [171]) (byt := [zby]) (A := fun q => E.1 ≤ q)
    (fun i hi => by rw [show i = 0 by omega]; decide) (fun i hi => hf _ zf_18) (fun i hi => hf _ zf_19) (fun i hi => hf _ zf_20) (fun i hi => by rw [show i = 0 by omega]; exact hf _ zf_21)
    (fun i hi j hj => by
      rw [show i = 0 by omega] at hj ⊢
      exact hf _ (List.mem_of_getElem? (zf_el j hj)))
    (fun i j hi hj h => absurd (show i = j by omega) h) hA
  obtain ⟨q1, q2, q3, q4⟩ := hS.1 0 (by decide)
  exact ⟨(aK 0, aV 0, 171, fun j => zby.getD j 0), ⟨va_AO.of (hts _ zib_16), va_Zof (hts _ zib_10) (hts _ zib_12) (va_eqi (hf _ zf_4)) hA, va_Zqof (hts _ zib_11) (hts _ zib_13) (hf _ zf_5) hA, (show 171 ≤ 1000 by decide), vk_R.of (hts _ zib_15) (hev 0 (by decide)), q1, q2, q3, q4⟩, rfl, fun j hj => yzb j hj⟩
