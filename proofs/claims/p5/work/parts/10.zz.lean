/-! the state of a walk: the store, the place in the code, the locals, the operand stack -/
abbrev zCX : Type := zEN × Program × Launch × Env × Room × State × MethodId × Array Value × List Frame × Method × Code × (State → Prop) × Nat
def zZ (X : zCX) (n cs ss : Nat) (σ : zSto) (pc : Nat) (lv : List (Option Value)) (st : List Value) : Prop := match X with
  | (E, p, l, e, R, s, m, args, below, meth, c, Q, nL) => ∀ (H : Heap) (locs : List Loc) (ls : Array Slot), zG E n σ H → va_S (fun q => E.1 ≤ q) s.heap H locs → zlv ls nL lv → W p l e R s m args below meth c H locs cs ss Q (F0 m pc ls st)
/-- nest words, and the static row of letters' worths: what a state knows beside the cells -/
def znwl : List Cond := [.methodLinkNest RX11 23 yX4_init "OnePane", .methodLinkNest RX11 30 yX3_init "OnePane", .methodLinkNest RX11 65 yX10_init "OnePane", .methodLinkNest RX11 82 yX7_init "OnePane", .methodLinkNest RX2 24 yX10_init "OnePane", .methodLinkNest RX3 29 yX4_init "OnePane", .methodLinkNest RX6 221 yX11_packed "OnePane", .methodLinkNest RX7 117 yX11_packed "OnePane", .fieldLinkNest RX5 52 "OnePane" "LETTER_WORTH" "[I" "OnePane"]
def zlw (j : Nat) : Int := match j with
  | 0 => 14348907
  | 1 => 531441
  | 2 => 19683
  | 3 => 729
  | 4 => 27
  | _ => 1
def zstat (E : zEN) (U : State) : Prop := (∀ w ∈ znwl, va_Nw w U) ∧ ∃ t : Nat, va_Z "OnePane" "LETTER_WORTH" "[I" (.ref t) (fun q => E.1 ≤ q) U U.heap ∧ va_T .int t 6 (fun j => .int (zI (zlw j))) (fun q => E.1 ≤ q) U U.heap
def zU (E : zEN) (n : Nat) (σ : zSto) (U : State) : Prop := zG E n σ U.heap ∧ va_K E.2.1 zcl (ztys E) U ∧ zstat E U
def zrv (ret : Option FieldType) (r : Int) : Option Value := match ret with
  | none => none
  | some .long => some (.long (zJ r))
  | some _ => some (.int (zI r))
def zrr (ret : Option FieldType) (r : Int) : Prop := match ret with
  | none => True
  | some .long => -9223372036854775808 ≤ r ∧ r ≤ 9223372036854775807
  | some .boolean => 0 ≤ r ∧ r ≤ 1
  | some _ => -2147483648 ≤ r ∧ r ≤ 2147483647
def zrm (d mc ms : Nat) : Room := { frames := d, cells := mc, slots := ms, locals := 64 * d }
def zQc (E : zEN) (n' : Nat) (ret : Option FieldType) (Post : Int → zSto → Prop) : Array Value → State → Outcome → State → Prop := fun _ st oc t => (∃ (r : Int) (σ' : zSto), oc = .returned (zrv ret r) ∧ zrr ret r ∧ Post r σ' ∧ zU E n' σ' t) ∧ va_F (fun q => E.1 ≤ q) st t
/-- a method's contract over the global store: from the store σ and the arguments av it returns r with the store σ', and Post r σ' -/
def zCt (l : Launch) (E : zEN) (y : MethodName) (b : ByteArray) (mL : Nat) (ret : Option FieldType) (d n n' mc ms : Nat) (σ : zSto) (av : List Value) (Post : Int → zSto → Prop) : Prop :=
  Met l y (.code y b mL ret :: wsL_law) (zrm d mc ms) (fun v U => v = av.toArray ∧ zU E n σ U) (zQc E n' ret Post) mc ms (fun q => E.1 ≤ q)
def zok (X : zCX) (cc : ByteArray) (own : String) (d : Nat) : Prop := match X with
  | (E, p, l, e, R, s, m, args, below, meth, c, Q, nL) => p.tables.exec = Jvm.exec ∧ c.code = cc ∧ c.maxLocals = nL ∧ s.vm.findClass own = some m.cls ∧ (∃ w0 : Cond, ∀ w ∈ w0 :: wsL_law, w.before args s = true) ∧ meth.locks = false ∧ va_K E.2.1 zcl (ztys E) s ∧ zstat E s ∧ d ≤ R.frames ∧ 64 * d ≤ R.locals
def zret (X : zCX) (mc ms n' : Nat) (ret : Option FieldType) (Post : Int → zSto → Prop) : Prop := match X with
  | (E, p, l, e, R, s, m, args, below, meth, c, Q, nL) => meth.sig.returnType = ret ∧ Q = MQ below (zQc E n' ret Post) args s mc ms (fun q => E.1 ≤ q)
theorem zstat_vm {E : zEN} {u U : State} (hvm : u.vm = U.vm) (hh : u.heap = U.heap) (h : zstat E u) : zstat E U := by
  obtain ⟨h1, t, h2, h3⟩ := h
  have ha : u.vm.Alike U.vm := hvm ▸ Vm.Alike.refl _
  refine ⟨fun w hw => va_Nw.same ?_ hvm (h1 w hw), t, ?_, ?_⟩
  · simp [znwl] at hw
    rcases hw with rfl | rfl | rfl | rfl | rfl | rfl | rfl | rfl | rfl <;> rfl
  · rw [← hh]; exact va_Z.moved ha h2
  · rw [← hh]; exact va_T.moved ha h3
theorem zstat_warm {E : zEN} {s U : State} (hW : s.WarmedH U.vm) (hq : ∀ a : Nat, a < s.heap.size → ¬ E.1 ≤ a → U.heap[a]? = s.heap[a]?) (h : zstat E s) : zstat E U := by
  obtain ⟨h1, t, h2, h3⟩ := h
  refine ⟨fun w hw => ?_, t, va_Z.kept (va_Z.moved hW.alike h2) hq, va_T.kept (va_T.moved hW.alike h3) hq⟩
  have := h1 w hw
  simp only [znwl, List.mem_cons, List.not_mem_nil, or_false] at hw
  rcases hw with rfl | rfl | rfl | rfl | rfl | rfl | rfl | rfl | rfl
  · exact va_Nw.warmM hW this
  · exact va_Nw.warmM hW this
  · exact va_Nw.warmM hW this
  · exact va_Nw.warmM hW this
  · exact va_Nw.warmM hW this
  · exact va_Nw.warmM hW this
  · exact va_Nw.warmM hW this
  · exact va_Nw.warmM hW this
  · exact va_Nw.warmF hW this
theorem zU_blind {E : zEN} {n : Nat} {σ : zSto} {av : List Value} : FrameBlind (fun v U => v = av.toArray ∧ zU E n σ U) := by
  intro a U g mk h
  obtain ⟨h1, h2, h3, h4⟩ := h
  exact ⟨h1, h2, va_K.moved (u := U) (U := U.calling g mk a) (Vm.Alike.refl U.vm) h3, zstat_vm (u := U) (U := U.calling g mk a) rfl rfl h4⟩
/-- a contract out of a walk from the entry -/
theorem zCt_of {l : Launch} {E : zEN} {y : MethodName} {b : ByteArray} {mL : Nat} {ret : Option FieldType} {d n n' mc ms : Nat} {σ : zSto} {av : List Value} {Post : Int → zSto → Prop} (lv : List (Option Value)) (hy : plainName y.cls = true) (hlen : (lg_sl av).length ≤ mL) (hlv : ∀ (i : Nat) (v : Value), lv[i]? = some (some v) → (i, v) ∈ lv_args 0 av)
    (body : ∀ X : zCX, X.1 = E → zok X b y.cls d → zret X mc ms n' ret Post → (∃ m : MethodId, True) → (∃ meth : Method, X.2.2.2.2.2.2.2.2.2.1 = meth ∧ meth.name = y.name) → mc ≤ X.2.2.2.2.1.cells ∧ ms ≤ X.2.2.2.2.1.slots → zZ X n 0 0 σ 0 lv []) : zCt l E y b mL ret d n n' mc ms σ av Post := by
  unfold zCt
  refine Met.ofW (cc := b) (maxL := mL) (ret := ret) hy rfl ?_
  intro p e s m args below meth c s₁ B hml hv
  obtain ⟨rfl, hG, hK, hst⟩ := hv
  have hts := atoms_spec (ws := .code y b mL ret :: wsL_law) B.pre
  have hown : s.vm.findClass y.cls = some m.cls := findClass_of_methodNamed B.named
  have hb := body (E, p, l, e, (headSpec (.code y b mL ret :: wsL_law) (zrm d mc ms)).room, s, m, av.toArray, below, meth, c, MQ below (zQc E n' ret Post) av.toArray s mc ms (fun q => E.1 ≤ q), mL) rfl
    ⟨B.exec, B.bytes, hml, hown, ⟨_, hts⟩, B.notSynchronized, hK, hst, Nat.le_refl _, Nat.le_refl _⟩ ⟨B.returns, rfl⟩ ⟨m, trivial⟩ ⟨meth, rfl, (name_of_methodNamed B.named B.method).1⟩ ⟨Nat.le_refl _, Nat.le_refl _⟩
  have hl := lv_entry av (n := mL) hlen
  rw [lg_entry_eq]
  exact hb s.heap [] _ hG va_S.rf (zlv_of hl hlv)
