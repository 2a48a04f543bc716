/-! returns and calls -/
theorem zS_call {B : Nat} {H0 H H1 : Heap} {locs L : List Loc} (hS : va_S (fun q => B ≤ q) H0 H locs) (hz : H.size ≤ H1.size) (hk : ∀ q : Nat, q < H.size → ¬ B ≤ q → H1[q]? = H[q]?) (hL : ∀ q ∈ L, B ≤ q.base) : va_S (fun q => B ≤ q) H0 H1 (locs ++ L) := by
  refine ⟨Nat.le_trans hS.1 hz, fun q h1 h2 => ?_, fun q hq => ?_⟩
  · rw [hk q (Nat.lt_of_lt_of_le h1 hS.1) h2]
    exact hS.2.1 q h1 h2
  · rcases List.mem_append.mp hq with h | h
    · exact hS.2.2 q h
    · exact hL q h
def zMV (y : MethodName) (b : ByteArray) (mL : Nat) (ret : Option FieldType) (na : Nat) : Prop := Cond.code y b mL ret ∈ wsL_law ∧ Cond.instanceMethod y ∈ wsL_law ∧ Cond.selects y.cls y y ∈ wsL_law ∧ Cond.initialized y.cls ∈ wsL_law ∧ (y.cls ≠ "java/lang/invoke/MethodHandle" ∧ y.cls ≠ "java/lang/invoke/VarHandle" ∧ (parseMethodDescriptor y.desc).map (fun d => d.parameters.length) = some na) ∧ mL ≤ 45
def zMS (y : MethodName) (b : ByteArray) (mL : Nat) (ret : Option FieldType) (na : Nat) : Prop := Cond.code y b mL ret ∈ wsL_law ∧ Cond.static y ∈ wsL_law ∧ Cond.initialized y.cls ∈ wsL_law ∧ (y.cls ≠ "java/lang/invoke/MethodHandle" ∧ y.cls ≠ "java/lang/invoke/VarHandle" ∧ (parseMethodDescriptor y.desc).map (fun d => d.parameters.length) = some na) ∧ mL ≤ 45
def zMI (y : MethodName) (b : ByteArray) (mL : Nat) (na : Nat) : Prop := Cond.code y b mL none ∈ wsL_law ∧ Cond.instanceMethod y ∈ wsL_law ∧ Cond.initialized y.cls ∈ wsL_law ∧ y.name = "<init>" ∧ (y.cls ≠ "java/lang/invoke/MethodHandle" ∧ y.cls ≠ "java/lang/invoke/VarHandle" ∧ (parseMethodDescriptor y.desc).map (fun d => d.parameters.length) = some na) ∧ mL ≤ 45
theorem zgood {w0 : Cond} {ws : List Cond} (h : ∀ w ∈ ws, w ∈ wsL_law) : GoodIn (w0 :: wsL_law) ws := fun w hw => ⟨List.mem_cons_of_mem _ (h w hw), (zw_good w (h w hw)).2⟩
section ZC
variable {X : zCX} {cc : ByteArray} {own : String} {d n cs ss pc pc' : Nat} {σ : zSto} {lv : List (Option Value)} {st : List Value}
/-- what a callee's contract asks of the state at the call -/
theorem zpre {E : zEN} {s : State} {H : Heap} {locs : List Loc} {as : List Value} (hG : zG E n σ H) (hK : va_K E.2.1 zcl (ztys E) s) (hst : zstat E s) (hS : va_S (fun q => E.1 ≤ q) s.heap H locs) (U : State) (hU : U.heap = H) (hW : s.WarmedH U.vm) : as.toArray = as.toArray ∧ zU E n σ U := by
  refine ⟨rfl, by rw [hU]; exact hG, va_K.moved hW.alike hK, zstat_warm hW (fun a h1 h2 => ?_) hst⟩
  rw [hU]
  exact hS.2.1 a h1 h2
theorem zt_callV {idx k r c d' mL na n' mc ms : Nat} {y : MethodName} {b : ByteArray} {ret : Option FieldType} {Post : Int → zSto → Prop} {As rest : List Value} {q : vw_C} (hX : zok X cc own d) (hC : zCt X.2.2.1 X.1 y b mL ret d' n n' mc ms σ (.ref (X.1.1 + k) :: As) Post) (hM : zMV y b mL ret na) (hd : decode cc pc = .ok (.invokevirtual idx, 3)) (hp : pc + 3 = pc') (hlk : Cond.methodLink own idx y ∈ wsL_law) (hn : k < n) (hk : zro k = r) (hs : zrs r = .inl c) (hq : zcl[c]? = some q) (hqy : q.1 = y.cls)
    (hna : As.length = na) (hstk : st = As.reverse ++ .ref (X.1.1 + k) :: rest) (hcat : (rest.map fun v => v.category).sum ≤ 8) (hdd : d' < d) (hroom : cs + mc ≤ X.2.2.2.2.1.cells ∧ ss + ms ≤ X.2.2.2.2.1.slots)
    (kk : ∀ (r : Int) (σ' : zSto), zrr ret r → Post r σ' → zZ X n' (cs + mc) (ss + ms) σ' pc' lv ((zrv ret r).toList ++ rest)) : zZ X n cs ss σ pc lv st := by
  subst hp
  obtain ⟨E, p, l, e, R, s, m, args, below, meth, c0, Q, nL⟩ := X
  obtain ⟨hx, hb, hml, ho, ⟨w0, ht⟩, hlo, hK, hst, hfr, hlc⟩ := hX
  obtain ⟨m1, m2, m3, m4, m5, m6⟩ := hM
  intro H locs ls hG hS hl
  have he : (zws E n σ)[k]? = some (E.1 + k, .inr (c, (List.range (znf c)).map (fun j => zfv E.1 (zft c j) (σ k j)))) := by rw [zws_at hn, zen_o hk hs]
  have hg : GoodIn (w0 :: wsL_law) (wsV own idx y.cls y (.code y b mL ret :: wsL_law)) := zgood (fun w hw => by
    unfold wsV at hw
    simp only [List.cons_append, List.nil_append, List.mem_cons] at hw
    rcases hw with rfl | rfl | rfl | rfl | rfl | h
    · exact hlk
    · exact m2
    · exact m3
    · exact m4
    · exact m1
    · exact h)
  have hr := va_runV (H := H) (locs := locs) (e := e) (below := below) (meth := meth) (cells := cs) (slots := ss) (As := As) (rest := rest) (g := F0 m pc ls st) ⟨hx, hb, hml, ho, ht⟩ hC (cwV (R := R) na ht hg rfl rfl rfl ⟨rfl, m5⟩ ⟨by show d' + 1 ≤ R.frames; omega, by show 8 + (mL + 11) + 64 * d' ≤ R.locals; omega⟩) ⟨zU_blind, by obtain ⟨cl, g1, g2, g3⟩ := va_recv hK hG.2 hq he; exact ⟨cl, g1, g2, by rw [← hqy]; exact g3⟩, fun U hU hW => zpre hG hK hst hS U hU hW⟩ rfl hna hl.1 hstk (lv_room hcat) hd hroom
  intro T hT X0
  obtain ⟨v, st₀, t, T', L, h0, X', hL, e1, e2, ⟨⟨r, σ', hv, hrr, hpo, hU⟩, hz, hkp⟩, stp⟩ := hr T hT X0
  rw [h0] at hz hkp
  have hv' : v = zrv ret r := by injection hv
  subst hv'
  obtain ⟨t2, a1, b1⟩ := kk r σ' hrr hpo t.heap (locs ++ L) ls hU.1 (zS_call hS hz hkp hL) hl T' e1 X'
  exact ⟨t2, stp t2 a1, b1⟩
theorem zt_callS {idx d' mL na n' mc ms : Nat} {y : MethodName} {b : ByteArray} {ret : Option FieldType} {Post : Int → zSto → Prop} {As rest : List Value} (hX : zok X cc own d) (hC : zCt X.2.2.1 X.1 y b mL ret d' n n' mc ms σ As Post) (hM : zMS y b mL ret na) (hd : decode cc pc = .ok (.invokestatic idx, 3)) (hp : pc + 3 = pc') (hlk : Cond.methodLink own idx y ∈ wsL_law)
    (hna : As.length = na) (hstk : st = As.reverse ++ rest) (hcat : (rest.map fun v => v.category).sum ≤ 8) (hdd : d' < d) (hroom : cs + mc ≤ X.2.2.2.2.1.cells ∧ ss + ms ≤ X.2.2.2.2.1.slots)
    (kk : ∀ (r : Int) (σ' : zSto), zrr ret r → Post r σ' → zZ X n' (cs + mc) (ss + ms) σ' pc' lv ((zrv ret r).toList ++ rest)) : zZ X n cs ss σ pc lv st := by
  subst hp
  obtain ⟨E, p, l, e, R, s, m, args, below, meth, c0, Q, nL⟩ := X
  obtain ⟨hx, hb, hml, ho, ⟨w0, ht⟩, hlo, hK, hst, hfr, hlc⟩ := hX
  obtain ⟨m1, m2, m4, m5, m6⟩ := hM
  intro H locs ls hG hS hl
  have hg : GoodIn (w0 :: wsL_law) (va_wsS own idx y (.code y b mL ret :: wsL_law)) := zgood (fun w hw => by
    unfold va_wsS at hw
    simp only [List.cons_append, List.nil_append, List.mem_cons] at hw
    rcases hw with rfl | rfl | rfl | rfl | h
    · exact hlk
    · exact m2
    · exact m4
    · exact m1
    · exact h)
  have hr := va_runS (H := H) (locs := locs) (e := e) (below := below) (meth := meth) (cells := cs) (slots := ss) (As := As) (rest := rest) (g := F0 m pc ls st) ⟨hx, hb, hml, ho, ht⟩ hC (va_cwS (R := R) na ht hg rfl rfl rfl m5 ⟨by show d' + 1 ≤ R.frames; omega, by show 8 + (mL + 11) + 64 * d' ≤ R.locals; omega⟩) ⟨zU_blind, fun U hU hW => zpre hG hK hst hS U hU hW⟩ rfl hna hl.1 hstk (lv_room hcat) hd hroom
  intro T hT X0
  obtain ⟨v, st₀, t, T', L, h0, X', hL, e1, e2, ⟨⟨r, σ', hv, hrr, hpo, hU⟩, hz, hkp⟩, stp⟩ := hr T hT X0
  rw [h0] at hz hkp
  have hv' : v = zrv ret r := by injection hv
  subst hv'
  obtain ⟨t2, a1, b1⟩ := kk r σ' hrr hpo t.heap (locs ++ L) ls hU.1 (zS_call hS hz hkp hL) hl T' e1 X'
  exact ⟨t2, stp t2 a1, b1⟩
theorem zt_callSN {idx d' mL na n' mc ms : Nat} {y : MethodName} {b : ByteArray} {ret : Option FieldType} {Post : Int → zSto → Prop} {As rest : List Value} (hX : zok X cc own d) (hC : zCt X.2.2.1 X.1 y b mL ret d' n n' mc ms σ As Post) (hM : zMS y b mL ret na) (hd : decode cc pc = .ok (.invokestatic idx, 3)) (hp : pc + 3 = pc') (hlk : Cond.methodLinkNest own idx y "OnePane" ∈ znwl)
    (hna : As.length = na) (hstk : st = As.reverse ++ rest) (hcat : (rest.map fun v => v.category).sum ≤ 8) (hdd : d' < d) (hroom : cs + mc ≤ X.2.2.2.2.1.cells ∧ ss + ms ≤ X.2.2.2.2.1.slots)
    (kk : ∀ (r : Int) (σ' : zSto), zrr ret r → Post r σ' → zZ X n' (cs + mc) (ss + ms) σ' pc' lv ((zrv ret r).toList ++ rest)) : zZ X n cs ss σ pc lv st := by
  subst hp
  obtain ⟨E, p, l, e, R, s, m, args, below, meth, c0, Q, nL⟩ := X
  obtain ⟨hx, hb, hml, ho, ⟨w0, ht⟩, hlo, hK, hst, hfr, hlc⟩ := hX
  obtain ⟨m1, m2, m4, m5, m6⟩ := hM
  intro H locs ls hG hS hl
  have hg : GoodIn (w0 :: wsL_law) (.code y b mL ret :: wsL_law) := zgood (fun w hw => by
    rcases List.mem_cons.mp hw with rfl | h
    · exact m1
    · exact h)
  have hr := va_runSN (H := H) (locs := locs) (e := e) (below := below) (meth := meth) (cells := cs) (slots := ss) (As := As) (rest := rest) (g := F0 m pc ls st) ⟨hx, hb, hml, ho, ht⟩ hC ⟨va_cnB (R := R) na ht hg rfl rfl rfl (hst.1 _ hlk) (ht _ (List.mem_cons_of_mem _ m4)) m5 ⟨by show d' + 1 ≤ R.frames; omega, by show 8 + (mL + 11) + 64 * d' ≤ R.locals; omega⟩, ht _ (List.mem_cons_of_mem _ m2), trivial⟩ ⟨zU_blind, fun U hU hW => zpre hG hK hst hS U hU hW⟩ rfl hna hl.1 hstk (lv_room hcat) hd hroom
  intro T hT X0
  obtain ⟨v, st₀, t, T', L, h0, X', hL, e1, e2, ⟨⟨r, σ', hv, hrr, hpo, hU⟩, hz, hkp⟩, stp⟩ := hr T hT X0
  rw [h0] at hz hkp
  have hv' : v = zrv ret r := by injection hv
  subst hv'
  obtain ⟨t2, a1, b1⟩ := kk r σ' hrr hpo t.heap (locs ++ L) ls hU.1 (zS_call hS hz hkp hL) hl T' e1 X'
  exact ⟨t2, stp t2 a1, b1⟩
theorem zt_callI {idx k d' mL na n' mc ms : Nat} {y : MethodName} {b : ByteArray} {Post : Int → zSto → Prop} {As rest : List Value} (hX : zok X cc own d) (hC : zCt X.2.2.1 X.1 y b mL none d' n n' mc ms σ (.ref (X.1.1 + k) :: As) Post) (hM : zMI y b mL na) (hd : decode cc pc = .ok (.invokespecial idx, 3)) (hp : pc + 3 = pc') (hlk : Cond.methodLink own idx y ∈ wsL_law)
    (hna : As.length = na) (hstk : st = As.reverse ++ .ref (X.1.1 + k) :: rest) (hcat : (rest.map fun v => v.category).sum ≤ 8) (hdd : d' < d) (hroom : cs + mc ≤ X.2.2.2.2.1.cells ∧ ss + ms ≤ X.2.2.2.2.1.slots)
    (kk : ∀ (r : Int) (σ' : zSto), Post r σ' → zZ X n' (cs + mc) (ss + ms) σ' pc' lv rest) : zZ X n cs ss σ pc lv st := by
  subst hp
  obtain ⟨E, p, l, e, R, s, m, args, below, meth, c0, Q, nL⟩ := X
  obtain ⟨hx, hb, hml, ho, ⟨w0, ht⟩, hlo, hK, hst, hfr, hlc⟩ := hX
  obtain ⟨m1, m2, m4, m3, m5, m6⟩ := hM
  intro H locs ls hG hS hl
  have hg : GoodIn (w0 :: wsL_law) (.code y b mL none :: wsL_law) := zgood (fun w hw => by
    rcases List.mem_cons.mp hw with rfl | h
    · exact m1
    · exact h)
  have hr := va_runI (H := H) (locs := locs) (e := e) (below := below) (meth := meth) (cells := cs) (slots := ss) (As := As) (rest := rest) (g := F0 m pc ls st) ⟨hx, hb, hml, ho, ht⟩ hC ⟨callB_of (R := R) na ht hg rfl rfl rfl (ht _ (List.mem_cons_of_mem _ m4)) (ht _ (List.mem_cons_of_mem _ hlk)) m5 ⟨by show d' + 1 ≤ R.frames; omega, by show 8 + (mL + 11) + 64 * d' ≤ R.locals; omega⟩, m3, ht _ (List.mem_cons_of_mem _ m2)⟩ ⟨zU_blind, fun U hU hW => zpre hG hK hst hS U hU hW⟩ rfl hna hl.1 hstk (lv_room hcat) hd hroom
  intro T hT X0
  obtain ⟨v, st₀, t, T', L, h0, X', hL, e1, e2, ⟨⟨r, σ', hv, hrr, hpo, hU⟩, hz, hkp⟩, stp⟩ := hr T hT X0
  rw [h0] at hz hkp
  have hv' : v = zrv none r := by injection hv
  subst hv'
  obtain ⟨t2, a1, b1⟩ := kk r σ' hpo t.heap (locs ++ L) ls hU.1 (zS_call hS hz hkp hL) hl T' e1 X'
  exact ⟨t2, stp t2 a1, b1⟩
theorem zt_callIN {idx k d' mL na n' mc ms : Nat} {y : MethodName} {b : ByteArray} {Post : Int → zSto → Prop} {As rest : List Value} (hX : zok X cc own d) (hC : zCt X.2.2.1 X.1 y b mL none d' n n' mc ms σ (.ref (X.1.1 + k) :: As) Post) (hM : zMI y b mL na) (hd : decode cc pc = .ok (.invokespecial idx, 3)) (hp : pc + 3 = pc') (hlk : Cond.methodLinkNest own idx y "OnePane" ∈ znwl)
    (hna : As.length = na) (hstk : st = As.reverse ++ .ref (X.1.1 + k) :: rest) (hcat : (rest.map fun v => v.category).sum ≤ 8) (hdd : d' < d) (hroom : cs + mc ≤ X.2.2.2.2.1.cells ∧ ss + ms ≤ X.2.2.2.2.1.slots)
    (kk : ∀ (r : Int) (σ' : zSto), Post r σ' → zZ X n' (cs + mc) (ss + ms) σ' pc' lv rest) : zZ X n cs ss σ pc lv st := by
  subst hp
  obtain ⟨E, p, l, e, R, s, m, args, below, meth, c0, Q, nL⟩ := X
  obtain ⟨hx, hb, hml, ho, ⟨w0, ht⟩, hlo, hK, hst, hfr, hlc⟩ := hX
  obtain ⟨m1, m2, m4, m3, m5, m6⟩ := hM
  intro H locs ls hG hS hl
  have hg : GoodIn (w0 :: wsL_law) (.code y b mL none :: wsL_law) := zgood (fun w hw => by
    rcases List.mem_cons.mp hw with rfl | h
    · exact m1
    · exact h)
  have hr := va_runIN (H := H) (locs := locs) (e := e) (below := below) (meth := meth) (cells := cs) (slots := ss) (As := As) (rest := rest) (g := F0 m pc ls st) ⟨hx, hb, hml, ho, ht⟩ hC ⟨va_cnB (R := R) na ht hg rfl rfl rfl (hst.1 _ hlk) (ht _ (List.mem_cons_of_mem _ m4)) m5 ⟨by show d' + 1 ≤ R.frames; omega, by show 8 + (mL + 11) + 64 * d' ≤ R.locals; omega⟩, m3, ht _ (List.mem_cons_of_mem _ m2)⟩ ⟨zU_blind, fun U hU hW => zpre hG hK hst hS U hU hW⟩ rfl hna hl.1 hstk (lv_room hcat) hd hroom
  intro T hT X0
  obtain ⟨v, st₀, t, T', L, h0, X', hL, e1, e2, ⟨⟨r, σ', hv, hrr, hpo, hU⟩, hz, hkp⟩, stp⟩ := hr T hT X0
  rw [h0] at hz hkp
  have hv' : v = zrv none r := by injection hv
  subst hv'
  obtain ⟨t2, a1, b1⟩ := kk r σ' hpo t.heap (locs ++ L) ls hU.1 (zS_call hS hz hkp hL) hl T' e1 X'
  exact ⟨t2, stp t2 a1, b1⟩
/-- the ends -/
theorem zend {E : zEN} {s t : State} {H : Heap} {locs : List Loc} {n' : Nat} {ret : Option FieldType} {Post : Int → zSto → Prop} {a : Array Value} {r : Int} (hK : va_K E.2.1 zcl (ztys E) s) (hst : zstat E s) (hG : zG E n' σ H) (hS : va_S (fun q => E.1 ≤ q) s.heap H locs) (hrr : zrr ret r) (hpo : Post r σ) (ht : t.heap = H) (hW : s.WarmedH t.vm) : zQc E n' ret Post a s (.returned (zrv ret r)) t :=
  ⟨⟨r, σ, rfl, hrr, hpo, by rw [ht]; exact hG, va_K.moved hW.alike hK, zstat_warm hW (fun q h1 h2 => by rw [ht]; exact hS.2.1 q h1 h2) hst⟩, hS.F ht⟩
theorem zt_iret {Post : Int → zSto → Prop} {r : Int} (hX : zok X cc own d) (hR : zret X cs ss n (some .int) Post) (hd : decode cc pc = .ok (.ireturn, 1)) (hr : -2147483648 ≤ r ∧ r ≤ 2147483647) (hpo : Post r σ) : zZ X n cs ss σ pc lv [.int (zI r)] := by
  obtain ⟨E, p, l, e, R, s, m, args, below, meth, c0, Q, nL⟩ := X
  obtain ⟨hx, hb, hml, ho, ⟨w0, ht⟩, hlo, hK, hst, -⟩ := hX
  obtain ⟨hrt, rfl⟩ := hR
  intro H locs ls hG hS hl
  exact W.iret hx hb hrt (fun t ht hW => zend hK hst hG hS (ret := some .int) hr hpo ht hW) hS.2.2 hd hlo
theorem zt_zret {Post : Int → zSto → Prop} {r : Int} (hX : zok X cc own d) (hR : zret X cs ss n (some .boolean) Post) (hd : decode cc pc = .ok (.ireturn, 1)) (hr : 0 ≤ r ∧ r ≤ 1) (hpo : Post r σ) : zZ X n cs ss σ pc lv [.int (zI r)] := by
  obtain ⟨E, p, l, e, R, s, m, args, below, meth, c0, Q, nL⟩ := X
  obtain ⟨hx, hb, hml, ho, ⟨w0, ht⟩, hlo, hK, hst, -⟩ := hX
  obtain ⟨hrt, rfl⟩ := hR
  intro H locs ls hG hS hl
  exact W.zret hx hb hrt (zfit_z hr.1 hr.2).1 (fun t ht hW => zend hK hst hG hS (ret := some .boolean) hr hpo ht hW) hS.2.2 hd hlo
theorem zt_lret {Post : Int → zSto → Prop} {r : Int} (hX : zok X cc own d) (hR : zret X cs ss n (some .long) Post) (hd : decode cc pc = .ok (.lreturn, 1)) (hr : -9223372036854775808 ≤ r ∧ r ≤ 9223372036854775807) (hpo : Post r σ) : zZ X n cs ss σ pc lv [.long (zJ r)] := by
  obtain ⟨E, p, l, e, R, s, m, args, below, meth, c0, Q, nL⟩ := X
  obtain ⟨hx, hb, hml, ho, ⟨w0, ht⟩, hlo, hK, hst, -⟩ := hX
  obtain ⟨hrt, rfl⟩ := hR
  intro H locs ls hG hS hl
  exact W.lret hx hb hrt (fun t ht hW => zend hK hst hG hS (ret := some .long) hr hpo ht hW) hS.2.2 hd hlo
theorem zt_vret {Post : Int → zSto → Prop} (hX : zok X cc own d) (hR : zret X cs ss n none Post) (hd : decode cc pc = .ok (.return_, 1)) (hpo : Post 0 σ) : zZ X n cs ss σ pc lv [] := by
  obtain ⟨E, p, l, e, R, s, m, args, below, meth, c0, Q, nL⟩ := X
  obtain ⟨hx, hb, hml, ho, ⟨w0, ht⟩, hlo, hK, hst, -⟩ := hX
  obtain ⟨hrt, rfl⟩ := hR
  intro H locs ls hG hS hl
  exact W.vret hx hb hrt (fun t ht hW => zend hK hst hG hS (ret := none) (r := 0) trivial hpo ht hW) hS.2.2 hd hlo
end ZC
