/-! the words' String: its methods as code -/
section ZSTR
variable {X : zCX} {cc : ByteArray} {own : String} {d n cs ss pc pc' : Nat} {σ : zSto} {lv : List (Option Value)} {st : List Value} {z : zST}
theorem zt_nret {Post : Int → zSto → Prop} {r : Int} {ty : FieldType} (hX : zok X cc own d) (hR : zret X cs ss n (some ty) Post) (hd : decode cc pc = .ok (.ireturn, 1)) (hty : zrv (some ty) r = some (.int (zI r))) (hn : narrow ty (.int (zI r)) = .int (zI r)) (hr : zrr (some ty) r) (hpo : Post r σ) : zZ X n cs ss σ pc lv [.int (zI r)] := by
  obtain ⟨E, p, l, e, R, s, m, args, below, meth, c0, Q, nL⟩ := X
  obtain ⟨hx, hb, hml, ho, ⟨w0, ht⟩, hlo, hK, hst, -⟩ := hX
  obtain ⟨hrt, rfl⟩ := hR
  intro H locs ls hG hS hl
  exact W.zret hx hb hrt hn (fun t ht hW => by rw [← hty]; exact zend hK hst hG hS (ret := some ty) hr hpo ht hW) hS.2.2 hd hlo
theorem zt_scomp {idx : Nat} (hX : zok X cc own d) (hxs : zxs X.1 z X.2.2.2.2.2.1) (hd : decode cc pc = .ok (.getstatic idx, 3)) (hp : pc + 3 = pc') (hl : Cond.fieldLink own idx "java/lang/String" "COMPACT_STRINGS" "Z" ∈ wsL_law) (k : zZ X n cs ss σ pc' lv (.int (zI 1) :: st)) : zZ X n cs ss σ pc lv st := by
  subst hp
  obtain ⟨E, p, l, e, R, s, m, args, below, meth, c, Q, nL⟩ := X
  obtain ⟨hx, hb, hml, ho, ⟨w0, ht⟩, hlk, hK, hst, -⟩ := hX
  intro H locs ls hG hS hlv
  exact va_gets hx hb hxs.2.1 hS ho (ht _ (List.mem_cons_of_mem _ hl)) (fun _ h => h) hd (k H locs ls hG hS hlv)
theorem zt_sfmt {idx : Nat} (hX : zok X cc own d) (hxs : zxs X.1 z X.2.2.2.2.2.1) (hd : decode cc pc = .ok (.getstatic idx, 3)) (hp : pc + 3 = pc') (hl : Cond.fieldLink own idx "jdk/internal/util/Preconditions" "SIOOBE_FORMATTER" "Ljava/util/function/BiFunction;" ∈ wsL_law) (k : ∀ o : Option Nat, zZ X n cs ss σ pc' lv (va_rf o :: st)) : zZ X n cs ss σ pc lv st := by
  subst hp
  obtain ⟨E, p, l, e, R, s, m, args, below, meth, c, Q, nL⟩ := X
  obtain ⟨hx, hb, hml, ho, ⟨w0, ht⟩, hlk, hK, hst, -⟩ := hX
  intro H locs ls hG hS hlv
  rcases hxs.2.2.1 with h | ⟨t, h⟩
  · exact va_gets hx hb h hS ho (ht _ (List.mem_cons_of_mem _ hl)) (fun _ h => h) hd (k none H locs ls hG hS hlv)
  · exact va_gets hx hb h hS ho (ht _ (List.mem_cons_of_mem _ hl)) (fun _ h => h) hd (k (some t) H locs ls hG hS hlv)
theorem zt_sval {idx : Nat} (hX : zok X cc own d) (hxs : zxs X.1 z X.2.2.2.2.2.1) (hd : decode cc pc = .ok (.getfield idx, 3)) (hp : pc + 3 = pc') (hl : Cond.fieldLink own idx "java/lang/String" "value" "[B" ∈ wsL_law) (k : zZ X n cs ss σ pc' lv (.ref z.2.1 :: st)) : zZ X n cs ss σ pc lv (.ref z.1 :: st) := by
  subst hp
  obtain ⟨E, p, l, e, R, s, m, args, below, meth, c, Q, nL⟩ := X
  obtain ⟨hx, hb, hml, ho, ⟨w0, ht⟩, hlk, hK, hst, -⟩ := hX
  intro H locs ls hG hS hlv
  exact vk_getf hx hb hxs.2.2.2.2.2.2.2.1 hS ho (ht _ (List.mem_cons_of_mem _ hl)) (fun _ h => h) hd (k H locs ls hG hS hlv)
theorem zt_scod {idx : Nat} (hX : zok X cc own d) (hxs : zxs X.1 z X.2.2.2.2.2.1) (hd : decode cc pc = .ok (.getfield idx, 3)) (hp : pc + 3 = pc') (hl : Cond.fieldLink own idx "java/lang/String" "coder" "B" ∈ wsL_law) (k : zZ X n cs ss σ pc' lv (.int (zI 0) :: st)) : zZ X n cs ss σ pc lv (.ref z.1 :: st) := by
  subst hp
  obtain ⟨E, p, l, e, R, s, m, args, below, meth, c, Q, nL⟩ := X
  obtain ⟨hx, hb, hml, ho, ⟨w0, ht⟩, hlk, hK, hst, -⟩ := hX
  intro H locs ls hG hS hlv
  exact vk_getf hx hb hxs.2.2.2.2.2.2.1 hS ho (ht _ (List.mem_cons_of_mem _ hl)) (fun _ h => h) hd (k H locs ls hG hS hlv)
theorem zt_slen (hX : zok X cc own d) (hxs : zxs X.1 z X.2.2.2.2.2.1) (hd : decode cc pc = .ok (.arraylength, 1)) (hp : pc + 1 = pc') (k : zZ X n cs ss σ pc' lv (.int (zI (z.2.2.1 : Int)) :: st)) : zZ X n cs ss σ pc lv (.ref z.2.1 :: st) := by
  subst hp
  obtain ⟨E, p, l, e, R, s, m, args, below, meth, c, Q, nL⟩ := X
  obtain ⟨hx, hb, hml, ho, ⟨w0, ht⟩, hlk, hK, hst, -⟩ := hX
  intro H locs ls hG hS hlv
  exact va_tlen hx hb hxs.2.2.2.2.2.2.2.2 hS (zI_ofNat _) hd (k H locs ls hG hS hlv)
theorem zt_sbald {x : Int} (hX : zok X cc own d) (hxs : zxs X.1 z X.2.2.2.2.2.1) (hd : decode cc pc = .ok (.baload, 1)) (hp : pc + 1 = pc') (h0 : 0 ≤ x ∧ x < (z.2.2.1 : Int)) (k : ∀ v : Int, v = (z.2.2.2 x.toNat).toInt → -2147483648 ≤ v → v ≤ 2147483647 → zZ X n cs ss σ pc' lv (.int (zI v) :: st)) : zZ X n cs ss σ pc lv (.int (zI x) :: .ref z.2.1 :: st) := by
  subst hp
  obtain ⟨E, p, l, e, R, s, m, args, below, meth, c, Q, nL⟩ := X
  obtain ⟨hx, hb, hml, ho, ⟨w0, ht⟩, hlk, hK, hst, -⟩ := hX
  intro H locs ls hG hS hlv
  have hL := hxs.2.2.2.1
  have hk := k (z.2.2.2 x.toNat).toInt rfl (zI_lo _) (zI_hi _) H locs ls hG hS hlv
  rw [zI_of] at hk
  exact va_tb hx hb hxs.2.2.2.2.2.2.2.2 hS (zI_in h0.1 h0.2 (by omega)) (by rw [zI_cl h0.1 (by omega)]) hd hk
theorem zt_sldc (hX : zok X cc "OnePane$Reader" d) (hxs : zxs X.1 z X.2.2.2.2.2.1) (hd : decode cc pc = .ok (.ldc 40, 2)) (hp : pc + 2 = pc') (k : zZ X n cs ss σ pc' lv (.ref z.1 :: st)) : zZ X n cs ss σ pc lv st := by
  subst hp
  obtain ⟨E, p, l, e, R, s, m, args, below, meth, c, Q, nL⟩ := X
  obtain ⟨hx, hb, hml, ho, ⟨w0, ht⟩, hlk, hK, hst, -⟩ := hX
  intro H locs ls hG hS hlv
  exact va_ldcS hx hb ho hxs.2.2.2.2.1 hd (k H locs ls hG hS hlv)
end ZSTR
theorem zCt2_of3 {l : Launch} {E : zEN} {z : zST} {y : MethodName} {b : ByteArray} {mL : Nat} {ret : Option FieldType} {d n n' mc ms : Nat} {σ : zSto} {av : List Value} {Post : Int → zSto → Prop} (lv : List (Option Value)) (hy : plainFor y = true) (hlen : (lg_sl av).length ≤ mL) (hlv : zlvof av ++ List.replicate (mL - (zlvof av).length) none = lv)
    (body : ∀ X : zCX, X.1 = E → zok X b y.cls d → zret X mc ms n' ret Post → X.2.2.2.2.2.2.2.2.2.2.2.2 = mL → X.2.2.2.2.2.2.2.2.2.1.name = y.name ∧ X.2.2.2.2.1.cells = mc ∧ X.2.2.2.2.1.slots = ms → zxs E z X.2.2.2.2.2.1 → zZ X n 0 0 σ 0 lv []) : zCt2 l E z y b mL ret d n n' mc ms σ av Post := by
  unfold zCt2
  refine zofWF (cc := b) (maxL := mL) (ret := ret) hy rfl ?_
  intro p e s m args below meth c s₁ B hml hv
  obtain ⟨rfl, ⟨hG, hK, hst⟩, hxs⟩ := hv
  have hts := atoms_spec (ws := .code y b mL ret :: wsL_law) B.pre
  have hown : s.vm.findClass y.cls = some m.cls := findClass_of_methodNamed B.named
  have hb := body (E, p, l, e, (headSpec (.code y b mL ret :: wsL_law) (zrm d mc ms)).room, s, m, av.toArray, below, meth, c, MQ below (zQc E n' ret Post) av.toArray s mc ms (fun q => E.1 ≤ q), mL) rfl
    ⟨B.exec, B.bytes, hml, hown, ⟨_, hts⟩, B.notSynchronized, hK, hst, Nat.le_refl _, Nat.le_refl _⟩ ⟨B.returns, rfl⟩ rfl ⟨(name_of_methodNamed B.named B.method).1, rfl, rfl⟩ hxs
  have hl := lv_entry av (n := mL) hlen
  rw [lg_entry_eq]
  refine hb s.heap [] _ hG va_S.rf (zlv_of hl fun i v h => ?_)
  rw [← hlv] at h
  have := zlvof_mem av _ 0 i v h
  rwa [Nat.zero_add] at this
section ZSC
variable {X : zCX} {cc : ByteArray} {own : String} {d n cs ss pc pc' : Nat} {σ : zSto} {lv : List (Option Value)} {st : List Value} {z : zST}
theorem zt_callV2 {idx d' mL na n' mc ms : Nat} {y : MethodName} {b : ByteArray} {ret : Option FieldType} {Post : Int → zSto → Prop} {As rest : List Value} (hX : zok X cc own d) (hxs : zxs X.1 z X.2.2.2.2.2.1) (hC : zCt2 X.2.2.1 X.1 z y b mL ret d' n n' mc ms σ (.ref z.1 :: As) Post) (hM : zMV y b mL ret na) (hd : decode cc pc = .ok (.invokevirtual idx, 3)) (hp : pc + 3 = pc') (hlk : Cond.methodLink own idx y ∈ wsL_law) (hy : y.cls = "java/lang/String")
    (hna : As.length = na) (hstk : st = As.reverse ++ .ref z.1 :: rest) (hcat : (rest.map fun v => v.category).sum ≤ 8) (hdd : d' < d) (hroom : cs + mc ≤ X.2.2.2.2.1.cells ∧ ss + ms ≤ X.2.2.2.2.1.slots)
    (kk : ∀ (r : Int) (σ' : zSto), zrr ret r → Post r σ' → zZ X n' (cs + mc) (ss + ms) σ' pc' lv ((zrv ret r).toList ++ rest)) : zZ X n cs ss σ pc lv st := by
  subst hp
  obtain ⟨E, p, l, e, R, s, m, args, below, meth, c0, Q, nL⟩ := X
  obtain ⟨hx, hb, hml, ho, ⟨w0, ht⟩, hlo, hK, hst, hfr, hlc⟩ := hX
  obtain ⟨m1, m2, m3, m4, m5, m6⟩ := hM
  intro H locs ls hG hS hl
  have hg : GoodIn (w0 :: wsL_law) (wsV own idx y.cls y (.code y b mL ret :: wsL_law)) := zgood (fun w hw => by
    unfold wsV at hw
    simp only [List.cons_append, List.nil_append, List.mem_cons] at hw
    rcases hw with rfl | rfl | rfl | rfl | rfl | h
    · exact hlk
    · exact m2
    · exact m3
    · exact m4
    · exact m1
    · exact h)
  have hr := va_runV (H := H) (locs := locs) (e := e) (below := below) (meth := meth) (cells := cs) (slots := ss) (As := As) (rest := rest) (g := F0 m pc ls st) ⟨hx, hb, hml, ho, ht⟩ hC (cwV (R := R) na ht hg rfl rfl rfl ⟨rfl, m5⟩ ⟨by show d' + 1 ≤ R.frames; omega, by show 8 + (mL + 11) + 64 * d' ≤ R.locals; omega⟩) ⟨zxs_blind, by obtain ⟨cell, g1, g2, g3, -⟩ := (hxs.2.2.2.2.2.1).kept hS.2.1; exact ⟨cell, g1, g2, by rw [hy]; exact g3⟩, fun U hU hW => zpre2 hG hK hst hxs hS U hU hW⟩ rfl hna hl.1 hstk (lv_room hcat) hd hroom
  intro T hT X0
  obtain ⟨v, st₀, t, T', L, h0, X', hL, e1, e2, ⟨⟨r, σ', hv, hrr, hpo, hU⟩, hz, hkp⟩, stp⟩ := hr T hT X0
  rw [h0] at hz hkp
  have hv' : v = zrv ret r := by injection hv
  subst hv'
  obtain ⟨t2, a1, b1⟩ := kk r σ' hrr hpo t.heap (locs ++ L) ls hU.1 (zS_call hS hz hkp hL) hl T' e1 X'
  exact ⟨t2, stp t2 a1, b1⟩
theorem zt_callS2 {idx d' mL na n' mc ms : Nat} {y : MethodName} {b : ByteArray} {ret : Option FieldType} {Post : Int → zSto → Prop} {As rest : List Value} (hX : zok X cc own d) (hxs : zxs X.1 z X.2.2.2.2.2.1) (hC : zCt2 X.2.2.1 X.1 z y b mL ret d' n n' mc ms σ As Post) (hM : zMS y b mL ret na) (hd : decode cc pc = .ok (.invokestatic idx, 3)) (hp : pc + 3 = pc') (hlk : Cond.methodLink own idx y ∈ wsL_law)
    (hna : As.length = na) (hstk : st = As.reverse ++ rest) (hcat : (rest.map fun v => v.category).sum ≤ 8) (hdd : d' < d) (hroom : cs + mc ≤ X.2.2.2.2.1.cells ∧ ss + ms ≤ X.2.2.2.2.1.slots)
    (kk : ∀ (r : Int) (σ' : zSto), zrr ret r → Post r σ' → zZ X n' (cs + mc) (ss + ms) σ' pc' lv ((zrv ret r).toList ++ rest)) : zZ X n cs ss σ pc lv st := by
  subst hp
  obtain ⟨E, p, l, e, R, s, m, args, below, meth, c0, Q, nL⟩ := X
  obtain ⟨hx, hb, hml, ho, ⟨w0, ht⟩, hlo, hK, hst, hfr, hlc⟩ := hX
  obtain ⟨m1, m2, m4, m5, m6⟩ := hM
  intro H locs ls hG hS hl
  have hg : GoodIn (w0 :: wsL_law) (va_wsS own idx y (.code y b mL ret :: wsL_law)) := zgood (fun w hw => by
    unfold va_wsS at hw
    simp only [List.cons_append, List.nil_append, List.mem_cons] at hw
    rcases hw with rfl | rfl | rfl | rfl | h
    · exact hlk
    · exact m2
    · exact m4
    · exact m1
    · exact h)
  have hr := va_runS (H := H) (locs := locs) (e := e) (below := below) (meth := meth) (cells := cs) (slots := ss) (As := As) (rest := rest) (g := F0 m pc ls st) ⟨hx, hb, hml, ho, ht⟩ hC (va_cwS (R := R) na ht hg rfl rfl rfl m5 ⟨by show d' + 1 ≤ R.frames; omega, by show 8 + (mL + 11) + 64 * d' ≤ R.locals; omega⟩) ⟨zxs_blind, fun U hU hW => zpre2 hG hK hst hxs hS U hU hW⟩ rfl hna hl.1 hstk (lv_room hcat) hd hroom
  intro T hT X0
  obtain ⟨v, st₀, t, T', L, h0, X', hL, e1, e2, ⟨⟨r, σ', hv, hrr, hpo, hU⟩, hz, hkp⟩, stp⟩ := hr T hT X0
  rw [h0] at hz hkp
  have hv' : v = zrv ret r := by injection hv
  subst hv'
  obtain ⟨t2, a1, b1⟩ := kk r σ' hrr hpo t.heap (locs ++ L) ls hU.1 (zS_call hS hz hkp hL) hl T' e1 X'
  exact ⟨t2, stp t2 a1, b1⟩
end ZSC
