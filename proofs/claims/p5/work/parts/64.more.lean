/-! what the makers of Past, Reader and OnePane know of the state beside zU: rows of Towns may be made; the words' String, its bytes -/
def ztx : String := "pane by tough heavy pole at lifts adds holds fades stone hail hour cracks weight tired near number column row far or and not all min max first last often total most least "
abbrev zST : Type := Nat × Nat × Nat × (Nat → Int32)
def zxs (E : zEN) (z : zST) (U : State) : Prop := va_AO "OnePane$Town" U ∧ va_Z "java/lang/String" "COMPACT_STRINGS" "Z" (.int 1) (fun q => E.1 ≤ q) U U.heap ∧ va_Zq "jdk/internal/util/Preconditions" "SIOOBE_FORMATTER" "Ljava/util/function/BiFunction;" (fun q => E.1 ≤ q) U U.heap ∧ z.2.2.1 ≤ 1000 ∧ vk_R "OnePane$Reader" 40 ztx z.1 U ∧ va_O "java/lang/String" z.1 (fun q => E.1 ≤ q) U U.heap ∧ va_OF "java/lang/String" "coder" "B" (.int 0) z.1 (fun q => E.1 ≤ q) U U.heap ∧ va_OF "java/lang/String" "value" "[B" (.ref z.2.1) z.1 (fun q => E.1 ≤ q) U U.heap ∧ va_T .byte z.2.1 z.2.2.1 (fun j => .int (z.2.2.2 j)) (fun q => E.1 ≤ q) U U.heap
theorem zxs_vm {E : zEN} {z : zST} {u U : State} (hvm : u.vm = U.vm) (hh : u.heap = U.heap) (h : zxs E z u) : zxs E z U := by
  obtain ⟨h1, h2, h9, h3, h4, h5, h6, h7, h8⟩ := h
  have ha : u.vm.Alike U.vm := hvm ▸ Vm.Alike.refl _
  refine ⟨va_AO.moved ha h1, ?_, ?_, h3, vk_R.same hvm.symm h4, ?_, ?_, ?_, ?_⟩
  · rw [← hh]; exact va_Z.moved ha h2
  · rw [← hh]; exact va_Zq.moved ha h9
  · rw [← hh]; exact va_O.moved ha h5
  · rw [← hh]; exact va_OF.moved ha h6
  · rw [← hh]; exact va_OF.moved ha h7
  · rw [← hh]; exact va_T.moved ha h8
theorem zxs_warm {E : zEN} {z : zST} {s U : State} (hW : s.WarmedH U.vm) (hq : ∀ a : Nat, a < s.heap.size → ¬ E.1 ≤ a → U.heap[a]? = s.heap[a]?) (h : zxs E z s) : zxs E z U := by
  obtain ⟨h1, h2, h9, h3, h4, h5, h6, h7, h8⟩ := h
  exact ⟨va_AO.moved hW.alike h1, va_Z.kept (va_Z.moved hW.alike h2) hq, va_Zq.kept (va_Zq.moved hW.alike h9) hq, h3, vk_R.warm hW h4, va_O.kept (va_O.moved hW.alike h5) hq, va_OF.kept (va_OF.moved hW.alike h6) hq, va_OF.kept (va_OF.moved hW.alike h7) hq, va_T.kept (va_T.moved hW.alike h8) hq⟩
def zCt2 (l : Launch) (E : zEN) (z : zST) (y : MethodName) (b : ByteArray) (mL : Nat) (ret : Option FieldType) (d n n' mc ms : Nat) (σ : zSto) (av : List Value) (Post : Int → zSto → Prop) : Prop :=
  Met l y (.code y b mL ret :: wsL_law) (zrm d mc ms) (fun v U => v = av.toArray ∧ zU E n σ U ∧ zxs E z U) (zQc E n' ret Post) mc ms (fun q => E.1 ≤ q)
theorem zxs_blind {E : zEN} {z : zST} {n : Nat} {σ : zSto} {av : List Value} : FrameBlind (fun v U => v = av.toArray ∧ zU E n σ U ∧ zxs E z U) := by
  intro a U g mk h
  obtain ⟨h1, h2, h3⟩ := h
  have q := zU_blind (E := E) (n := n) (σ := σ) (av := av) a U g mk ⟨h1, h2⟩
  exact ⟨q.1, q.2, zxs_vm (u := U) (U := U.calling g mk a) rfl rfl h3⟩
theorem zCt2_of {l : Launch} {E : zEN} {z : zST} {y : MethodName} {b : ByteArray} {mL : Nat} {ret : Option FieldType} {d n n' mc ms : Nat} {σ : zSto} {av : List Value} {Post : Int → zSto → Prop} (lv : List (Option Value)) (hy : plainName y.cls = true) (hlen : (lg_sl av).length ≤ mL) (hlv : zlvof av ++ List.replicate (mL - (zlvof av).length) none = lv)
    (body : ∀ X : zCX, X.1 = E → zok X b y.cls d → zret X mc ms n' ret Post → X.2.2.2.2.2.2.2.2.2.2.2.2 = mL → X.2.2.2.2.2.2.2.2.2.1.name = y.name ∧ X.2.2.2.2.1.cells = mc ∧ X.2.2.2.2.1.slots = ms → zxs E z X.2.2.2.2.2.1 → zZ X n 0 0 σ 0 lv []) : zCt2 l E z y b mL ret d n n' mc ms σ av Post := by
  unfold zCt2
  refine Met.ofW (cc := b) (maxL := mL) (ret := ret) hy rfl ?_
  intro p e s m args below meth c s₁ B hml hv
  obtain ⟨rfl, ⟨hG, hK, hst⟩, hxs⟩ := hv
  have hts := atoms_spec (ws := .code y b mL ret :: wsL_law) B.pre
  have hown : s.vm.findClass y.cls = some m.cls := findClass_of_methodNamed B.named
  have hb := body (E, p, l, e, (headSpec (.code y b mL ret :: wsL_law) (zrm d mc ms)).room, s, m, av.toArray, below, meth, c, MQ below (zQc E n' ret Post) av.toArray s mc ms (fun q => E.1 ≤ q), mL) rfl
    ⟨B.exec, B.bytes, hml, hown, ⟨_, hts⟩, B.notSynchronized, hK, hst, Nat.le_refl _, Nat.le_refl _⟩ ⟨B.returns, rfl⟩ rfl ⟨(name_of_methodNamed B.named B.method).1, rfl, rfl⟩ hxs
  have hl := lv_entry av (n := mL) hlen
  rw [lg_entry_eq]
  refine hb s.heap [] _ hG va_S.rf (zlv_of hl fun i v h => ?_)
  rw [← hlv] at h
  have := zlvof_mem av _ 0 i v h
  rwa [Nat.zero_add] at this
section ZI2
variable {X : zCX} {cc : ByteArray} {own : String} {d n cs ss pc pc' : Nat} {σ : zSto} {lv : List (Option Value)} {st : List Value}
theorem zpre2 {E : zEN} {z : zST} {s : State} {H : Heap} {locs : List Loc} {as : List Value} (hG : zG E n σ H) (hK : va_K E.2.1 zcl (ztys E) s) (hst : zstat E s) (hxs : zxs E z s) (hS : va_S (fun q => E.1 ≤ q) s.heap H locs) (U : State) (hU : U.heap = H) (hW : s.WarmedH U.vm) : as.toArray = as.toArray ∧ zU E n σ U ∧ zxs E z U := by
  refine ⟨rfl, (zpre (as := as) hG hK hst hS U hU hW).2, zxs_warm hW (fun a h1 h2 => ?_) hxs⟩
  rw [hU]
  exact hS.2.1 a h1 h2
theorem zt_callI2 {z : zST} {idx k d' mL na n' mc ms : Nat} {y : MethodName} {b : ByteArray} {Post : Int → zSto → Prop} {As rest : List Value} (hX : zok X cc own d) (hxs : zxs X.1 z X.2.2.2.2.2.1) (hC : zCt2 X.2.2.1 X.1 z y b mL none d' n n' mc ms σ (.ref (X.1.1 + k) :: As) Post) (hM : zMI y b mL na) (hd : decode cc pc = .ok (.invokespecial idx, 3)) (hp : pc + 3 = pc') (hlk : Cond.methodLink own idx y ∈ wsL_law)
    (hna : As.length = na) (hstk : st = As.reverse ++ .ref (X.1.1 + k) :: rest) (hcat : (rest.map fun v => v.category).sum ≤ 8) (hdd : d' < d) (hroom : cs + mc ≤ X.2.2.2.2.1.cells ∧ ss + ms ≤ X.2.2.2.2.1.slots)
    (kk : ∀ (r : Int) (σ' : zSto), Post r σ' → zZ X n' (cs + mc) (ss + ms) σ' pc' lv rest) : zZ X n cs ss σ pc lv st := by
  subst hp
  obtain ⟨E, p, l, e, R, s, m, args, below, meth, c0, Q, nL⟩ := X
  obtain ⟨hx, hb, hml, ho, ⟨w0, ht⟩, hlo, hK, hst, hfr, hlc⟩ := hX
  obtain ⟨m1, m2, m4, m3, m5, m6⟩ := hM
  intro H locs ls hG hS hl
  have hg : GoodIn (w0 :: wsL_law) (.code y b mL none :: wsL_law) := zgood (fun w hw => by
    rcases List.mem_cons.mp hw with rfl | h
    · exact m1
    · exact h)
  have hr := va_runI (H := H) (locs := locs) (e := e) (below := below) (meth := meth) (cells := cs) (slots := ss) (As := As) (rest := rest) (g := F0 m pc ls st) ⟨hx, hb, hml, ho, ht⟩ hC ⟨callB_of (R := R) na ht hg rfl rfl rfl (ht _ (List.mem_cons_of_mem _ m4)) (ht _ (List.mem_cons_of_mem _ hlk)) m5 ⟨by show d' + 1 ≤ R.frames; omega, by show 8 + (mL + 11) + 64 * d' ≤ R.locals; omega⟩, m3, ht _ (List.mem_cons_of_mem _ m2)⟩ ⟨zxs_blind, fun U hU hW => zpre2 hG hK hst hxs hS U hU hW⟩ rfl hna hl.1 hstk (lv_room hcat) hd hroom
  intro T hT X0
  obtain ⟨v, st₀, t, T', L, h0, X', hL, e1, e2, ⟨⟨r, σ', hv, hrr, hpo, hU⟩, hz, hkp⟩, stp⟩ := hr T hT X0
  rw [h0] at hz hkp
  have hv' : v = zrv none r := by injection hv
  subst hv'
  obtain ⟨t2, a1, b1⟩ := kk r σ' hpo t.heap (locs ++ L) ls hU.1 (zS_call hS hz hkp hL) hl T' e1 X'
  exact ⟨t2, stp t2 a1, b1⟩
end ZI2
/-! Past: a row of twenty Towns -/
def zPi (σ s : zSto) (i : Nat) : Prop := zIR s ∧ zDf s (47 + 5 * i) ∧ zLo σ s 45 ∧ s 45 0 = ((46 : Nat) : Int) ∧ zOk s 47 (47 + 5 * i) ∧ ∀ j, j < i → s 46 j = ((47 + 5 * j : Nat) : Int)
theorem zPi_0 {σ s1 s2 s3 : zSto} (h1 : zset σ 45 0 ((46 : Nat) : Int) = s1) (h2 : zset s1 45 1 0 = s2) (h3 : zset s2 45 2 0 = s3) (hI : zIR σ) (hD : zDf σ 45) : zPi σ s3 0 := by
  have r1 : zIR s1 := zIR_set h1 hI zc_45 rfl
  have r2 : zIR s2 := zIR_set h2 r1 zc_45 (show 0 ≤ (0 : Int) ∧ (0 : Int) ≤ 19 from ⟨by decide, by decide⟩)
  have r3 : zIR s3 := zIR_set h3 r2 zc_45 (show 0 ≤ (0 : Int) ∧ (0 : Int) ≤ 20 from ⟨by decide, by decide⟩)
  refine ⟨r3, fun a ha => ?_, fun a ha => ?_, ?_, fun a g1 g2 => by omega, fun j hj => absurd hj (Nat.not_lt_zero j)⟩
  · subst h1 h2 h3
    rw [zset_a (by omega), zset_a (by omega), zset_a (by omega)]
    exact hD a (by omega)
  · subst h1 h2 h3
    rw [zset_a (by omega), zset_a (by omega), zset_a (by omega)]
  · subst h1 h2 h3
    rw [zset_j (by decide), zset_j (by decide), zset_s]
theorem zPi_s {σ s s1 s2 : zSto} {i : Nat} (hi : i < 20) (h : zPi σ s i) (hp : zCp s s1 (47 + 5 * i) (47 + 5 * i + 5)) (e : zset s1 46 i ((47 + 5 * i : Nat) : Int) = s2) : zPi σ s2 (i + 1) := by
  obtain ⟨a1, a2, a3, a4, a5, a6⟩ := h
  obtain ⟨b1, b2, b3, b4⟩ := hp
  refine ⟨zIR_set e b1 zc_46 (show i < 20 → _ from fun _ => rfl), fun a ha => ?_, fun a ha => ?_, ?_, fun a g1 g2 j => ?_, fun j hj => ?_⟩
  · subst e
    rw [zset_a (by omega)]
    exact b2 a (by omega)
  · subst e
    rw [zset_a (by omega), b3 a (by omega)]
    exact a3 a ha
  · subst e
    rw [zset_k (by decide), b3 45 (by omega)]
    exact a4
  · subst e
    rw [zset_a (by omega)]
    rcases Nat.lt_or_ge a (47 + 5 * i) with q | q
    · rw [b3 a q]
      exact a5 a g1 q j
    · exact b4 a q (by omega) j
  · subst e
    by_cases q : j = i
    · subst q
      rw [zset_s]
    · rw [zset_j q, b3 46 (by omega)]
      exact a6 j (by omega)
theorem zPi_e {σ s : zSto} {i : Nat} (hi : i = 20) (h : zPi σ s i) : zCp σ s 45 147 := by
  subst hi
  obtain ⟨a1, a2, a3, a4, a5, a6⟩ := h
  refine ⟨a1, a2, a3, fun a g1 g2 j => ?_⟩
  rcases Nat.lt_or_ge a 47 with q | q
  · rcases (show a = 45 ∨ a = 46 by omega) with rfl | rfl
    · rcases a1 45 j with p | ⟨p1, p2⟩
      · exact p
      · match j, p1, p2 with
        | 0, p1, p2 => rw [a4] at p2; exact absurd p2 (by decide)
        | 1, p1, p2 => exact absurd p1 (show ¬ (0 : Int) = -1 by decide)
        | 2, p1, p2 => exact absurd p1 (show ¬ (0 : Int) = -1 by decide)
        | _ + 3, p1, p2 => exact trivial
    · show j < 20 → _
      intro hj
      exact a6 j hj
  · exact a5 a q g2 j
set_option maxRecDepth 100000 in
set_option maxHeartbeats 4000000 in
theorem zn_X2 (l : Launch) (E : zEN) (z : zST) (σ : zSto) (hI : zIR σ) (hD : zDf σ 45) : zCt2 l E z yX2_init cX2_init 2 none 2 46 147 101 1580 σ [.ref (E.1 + 45)] (fun _ σ' => zCp σ σ' 45 147) := by
  refine zCt2_of [some (.ref (E.1 + 45)), none] (by decide +kernel) (Nat.le_of_ble_eq_true rfl) rfl ?_
  intro X hE hX hR hL hN hxs
  subst hE
  have hX : zok X cX2_init RX2 2 := hX
  refine zt_aload_n (pc' := 1) hX dX2_init_0 rfl rfl ?_
  refine zt_oinit (pc' := 4) hX (by decide) dX2_init_1 rfl zw_8_15 zw_1_10 zw_1_11 rfl ?_
  refine zt_aload_n (pc' := 5) hX dX2_init_4 rfl rfl ?_
  refine zt_bipush (pc' := 7) hX dX2_init_5 rfl (by decide) (by decide) ?_
  refine zt_anewa (pc' := 10) (N := 20) (C := RX10) hX dX2_init_7 rfl rfl zw_8_16 hxs.1 (by decide) zc_46 zs_28 (by decide) (by decide) (hD 46 (by decide)) ⟨by rw [hN.2.1]; exact Nat.le_of_ble_eq_true rfl, by rw [hN.2.2]; exact Nat.le_of_ble_eq_true rfl⟩ ?_
  refine zt_putF (pc' := 13) (x := ((46 : Nat) : Int)) hX dX2_init_10 rfl hN.1 zf_X2_11 (by omega) zc_45 zs_27 (fun q hq => by cases hq; exact ⟨rfl, rfl⟩) (zrf_of rfl) rfl rfl ?_
  generalize hs1 : zset σ 45 0 ((46 : Nat) : Int) = s1
  refine zt_aload_n (pc' := 14) hX dX2_init_13 rfl rfl ?_
  refine zt_iconst (pc' := 15) hX dX2_init_14 rfl ?_
  refine zt_put (pc' := 18) (x := 0) hX dX2_init_15 rfl zf_X2_17 (by omega) zc_45 zs_27 (fun q hq => by cases hq; rfl) rfl rfl rfl ?_
  generalize hs2 : zset s1 45 1 0 = s2
  refine zt_aload_n (pc' := 19) hX dX2_init_18 rfl rfl ?_
  refine zt_iconst (pc' := 20) hX dX2_init_19 rfl ?_
  refine zt_put (pc' := 23) (x := 0) hX dX2_init_20 rfl zf_X2_21 (by omega) zc_45 zs_27 (fun q hq => by cases hq; rfl) rfl rfl rfl ?_
  generalize hs3 : zset s2 45 2 0 = s3
  have p0 := zPi_0 hs1 hs2 hs3 hI hD
  refine zt_iconst (pc' := 24) hX dX2_init_23 rfl ?_
  refine zt_istore_n (pc' := 25) (lv' := [some (.ref (X.1.1 + 45)), some (.int (zI 0))]) hX dX2_init_24 rfl hL (by decide) rfl ?_
  have LP : ∀ (N : Nat) (x : Int) (n cs ss : Nat) (s : zSto), 0 ≤ x → x ≤ 20 → n = 47 + 5 * x.toNat → cs = 1 + 5 * x.toNat → ss = 20 + 78 * x.toNat → zPi σ s x.toNat → (21 - x).toNat < N → zZ X n cs ss s 25 [some (.ref (X.1.1 + 45)), some (.int (zI x))] [] := by
    intro N
    induction N with
    | zero =>
      intro x n cs ss s h0 h1 e1 e2 e3 hp hm
      exact absurd hm (Nat.not_lt_zero _)
    | succ N ih =>
      intro x n cs ss s h0 h1 e1 e2 e3 hp hm
      refine zt_iload_n (pc' := 26) hX dX2_init_25 rfl rfl ?_
      refine zt_bipush (pc' := 28) hX dX2_init_26 rfl (by decide) (by decide) ?_
      refine zt_icge (pc' := 31) (tgt := 50) hX dX2_init_28 rfl (by decide) ⟨by omega, by omega⟩ ⟨by omega, by omega⟩ (fun c => ?_) (fun c => ?_)
      · have ex : x.toNat = 20 := by omega
        have en : n = 147 := by omega
        have ec : cs = 101 := by omega
        have es : ss = 1580 := by omega
        subst en ec es
        exact zt_vret hX hR dX2_init_50 (zPi_e ex hp)
      · have hi : x.toNat < 20 := by omega
        have hkt : zro n = 22 := by rw [e1]; exact zro_town hi
        refine zt_aload_n (pc' := 32) hX dX2_init_31 rfl rfl ?_
        refine zt_get (pc' := 35) (v := .ref (X.1.1 + 46)) hX dX2_init_32 rfl zf_X2_11 (by omega) zc_45 zs_27 (zrf_of hp.2.2.2.1) ?_
        refine zt_iload_n (pc' := 36) hX dX2_init_35 rfl rfl ?_
        refine zt_new (pc' := 39) (c := 10) (q := (RX10, TX10, 8)) hX dX2_init_36 rfl rfl zw_8_16 zw_2_15 zw_2_16 (by have := zro_lt hkt (by decide); omega) hkt zs_22 (by decide) (by rw [e1]; exact hp.2.1 _ (Nat.le_refl _)) ⟨by rw [hN.2.1]; omega, by rw [hN.2.2]; show ss + 8 ≤ 1580; omega⟩ ?_
        refine zt_dup (pc' := 40) hX dX2_init_39 rfl rfl ?_
        refine zt_callIN (pc' := 43) (As := []) (k := n) hX (zn_X10 _ _ s n hkt hp.1 (by rw [e1]; exact hp.2.1)) zm_yX10_init dX2_init_40 rfl (by decide +kernel) rfl rfl (Nat.le_of_ble_eq_true rfl) (by decide) ⟨by rw [hN.2.1]; omega, by rw [hN.2.2]; show ss + 8 + 70 ≤ 1580; omega⟩ (fun _ s1 hp1 => ?_)
        refine zt_aast (pc' := 44) (k := 46) (a := n) (x := x) (c := 10) (q := (RX10, TX10, 8)) hX dX2_init_43 rfl (by omega) zc_46 zs_28 (by omega) hkt zs_22 rfl rfl (by decide) ⟨by omega, by omega⟩ ?_
        generalize hs5 : zset s1 46 x.toNat ((n : Nat) : Int) = s5
        subst e1
        have p1 := zPi_s hi hp hp1 hs5
        refine zt_iinc (pc' := 47) (lv' := [some (.ref (X.1.1 + 45)), some (.int (zI (x + 1)))]) hX dX2_init_44 rfl rfl hL (by decide) rfl ?_
        refine zt_goto (tgt := 25) hX dX2_init_47 (by decide) ?_
        have et : (x + 1).toNat = x.toNat + 1 := by omega
        exact ih (x + 1) _ _ _ s5 (by omega) (by omega) (by omega) (by omega) (by show ss + 8 + 70 = _; omega) (by rw [et]; exact p1) (by omega)
  exact LP _ 0 _ _ _ s3 (by decide) (by decide) rfl rfl rfl p0 (Nat.lt_succ_self _)
