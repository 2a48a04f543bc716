/-! a contract out of a walk, for a method of a class some of whose methods the machine runs itself (java.lang.Math): the method itself is plain -/
theorem zofWF {l : Launch} {y : MethodName} {ws ws' : List Cond} {rm : Room} {Pc : Array Value → State → Prop} {Qc : Array Value → State → Outcome → State → Prop} {mc ms : Nat} {free : Addr → Prop} {cc : ByteArray} {maxL : Nat} {ret : Option FieldType}
    (hy : plainFor y = true) (hw : ws = Cond.code y cc maxL ret :: ws')
    (body : ∀ p e s m args below meth c s₁, BodyLoose p l y (headSpec ws rm) cc maxL ret e s m args below meth c s₁ → c.maxLocals = maxL → Pc args s →
      W p l e (headSpec ws rm).room s m args below meth c s.heap [] 0 0 (MQ below Qc args s mc ms free) (entryFrame m args maxL)) : Met l y ws rm Pc Qc mc ms free := by
  refine MetFree.of_bodySF (code := cc) (maxLocals := maxL) (ret := ret) hy ?_ ?_
  · intro args s m h hn
    obtain ⟨meth, c, h1, h2, h3, h4, h5, h6, -, -⟩ := Cond.code_spec hn (atoms_spec (ws := ws) h _ (by rw [hw]; exact List.mem_cons_self))
    exact ⟨meth, c, h1, h2, h3, h4, h5, h6⟩
  · intro p e s m args below meth c s₁ B hml hP _
    have hh0 : s₁.heap = s.heap := by rw [B.state]; rfl
    obtain ⟨t, a1, o, b1, b2, b3⟩ := body p e s m args below meth c s₁ B hml hP s₁ hh0 (Stand.of_body B)
    exact ⟨t, o, a1, b1, b2, ⟨b3.1, b3.2⟩⟩
theorem zCt_of3 {l : Launch} {E : zEN} {y : MethodName} {b : ByteArray} {mL : Nat} {ret : Option FieldType} {d n n' mc ms : Nat} {σ : zSto} {av : List Value} {Post : Int → zSto → Prop} (lv : List (Option Value)) (hy : plainFor y = true) (hlen : (lg_sl av).length ≤ mL) (hlv : zlvof av ++ List.replicate (mL - (zlvof av).length) none = lv)
    (body : ∀ X : zCX, X.1 = E → zok X b y.cls d → zret X mc ms n' ret Post → X.2.2.2.2.2.2.2.2.2.2.2.2 = mL → X.2.2.2.2.2.2.2.2.2.1.name = y.name ∧ X.2.2.2.2.1.cells = mc ∧ X.2.2.2.2.1.slots = ms → zZ X n 0 0 σ 0 lv []) : zCt l E y b mL ret d n n' mc ms σ av Post := by
  unfold zCt
  refine zofWF (cc := b) (maxL := mL) (ret := ret) hy rfl ?_
  intro p e s m args below meth c s₁ B hml hv
  obtain ⟨rfl, hG, hK, hst⟩ := hv
  have hts := atoms_spec (ws := .code y b mL ret :: wsL_law) B.pre
  have hown : s.vm.findClass y.cls = some m.cls := findClass_of_methodNamed B.named
  have hb := body (E, p, l, e, (headSpec (.code y b mL ret :: wsL_law) (zrm d mc ms)).room, s, m, av.toArray, below, meth, c, MQ below (zQc E n' ret Post) av.toArray s mc ms (fun q => E.1 ≤ q), mL) rfl
    ⟨B.exec, B.bytes, hml, hown, ⟨_, hts⟩, B.notSynchronized, hK, hst, Nat.le_refl _, Nat.le_refl _⟩ ⟨B.returns, rfl⟩ rfl ⟨(name_of_methodNamed B.named B.method).1, rfl, rfl⟩
  have hl := lv_entry av (n := mL) hlen
  rw [lg_entry_eq]
  refine hb s.heap [] _ hG va_S.rf (zlv_of hl fun i v h => ?_)
  rw [← hlv] at h
  have := zlvof_mem av _ 0 i v h
  rwa [Nat.zero_add] at this
