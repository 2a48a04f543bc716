theorem zCt_both {l : Launch} {E : zEN} {y : MethodName} {b : ByteArray} {mL : Nat} {ret : Option FieldType} {d n n' mc ms : Nat} {σ : zSto} {av : List Value} {P1 P2 : Int → zSto → Prop}
    (h1 : zCt l E y b mL ret d n n' mc ms σ av P1) (h2 : zCt l E y b mL ret d n n' mc ms σ av P2) :
    zCt l E y b mL ret d n n' mc ms σ av (fun r σ' => P1 r σ' ∧ ∃ (r2 : Int) (σ2 : zSto) (t : State), P2 r2 σ2 ∧ zrv ret r = zrv ret r2 ∧ zrr ret r2 ∧ zU E n' σ' t ∧ zU E n' σ2 t) := by
  unfold zCt Met at *
  have g : ∀ i : Bool, Jvm.Free.MetFree l y (headSpec (.code y b mL ret :: wsL_law) (zrm d mc ms)) (fun v U => v = av.toArray ∧ zU E n σ U) (fun _ _ _ _ _ => True)
      (fun a st o t => zQc E n' ret (if i = true then P1 else P2) a st o t ∧ ∃ L, FrameEnd st o t L mc ms ∧ ∀ q ∈ L, E.1 ≤ q.base) := by
    intro i
    cases i with
    | true => exact h1
    | false => exact h2
  refine (Jvm.Free.MetFree.both (G := Bool) g).mono (fun a s h => ⟨true, h⟩) (fun _ _ _ _ _ h => h) ?_
  intro a s o t hP hq
  obtain ⟨⟨⟨r1, s1, e1, b1, p1, u1⟩, f1⟩, L1⟩ := hq.2 true hP
  obtain ⟨⟨⟨r2, s2, e2, b2, p2, u2⟩, f2⟩, L2⟩ := hq.2 false hP
  refine ⟨⟨⟨r1, s1, e1, b1, ⟨p1, r2, s2, t, p2, ?_, b2, u1, u2⟩, u1⟩, f1⟩, L1⟩
  rw [e1] at e2
  injection e2
