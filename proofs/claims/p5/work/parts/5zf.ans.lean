theorem zCt_post {l : Launch} {E : zEN} {y : MethodName} {b : ByteArray} {mL : Nat} {ret : Option FieldType} {d n n' mc ms : Nat} {σ : zSto} {av : List Value} {P Q : Int → zSto → Prop} (h : zCt l E y b mL ret d n n' mc ms σ av P) (m : ∀ r σ', zrr ret r → P r σ' → Q r σ') : zCt l E y b mL ret d n n' mc ms σ av Q := by
  unfold zCt Met at *
  refine Jvm.Free.MetFree.mono h (fun _ _ x => x) (fun _ _ _ _ _ x => x) ?_
  intro a s o t hP hq
  obtain ⟨⟨⟨r1, s1, e1, b1, p1, u1⟩, f1⟩, L1⟩ := hq
  exact ⟨⟨⟨r1, s1, e1, b1, m r1 s1 b1 p1, u1⟩, f1⟩, L1⟩
def yAns (A : yP × yPl × Int) (r : Int) : Prop := (yPo A.1 = 1 → r = A.2.2) ∧ (yPo A.1 = 0 → r = -1)
theorem yAns_eq {A : yP × yPl × Int} {r q : Int} (h : yAns A r) (g : yAns A q) : r = q := by
  rcases yPo_b A.1 with o | o
  · exact (h.1 o).trans (g.1 o).symm
  · exact (h.2 o).trans (g.2 o).symm
theorem zPlan_c : ∀ k, k < 238 → zro k = 8 → k = 7 ∨ k = 17 := by decide +kernel
theorem zdraft {σ : zSto} (hI : zInv σ) : σ 0 4 = 7 ∨ σ 0 4 = 17 := by
  obtain ⟨k, ek, hk⟩ := zv_1_4 hI zc_0
  rcases zPlan_c k (zro_lt hk (by decide)) hk with h | h
  · exact Or.inl (by rw [ek, h]; rfl)
  · exact Or.inr (by rw [ek, h]; rfl)
