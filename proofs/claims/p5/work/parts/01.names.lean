-- ===== PART A: goes FIRST, ahead of the names: the tables' words, and 'selects' of the private methods out of them =====
/-- a private method of a class that the tables say can be made, by its rows of tables_1 -/
def lw_okq (q : MethodName × Nat) : Prop := (q.1.cls ≠ "java/lang/invoke/MethodHandle" ∧ q.1.cls ≠ "java/lang/invoke/VarHandle") ∧ Cond.instantiable q.1.cls q.2 ∈ tables_1 ∧ Cond.privateMethod q.1 ∈ tables_1 ∧ Cond.instanceMethod q.1 ∈ tables_1
set_option maxRecDepth 100000 in
set_option maxHeartbeats 40000000 in
theorem lw_t1 : ((Cond.instantiable "OnePane" 17) ∈ tables_1 ∧ (Cond.instantiable "OnePane$Reader" 9) ∈ tables_1) := by
  have h : ∀ w ∈ tables_1_1, w ∈ tables_1 := fun w hm => List.mem_append_left _ hm
  unfold tables_1_1 at h
  have e := List.forall_mem_cons.mp h
  replace h := e.2
  clear e
  have e := List.forall_mem_cons.mp h
  replace h := e.2
  clear e
  have e := List.forall_mem_cons.mp h
  replace h := e.2
  clear e
  have e := List.forall_mem_cons.mp h
  replace h := e.2
  clear e
  have e := List.forall_mem_cons.mp h
  replace h := e.2
  clear e
  have e := List.forall_mem_cons.mp h
  replace h := e.2
  clear e
  have e := List.forall_mem_cons.mp h
  replace h := e.2
  clear e
  have e := List.forall_mem_cons.mp h
  replace h := e.2
  clear e
  have e := List.forall_mem_cons.mp h
  replace h := e.2
  clear e
  have e := List.forall_mem_cons.mp h
  replace h := e.2
  clear e
  have e := List.forall_mem_cons.mp h
  replace h := e.2
  clear e
  have e := List.forall_mem_cons.mp h
  replace h := e.2
  clear e
  have e := List.forall_mem_cons.mp h
  replace h := e.2
  clear e
  have e := List.forall_mem_cons.mp h
  replace h := e.2
  clear e
  have e := List.forall_mem_cons.mp h
  replace h := e.2
  clear e
  have e := List.forall_mem_cons.mp h
  replace h := e.2
  clear e
  have e := List.forall_mem_cons.mp h
  replace h := e.2
  clear e
  have e := List.forall_mem_cons.mp h
  replace h := e.2
  clear e
  have e := List.forall_mem_cons.mp h
  replace h := e.2
  clear e
  have e := List.forall_mem_cons.mp h
  replace h := e.2
  clear e
  have e := List.forall_mem_cons.mp h
  replace h := e.2
  clear e
  have e := List.forall_mem_cons.mp h
  replace h := e.2
  clear e
  have e := List.forall_mem_cons.mp h
  replace h := e.2
  clear e
  have e := List.forall_mem_cons.mp h
  have h23 := e.1
  replace h := e.2
  clear e
  have e := List.forall_mem_cons.mp h
  replace h := e.2
  clear e
  have e := List.forall_mem_cons.mp h
  replace h := e.2
  clear e
  have e := List.forall_mem_cons.mp h
  replace h := e.2
  clear e
  have e := List.forall_mem_cons.mp h
  replace h := e.2
  clear e
  have e := List.forall_mem_cons.mp h
  replace h := e.2
  clear e
  have e := List.forall_mem_cons.mp h
  replace h := e.2
  clear e
  have e := List.forall_mem_cons.mp h
  replace h := e.2
  clear e
  have e := List.forall_mem_cons.mp h
  replace h := e.2
  clear e
  have e := List.forall_mem_cons.mp h
  replace h := e.2
  clear e
  have e := List.forall_mem_cons.mp h
  replace h := e.2
  clear e
  have e := List.forall_mem_cons.mp h
  replace h := e.2
  clear e
  have e := List.forall_mem_cons.mp h
  replace h := e.2
  clear e
  have e := List.forall_mem_cons.mp h
  replace h := e.2
  clear e
  have e := List.forall_mem_cons.mp h
  replace h := e.2
  clear e
  have e := List.forall_mem_cons.mp h
  replace h := e.2
  clear e
  have e := List.forall_mem_cons.mp h
  replace h := e.2
  clear e
  have e := List.forall_mem_cons.mp h
  replace h := e.2
  clear e
  have e := List.forall_mem_cons.mp h
  replace h := e.2
  clear e
  have e := List.forall_mem_cons.mp h
  replace h := e.2
  clear e
  have e := List.forall_mem_cons.mp h
  replace h := e.2
  clear e
  have e := List.forall_mem_cons.mp h
  replace h := e.2
  clear e
  have e := List.forall_mem_cons.mp h
  replace h := e.2
  clear e
  have e := List.forall_mem_cons.mp h
  replace h := e.2
  clear e
  have e := List.forall_mem_cons.mp h
  replace h := e.2
  clear e
  have e := List.forall_mem_cons.mp h
  replace h := e.2
  clear e
  have e := List.forall_mem_cons.mp h
  replace h := e.2
  clear e
  have e := List.forall_mem_cons.mp h
  replace h := e.2
  clear e
  have e := List.forall_mem_cons.mp h
  replace h := e.2
  clear e
  have e := List.forall_mem_cons.mp h
  replace h := e.2
  clear e
  have e := List.forall_mem_cons.mp h
  replace h := e.2
  clear e
  have e := List.forall_mem_cons.mp h
  replace h := e.2
  clear e
  have e := List.forall_mem_cons.mp h
  replace h := e.2
  clear e
  have e := List.forall_mem_cons.mp h
  replace h := e.2
  clear e
  have e := List.forall_mem_cons.mp h
  replace h := e.2
  clear e
  have e := List.forall_mem_cons.mp h
  replace h := e.2
  clear e
  have e := List.forall_mem_cons.mp h
  replace h := e.2
  clear e
  have e := List.forall_mem_cons.mp h
  replace h := e.2
  clear e
  have e := List.forall_mem_cons.mp h
  replace h := e.2
  clear e
  have e := List.forall_mem_cons.mp h
  replace h := e.2
  clear e
  have e := List.forall_mem_cons.mp h
  replace h := e.2
  clear e
  have e := List.forall_mem_cons.mp h
  replace h := e.2
  clear e
  have e := List.forall_mem_cons.mp h
  replace h := e.2
  clear e
  have e := List.forall_mem_cons.mp h
  replace h := e.2
  clear e
  have e := List.forall_mem_cons.mp h
  replace h := e.2
  clear e
  have e := List.forall_mem_cons.mp h
  replace h := e.2
  clear e
  have e := List.forall_mem_cons.mp h
  replace h := e.2
  clear e
  have e := List.forall_mem_cons.mp h
  replace h := e.2
  clear e
  have e := List.forall_mem_cons.mp h
  replace h := e.2
  clear e
  have e := List.forall_mem_cons.mp h
  replace h := e.2
  clear e
  have e := List.forall_mem_cons.mp h
  replace h := e.2
  clear e
  have e := List.forall_mem_cons.mp h
  replace h := e.2
  clear e
  have e := List.forall_mem_cons.mp h
  replace h := e.2
  clear e
  have e := List.forall_mem_cons.mp h
  replace h := e.2
  clear e
  have e := List.forall_mem_cons.mp h
  replace h := e.2
  clear e
  have e := List.forall_mem_cons.mp h
  replace h := e.2
  clear e
  have e := List.forall_mem_cons.mp h
  replace h := e.2
  clear e
  have e := List.forall_mem_cons.mp h
  replace h := e.2
  clear e
  have e := List.forall_mem_cons.mp h
  replace h := e.2
  clear e
  have e := List.forall_mem_cons.mp h
  replace h := e.2
  clear e
  have e := List.forall_mem_cons.mp h
  replace h := e.2
  clear e
  have e := List.forall_mem_cons.mp h
  replace h := e.2
  clear e
  have e := List.forall_mem_cons.mp h
  replace h := e.2
  clear e
  have e := List.forall_mem_cons.mp h
  replace h := e.2
  clear e
  have e := List.forall_mem_cons.mp h
  replace h := e.2
  clear e
  have e := List.forall_mem_cons.mp h
  replace h := e.2
  clear e
  have e := List.forall_mem_cons.mp h
  replace h := e.2
  clear e
  have e := List.forall_mem_cons.mp h
  replace h := e.2
  clear e
  have e := List.forall_mem_cons.mp h
  replace h := e.2
  clear e
  have e := List.forall_mem_cons.mp h
  replace h := e.2
  clear e
  have e := List.forall_mem_cons.mp h
  replace h := e.2
  clear e
  have e := List.forall_mem_cons.mp h
  replace h := e.2
  clear e
  have e := List.forall_mem_cons.mp h
  replace h := e.2
  clear e
  have e := List.forall_mem_cons.mp h
  replace h := e.2
  clear e
  have e := List.forall_mem_cons.mp h
  replace h := e.2
  clear e
  have e := List.forall_mem_cons.mp h
  replace h := e.2
  clear e
  have e := List.forall_mem_cons.mp h
  replace h := e.2
  clear e
  have e := List.forall_mem_cons.mp h
  replace h := e.2
  clear e
  have e := List.forall_mem_cons.mp h
  replace h := e.2
  clear e
  have e := List.forall_mem_cons.mp h
  replace h := e.2
  clear e
  have e := List.forall_mem_cons.mp h
  replace h := e.2
  clear e
  have e := List.forall_mem_cons.mp h
  replace h := e.2
  clear e
  have e := List.forall_mem_cons.mp h
  replace h := e.2
  clear e
  have e := List.forall_mem_cons.mp h
  replace h := e.2
  clear e
  have e := List.forall_mem_cons.mp h
  replace h := e.2
  clear e
  have e := List.forall_mem_cons.mp h
  replace h := e.2
  clear e
  have e := List.forall_mem_cons.mp h
  replace h := e.2
  clear e
  have e := List.forall_mem_cons.mp h
  replace h := e.2
  clear e
  have e := List.forall_mem_cons.mp h
  replace h := e.2
  clear e
  have e := List.forall_mem_cons.mp h
  replace h := e.2
  clear e
  have e := List.forall_mem_cons.mp h
  replace h := e.2
  clear e
  have e := List.forall_mem_cons.mp h
  replace h := e.2
  clear e
  have e := List.forall_mem_cons.mp h
  replace h := e.2
  clear e
  have e := List.forall_mem_cons.mp h
  replace h := e.2
  clear e
  have e := List.forall_mem_cons.mp h
  replace h := e.2
  clear e
  have e := List.forall_mem_cons.mp h
  replace h := e.2
  clear e
  have e := List.forall_mem_cons.mp h
  replace h := e.2
  clear e
  have e := List.forall_mem_cons.mp h
  replace h := e.2
  clear e
  have e := List.forall_mem_cons.mp h
  replace h := e.2
  clear e
  have e := List.forall_mem_cons.mp h
  replace h := e.2
  clear e
  have e := List.forall_mem_cons.mp h
  replace h := e.2
  clear e
  have e := List.forall_mem_cons.mp h
  replace h := e.2
  clear e
  have e := List.forall_mem_cons.mp h
  replace h := e.2
  clear e
  have e := List.forall_mem_cons.mp h
  replace h := e.2
  clear e
  have e := List.forall_mem_cons.mp h
  replace h := e.2
  clear e
  have e := List.forall_mem_cons.mp h
  replace h := e.2
  clear e
  have e := List.forall_mem_cons.mp h
  replace h := e.2
  clear e
  have e := List.forall_mem_cons.mp h
  replace h := e.2
  clear e
  have e := List.forall_mem_cons.mp h
  replace h := e.2
  clear e
  have e := List.forall_mem_cons.mp h
  replace h := e.2
  clear e
  have e := List.forall_mem_cons.mp h
  replace h := e.2
  clear e
  have e := List.forall_mem_cons.mp h
  replace h := e.2
  clear e
  have e := List.forall_mem_cons.mp h
  replace h := e.2
  clear e
  have e := List.forall_mem_cons.mp h
  replace h := e.2
  clear e
  have e := List.forall_mem_cons.mp h
  replace h := e.2
  clear e
  have e := List.forall_mem_cons.mp h
  replace h := e.2
  clear e
  have e := List.forall_mem_cons.mp h
  replace h := e.2
  clear e
  have e := List.forall_mem_cons.mp h
  replace h := e.2
  clear e
  have e := List.forall_mem_cons.mp h
  replace h := e.2
  clear e
  have e := List.forall_mem_cons.mp h
  replace h := e.2
  clear e
  have e := List.forall_mem_cons.mp h
  replace h := e.2
  clear e
  have e := List.forall_mem_cons.mp h
  replace h := e.2
  clear e
  have e := List.forall_mem_cons.mp h
  replace h := e.2
  clear e
  have e := List.forall_mem_cons.mp h
  replace h := e.2
  clear e
  have e := List.forall_mem_cons.mp h
  replace h := e.2
  clear e
  have e := List.forall_mem_cons.mp h
  replace h := e.2
  clear e
  have e := List.forall_mem_cons.mp h
  replace h := e.2
  clear e
  have e := List.forall_mem_cons.mp h
  replace h := e.2
  clear e
  have e := List.forall_mem_cons.mp h
  replace h := e.2
  clear e
  have e := List.forall_mem_cons.mp h
  replace h := e.2
  clear e
  have e := List.forall_mem_cons.mp h
  replace h := e.2
  clear e
  have e := List.forall_mem_cons.mp h
  replace h := e.2
  clear e
  have e := List.forall_mem_cons.mp h
  replace h := e.2
  clear e
  have e := List.forall_mem_cons.mp h
  replace h := e.2
  clear e
  have e := List.forall_mem_cons.mp h
  replace h := e.2
  clear e
  have e := List.forall_mem_cons.mp h
  replace h := e.2
  clear e
  have e := List.forall_mem_cons.mp h
  replace h := e.2
  clear e
  have e := List.forall_mem_cons.mp h
  replace h := e.2
  clear e
  have e := List.forall_mem_cons.mp h
  replace h := e.2
  clear e
  have e := List.forall_mem_cons.mp h
  replace h := e.2
  clear e
  have e := List.forall_mem_cons.mp h
  replace h := e.2
  clear e
  have e := List.forall_mem_cons.mp h
  have h164 := e.1
  replace h := e.2
  clear e
  exact ⟨h23, h164⟩
set_option maxRecDepth 100000 in
set_option maxHeartbeats 40000000 in
theorem lw_t2 : ((Cond.instantiable "OnePane$Grammar" 3) ∈ tables_1 ∧ (Cond.instantiable "OnePane$Statements" 3) ∈ tables_1 ∧ (Cond.instantiable "OnePane$Town" 8) ∈ tables_1 ∧ (Cond.instantiable "OnePane$Sets" 7) ∈ tables_1 ∧ (Cond.instantiable "OnePane$Reckoner" 14) ∈ tables_1 ∧ (Cond.instantiable "OnePane$Abacus" 4) ∈ tables_1) := by
  have h : ∀ w ∈ tables_1_2, w ∈ tables_1 := fun w hm => List.mem_append_right _ (List.mem_append_left _ hm)
  unfold tables_1_2 at h
  have e := List.forall_mem_cons.mp h
  replace h := e.2
  clear e
  have e := List.forall_mem_cons.mp h
  replace h := e.2
  clear e
  have e := List.forall_mem_cons.mp h
  replace h := e.2
  clear e
  have e := List.forall_mem_cons.mp h
  replace h := e.2
  clear e
  have e := List.forall_mem_cons.mp h
  replace h := e.2
  clear e
  have e := List.forall_mem_cons.mp h
  replace h := e.2
  clear e
  have e := List.forall_mem_cons.mp h
  replace h := e.2
  clear e
  have e := List.forall_mem_cons.mp h
  replace h := e.2
  clear e
  have e := List.forall_mem_cons.mp h
  replace h := e.2
  clear e
  have e := List.forall_mem_cons.mp h
  replace h := e.2
  clear e
  have e := List.forall_mem_cons.mp h
  replace h := e.2
  clear e
  have e := List.forall_mem_cons.mp h
  replace h := e.2
  clear e
  have e := List.forall_mem_cons.mp h
  replace h := e.2
  clear e
  have e := List.forall_mem_cons.mp h
  have h13 := e.1
  replace h := e.2
  clear e
  have e := List.forall_mem_cons.mp h
  replace h := e.2
  clear e
  have e := List.forall_mem_cons.mp h
  replace h := e.2
  clear e
  have e := List.forall_mem_cons.mp h
  replace h := e.2
  clear e
  have e := List.forall_mem_cons.mp h
  replace h := e.2
  clear e
  have e := List.forall_mem_cons.mp h
  replace h := e.2
  clear e
  have e := List.forall_mem_cons.mp h
  replace h := e.2
  clear e
  have e := List.forall_mem_cons.mp h
  replace h := e.2
  clear e
  have e := List.forall_mem_cons.mp h
  replace h := e.2
  clear e
  have e := List.forall_mem_cons.mp h
  replace h := e.2
  clear e
  have e := List.forall_mem_cons.mp h
  replace h := e.2
  clear e
  have e := List.forall_mem_cons.mp h
  replace h := e.2
  clear e
  have e := List.forall_mem_cons.mp h
  replace h := e.2
  clear e
  have e := List.forall_mem_cons.mp h
  replace h := e.2
  clear e
  have e := List.forall_mem_cons.mp h
  replace h := e.2
  clear e
  have e := List.forall_mem_cons.mp h
  replace h := e.2
  clear e
  have e := List.forall_mem_cons.mp h
  have h29 := e.1
  replace h := e.2
  clear e
  have e := List.forall_mem_cons.mp h
  replace h := e.2
  clear e
  have e := List.forall_mem_cons.mp h
  replace h := e.2
  clear e
  have e := List.forall_mem_cons.mp h
  replace h := e.2
  clear e
  have e := List.forall_mem_cons.mp h
  replace h := e.2
  clear e
  have e := List.forall_mem_cons.mp h
  replace h := e.2
  clear e
  have e := List.forall_mem_cons.mp h
  replace h := e.2
  clear e
  have e := List.forall_mem_cons.mp h
  replace h := e.2
  clear e
  have e := List.forall_mem_cons.mp h
  replace h := e.2
  clear e
  have e := List.forall_mem_cons.mp h
  replace h := e.2
  clear e
  have e := List.forall_mem_cons.mp h
  replace h := e.2
  clear e
  have e := List.forall_mem_cons.mp h
  replace h := e.2
  clear e
  have e := List.forall_mem_cons.mp h
  replace h := e.2
  clear e
  have e := List.forall_mem_cons.mp h
  replace h := e.2
  clear e
  have e := List.forall_mem_cons.mp h
  replace h := e.2
  clear e
  have e := List.forall_mem_cons.mp h
  replace h := e.2
  clear e
  have e := List.forall_mem_cons.mp h
  have h45 := e.1
  replace h := e.2
  clear e
  have e := List.forall_mem_cons.mp h
  replace h := e.2
  clear e
  have e := List.forall_mem_cons.mp h
  replace h := e.2
  clear e
  have e := List.forall_mem_cons.mp h
  replace h := e.2
  clear e
  have e := List.forall_mem_cons.mp h
  replace h := e.2
  clear e
  have e := List.forall_mem_cons.mp h
  replace h := e.2
  clear e
  have e := List.forall_mem_cons.mp h
  replace h := e.2
  clear e
  have e := List.forall_mem_cons.mp h
  replace h := e.2
  clear e
  have e := List.forall_mem_cons.mp h
  replace h := e.2
  clear e
  have e := List.forall_mem_cons.mp h
  replace h := e.2
  clear e
  have e := List.forall_mem_cons.mp h
  replace h := e.2
  clear e
  have e := List.forall_mem_cons.mp h
  replace h := e.2
  clear e
  have e := List.forall_mem_cons.mp h
  replace h := e.2
  clear e
  have e := List.forall_mem_cons.mp h
  replace h := e.2
  clear e
  have e := List.forall_mem_cons.mp h
  replace h := e.2
  clear e
  have e := List.forall_mem_cons.mp h
  replace h := e.2
  clear e
  have e := List.forall_mem_cons.mp h
  replace h := e.2
  clear e
  have e := List.forall_mem_cons.mp h
  replace h := e.2
  clear e
  have e := List.forall_mem_cons.mp h
  replace h := e.2
  clear e
  have e := List.forall_mem_cons.mp h
  replace h := e.2
  clear e
  have e := List.forall_mem_cons.mp h
  replace h := e.2
  clear e
  have e := List.forall_mem_cons.mp h
  replace h := e.2
  clear e
  have e := List.forall_mem_cons.mp h
  replace h := e.2
  clear e
  have e := List.forall_mem_cons.mp h
  replace h := e.2
  clear e
  have e := List.forall_mem_cons.mp h
  replace h := e.2
  clear e
  have e := List.forall_mem_cons.mp h
  replace h := e.2
  clear e
  have e := List.forall_mem_cons.mp h
  replace h := e.2
  clear e
  have e := List.forall_mem_cons.mp h
  replace h := e.2
  clear e
  have e := List.forall_mem_cons.mp h
  replace h := e.2
  clear e
  have e := List.forall_mem_cons.mp h
  replace h := e.2
  clear e
  have e := List.forall_mem_cons.mp h
  replace h := e.2
  clear e
  have e := List.forall_mem_cons.mp h
  replace h := e.2
  clear e
  have e := List.forall_mem_cons.mp h
  replace h := e.2
  clear e
  have e := List.forall_mem_cons.mp h
  replace h := e.2
  clear e
  have e := List.forall_mem_cons.mp h
  replace h := e.2
  clear e
  have e := List.forall_mem_cons.mp h
  replace h := e.2
  clear e
  have e := List.forall_mem_cons.mp h
  replace h := e.2
  clear e
  have e := List.forall_mem_cons.mp h
  replace h := e.2
  clear e
  have e := List.forall_mem_cons.mp h
  replace h := e.2
  clear e
  have e := List.forall_mem_cons.mp h
  replace h := e.2
  clear e
  have e := List.forall_mem_cons.mp h
  replace h := e.2
  clear e
  have e := List.forall_mem_cons.mp h
  replace h := e.2
  clear e
  have e := List.forall_mem_cons.mp h
  replace h := e.2
  clear e
  have e := List.forall_mem_cons.mp h
  replace h := e.2
  clear e
  have e := List.forall_mem_cons.mp h
  replace h := e.2
  clear e
  have e := List.forall_mem_cons.mp h
  replace h := e.2
  clear e
  have e := List.forall_mem_cons.mp h
  replace h := e.2
  clear e
  have e := List.forall_mem_cons.mp h
  replace h := e.2
  clear e
  have e := List.forall_mem_cons.mp h
  replace h := e.2
  clear e
  have e := List.forall_mem_cons.mp h
  replace h := e.2
  clear e
  have e := List.forall_mem_cons.mp h
  replace h := e.2
  clear e
  have e := List.forall_mem_cons.mp h
  replace h := e.2
  clear e
  have e := List.forall_mem_cons.mp h
  replace h := e.2
  clear e
  have e := List.forall_mem_cons.mp h
  replace h := e.2
  clear e
  have e := List.forall_mem_cons.mp h
  replace h := e.2
  clear e
  have e := List.forall_mem_cons.mp h
  replace h := e.2
  clear e
  have e := List.forall_mem_cons.mp h
  replace h := e.2
  clear e
  have e := List.forall_mem_cons.mp h
  replace h := e.2
  clear e
  have e := List.forall_mem_cons.mp h
  replace h := e.2
  clear e
  have e := List.forall_mem_cons.mp h
  replace h := e.2
  clear e
  have e := List.forall_mem_cons.mp h
  replace h := e.2
  clear e
  have e := List.forall_mem_cons.mp h
  replace h := e.2
  clear e
  have e := List.forall_mem_cons.mp h
  replace h := e.2
  clear e
  have e := List.forall_mem_cons.mp h
  replace h := e.2
  clear e
  have e := List.forall_mem_cons.mp h
  replace h := e.2
  clear e
  have e := List.forall_mem_cons.mp h
  replace h := e.2
  clear e
  have e := List.forall_mem_cons.mp h
  have h111 := e.1
  replace h := e.2
  clear e
  have e := List.forall_mem_cons.mp h
  replace h := e.2
  clear e
  have e := List.forall_mem_cons.mp h
  replace h := e.2
  clear e
  have e := List.forall_mem_cons.mp h
  replace h := e.2
  clear e
  have e := List.forall_mem_cons.mp h
  replace h := e.2
  clear e
  have e := List.forall_mem_cons.mp h
  replace h := e.2
  clear e
  have e := List.forall_mem_cons.mp h
  replace h := e.2
  clear e
  have e := List.forall_mem_cons.mp h
  replace h := e.2
  clear e
  have e := List.forall_mem_cons.mp h
  replace h := e.2
  clear e
  have e := List.forall_mem_cons.mp h
  replace h := e.2
  clear e
  have e := List.forall_mem_cons.mp h
  replace h := e.2
  clear e
  have e := List.forall_mem_cons.mp h
  replace h := e.2
  clear e
  have e := List.forall_mem_cons.mp h
  replace h := e.2
  clear e
  have e := List.forall_mem_cons.mp h
  replace h := e.2
  clear e
  have e := List.forall_mem_cons.mp h
  replace h := e.2
  clear e
  have e := List.forall_mem_cons.mp h
  replace h := e.2
  clear e
  have e := List.forall_mem_cons.mp h
  replace h := e.2
  clear e
  have e := List.forall_mem_cons.mp h
  replace h := e.2
  clear e
  have e := List.forall_mem_cons.mp h
  replace h := e.2
  clear e
  have e := List.forall_mem_cons.mp h
  replace h := e.2
  clear e
  have e := List.forall_mem_cons.mp h
  replace h := e.2
  clear e
  have e := List.forall_mem_cons.mp h
  replace h := e.2
  clear e
  have e := List.forall_mem_cons.mp h
  replace h := e.2
  clear e
  have e := List.forall_mem_cons.mp h
  replace h := e.2
  clear e
  have e := List.forall_mem_cons.mp h
  replace h := e.2
  clear e
  have e := List.forall_mem_cons.mp h
  replace h := e.2
  clear e
  have e := List.forall_mem_cons.mp h
  replace h := e.2
  clear e
  have e := List.forall_mem_cons.mp h
  replace h := e.2
  clear e
  have e := List.forall_mem_cons.mp h
  replace h := e.2
  clear e
  have e := List.forall_mem_cons.mp h
  replace h := e.2
  clear e
  have e := List.forall_mem_cons.mp h
  have h141 := e.1
  replace h := e.2
  clear e
  have e := List.forall_mem_cons.mp h
  replace h := e.2
  clear e
  have e := List.forall_mem_cons.mp h
  replace h := e.2
  clear e
  have e := List.forall_mem_cons.mp h
  replace h := e.2
  clear e
  have e := List.forall_mem_cons.mp h
  replace h := e.2
  clear e
  have e := List.forall_mem_cons.mp h
  replace h := e.2
  clear e
  have e := List.forall_mem_cons.mp h
  have h147 := e.1
  replace h := e.2
  clear e
  exact ⟨h13, h29, h45, h111, h141, h147⟩
set_option maxRecDepth 100000 in
set_option maxHeartbeats 40000000 in
theorem lw_t3 : ((Cond.privateMethod ⟨"OnePane", "refusal", "(I)I"⟩) ∈ tables_1 ∧ (Cond.instanceMethod ⟨"OnePane", "refusal", "(I)I"⟩) ∈ tables_1 ∧ (Cond.privateMethod ⟨"OnePane", "denial", "(I)Z"⟩) ∈ tables_1 ∧ (Cond.instanceMethod ⟨"OnePane", "denial", "(I)Z"⟩) ∈ tables_1 ∧ (Cond.privateMethod ⟨"OnePane$Reader", "cutWord", "(LOnePane$Tape;I)I"⟩) ∈ tables_1 ∧ (Cond.instanceMethod ⟨"OnePane$Reader", "cutWord", "(LOnePane$Tape;I)I"⟩) ∈ tables_1 ∧ (Cond.privateMethod ⟨"OnePane$Reader", "addToken", "(IIII)V"⟩) ∈ tables_1 ∧ (Cond.instanceMethod ⟨"OnePane$Reader", "addToken", "(IIII)V"⟩) ∈ tables_1 ∧ (Cond.privateMethod ⟨"OnePane$Reader", "knownWord", "(I)I"⟩) ∈ tables_1 ∧ (Cond.instanceMethod ⟨"OnePane$Reader", "knownWord", "(I)I"⟩) ∈ tables_1 ∧ (Cond.privateMethod ⟨"OnePane$Reader", "cutNumber", "(LOnePane$Tape;I)I"⟩) ∈ tables_1 ∧ (Cond.instanceMethod ⟨"OnePane$Reader", "cutNumber", "(LOnePane$Tape;I)I"⟩) ∈ tables_1 ∧ (Cond.privateMethod ⟨"OnePane$Statements", "readPane", "()V"⟩) ∈ tables_1 ∧ (Cond.instanceMethod ⟨"OnePane$Statements", "readPane", "()V"⟩) ∈ tables_1 ∧ (Cond.privateMethod ⟨"OnePane$Statements", "readStatement", "()V"⟩) ∈ tables_1 ∧ (Cond.instanceMethod ⟨"OnePane$Statements", "readStatement", "()V"⟩) ∈ tables_1) ∧ ((Cond.privateMethod ⟨"OnePane$Statements", "readHeavy", "()V"⟩) ∈ tables_1 ∧ (Cond.instanceMethod ⟨"OnePane$Statements", "readHeavy", "()V"⟩) ∈ tables_1 ∧ (Cond.privateMethod ⟨"OnePane$Statements", "readPole", "()V"⟩) ∈ tables_1 ∧ (Cond.instanceMethod ⟨"OnePane$Statements", "readPole", "()V"⟩) ∈ tables_1 ∧ (Cond.privateMethod ⟨"OnePane$Statements", "takeName", "()I"⟩) ∈ tables_1 ∧ (Cond.instanceMethod ⟨"OnePane$Statements", "takeName", "()I"⟩) ∈ tables_1 ∧ (Cond.privateMethod ⟨"OnePane$Statements", "readAdds", "()V"⟩) ∈ tables_1 ∧ (Cond.instanceMethod ⟨"OnePane$Statements", "readAdds", "()V"⟩) ∈ tables_1 ∧ (Cond.privateMethod ⟨"OnePane$Grammar", "sum", "(I)V"⟩) ∈ tables_1 ∧ (Cond.instanceMethod ⟨"OnePane$Grammar", "sum", "(I)V"⟩) ∈ tables_1 ∧ (Cond.privateMethod ⟨"OnePane$Grammar", "product", "(I)V"⟩) ∈ tables_1 ∧ (Cond.instanceMethod ⟨"OnePane$Grammar", "product", "(I)V"⟩) ∈ tables_1 ∧ (Cond.privateMethod ⟨"OnePane$Grammar", "part", "(I)V"⟩) ∈ tables_1 ∧ (Cond.instanceMethod ⟨"OnePane$Grammar", "part", "(I)V"⟩) ∈ tables_1 ∧ (Cond.privateMethod ⟨"OnePane$Grammar", "opens", "(I)Z"⟩) ∈ tables_1 ∧ (Cond.instanceMethod ⟨"OnePane$Grammar", "opens", "(I)Z"⟩) ∈ tables_1) ∧ ((Cond.privateMethod ⟨"OnePane$Grammar", "pair", "(I)V"⟩) ∈ tables_1 ∧ (Cond.instanceMethod ⟨"OnePane$Grammar", "pair", "(I)V"⟩) ∈ tables_1 ∧ (Cond.privateMethod ⟨"OnePane$Grammar", "isValue", "(I)Z"⟩) ∈ tables_1 ∧ (Cond.instanceMethod ⟨"OnePane$Grammar", "isValue", "(I)Z"⟩) ∈ tables_1 ∧ (Cond.privateMethod ⟨"OnePane$Statements", "readHolds", "()V"⟩) ∈ tables_1) := by
  have h : ∀ w ∈ tables_1_3, w ∈ tables_1 := fun w hm => List.mem_append_right _ (List.mem_append_right _ (List.mem_append_left _ hm))
  unfold tables_1_3 at h
  have e := List.forall_mem_cons.mp h
  replace h := e.2
  clear e
  have e := List.forall_mem_cons.mp h
  replace h := e.2
  clear e
  have e := List.forall_mem_cons.mp h
  replace h := e.2
  clear e
  have e := List.forall_mem_cons.mp h
  replace h := e.2
  clear e
  have e := List.forall_mem_cons.mp h
  replace h := e.2
  clear e
  have e := List.forall_mem_cons.mp h
  replace h := e.2
  clear e
  have e := List.forall_mem_cons.mp h
  replace h := e.2
  clear e
  have e := List.forall_mem_cons.mp h
  replace h := e.2
  clear e
  have e := List.forall_mem_cons.mp h
  replace h := e.2
  clear e
  have e := List.forall_mem_cons.mp h
  replace h := e.2
  clear e
  have e := List.forall_mem_cons.mp h
  replace h := e.2
  clear e
  have e := List.forall_mem_cons.mp h
  replace h := e.2
  clear e
  have e := List.forall_mem_cons.mp h
  replace h := e.2
  clear e
  have e := List.forall_mem_cons.mp h
  replace h := e.2
  clear e
  have e := List.forall_mem_cons.mp h
  replace h := e.2
  clear e
  have e := List.forall_mem_cons.mp h
  replace h := e.2
  clear e
  have e := List.forall_mem_cons.mp h
  replace h := e.2
  clear e
  have e := List.forall_mem_cons.mp h
  replace h := e.2
  clear e
  have e := List.forall_mem_cons.mp h
  replace h := e.2
  clear e
  have e := List.forall_mem_cons.mp h
  replace h := e.2
  clear e
  have e := List.forall_mem_cons.mp h
  replace h := e.2
  clear e
  have e := List.forall_mem_cons.mp h
  replace h := e.2
  clear e
  have e := List.forall_mem_cons.mp h
  replace h := e.2
  clear e
  have e := List.forall_mem_cons.mp h
  replace h := e.2
  clear e
  have e := List.forall_mem_cons.mp h
  replace h := e.2
  clear e
  have e := List.forall_mem_cons.mp h
  replace h := e.2
  clear e
  have e := List.forall_mem_cons.mp h
  replace h := e.2
  clear e
  have e := List.forall_mem_cons.mp h
  replace h := e.2
  clear e
  have e := List.forall_mem_cons.mp h
  replace h := e.2
  clear e
  have e := List.forall_mem_cons.mp h
  replace h := e.2
  clear e
  have e := List.forall_mem_cons.mp h
  replace h := e.2
  clear e
  have e := List.forall_mem_cons.mp h
  replace h := e.2
  clear e
  have e := List.forall_mem_cons.mp h
  replace h := e.2
  clear e
  have e := List.forall_mem_cons.mp h
  replace h := e.2
  clear e
  have e := List.forall_mem_cons.mp h
  replace h := e.2
  clear e
  have e := List.forall_mem_cons.mp h
  replace h := e.2
  clear e
  have e := List.forall_mem_cons.mp h
  have h36 := e.1
  replace h := e.2
  clear e
  have e := List.forall_mem_cons.mp h
  have h37 := e.1
  replace h := e.2
  clear e
  have e := List.forall_mem_cons.mp h
  replace h := e.2
  clear e
  have e := List.forall_mem_cons.mp h
  replace h := e.2
  clear e
  have e := List.forall_mem_cons.mp h
  replace h := e.2
  clear e
  have e := List.forall_mem_cons.mp h
  replace h := e.2
  clear e
  have e := List.forall_mem_cons.mp h
  replace h := e.2
  clear e
  have e := List.forall_mem_cons.mp h
  replace h := e.2
  clear e
  have e := List.forall_mem_cons.mp h
  replace h := e.2
  clear e
  have e := List.forall_mem_cons.mp h
  replace h := e.2
  clear e
  have e := List.forall_mem_cons.mp h
  replace h := e.2
  clear e
  have e := List.forall_mem_cons.mp h
  replace h := e.2
  clear e
  have e := List.forall_mem_cons.mp h
  replace h := e.2
  clear e
  have e := List.forall_mem_cons.mp h
  replace h := e.2
  clear e
  have e := List.forall_mem_cons.mp h
  replace h := e.2
  clear e
  have e := List.forall_mem_cons.mp h
  replace h := e.2
  clear e
  have e := List.forall_mem_cons.mp h
  have h52 := e.1
  replace h := e.2
  clear e
  have e := List.forall_mem_cons.mp h
  have h53 := e.1
  replace h := e.2
  clear e
  have e := List.forall_mem_cons.mp h
  replace h := e.2
  clear e
  have e := List.forall_mem_cons.mp h
  replace h := e.2
  clear e
  have e := List.forall_mem_cons.mp h
  replace h := e.2
  clear e
  have e := List.forall_mem_cons.mp h
  replace h := e.2
  clear e
  have e := List.forall_mem_cons.mp h
  replace h := e.2
  clear e
  have e := List.forall_mem_cons.mp h
  replace h := e.2
  clear e
  have e := List.forall_mem_cons.mp h
  replace h := e.2
  clear e
  have e := List.forall_mem_cons.mp h
  replace h := e.2
  clear e
  have e := List.forall_mem_cons.mp h
  replace h := e.2
  clear e
  have e := List.forall_mem_cons.mp h
  replace h := e.2
  clear e
  have e := List.forall_mem_cons.mp h
  replace h := e.2
  clear e
  have e := List.forall_mem_cons.mp h
  replace h := e.2
  clear e
  have e := List.forall_mem_cons.mp h
  replace h := e.2
  clear e
  have e := List.forall_mem_cons.mp h
  replace h := e.2
  clear e
  have e := List.forall_mem_cons.mp h
  replace h := e.2
  clear e
  have e := List.forall_mem_cons.mp h
  replace h := e.2
  clear e
  have e := List.forall_mem_cons.mp h
  replace h := e.2
  clear e
  have e := List.forall_mem_cons.mp h
  replace h := e.2
  clear e
  have e := List.forall_mem_cons.mp h
  replace h := e.2
  clear e
  have e := List.forall_mem_cons.mp h
  replace h := e.2
  clear e
  have e := List.forall_mem_cons.mp h
  replace h := e.2
  clear e
  have e := List.forall_mem_cons.mp h
  replace h := e.2
  clear e
  have e := List.forall_mem_cons.mp h
  replace h := e.2
  clear e
  have e := List.forall_mem_cons.mp h
  replace h := e.2
  clear e
  have e := List.forall_mem_cons.mp h
  replace h := e.2
  clear e
  have e := List.forall_mem_cons.mp h
  replace h := e.2
  clear e
  have e := List.forall_mem_cons.mp h
  replace h := e.2
  clear e
  have e := List.forall_mem_cons.mp h
  replace h := e.2
  clear e
  have e := List.forall_mem_cons.mp h
  replace h := e.2
  clear e
  have e := List.forall_mem_cons.mp h
  replace h := e.2
  clear e
  have e := List.forall_mem_cons.mp h
  replace h := e.2
  clear e
  have e := List.forall_mem_cons.mp h
  replace h := e.2
  clear e
  have e := List.forall_mem_cons.mp h
  replace h := e.2
  clear e
  have e := List.forall_mem_cons.mp h
  replace h := e.2
  clear e
  have e := List.forall_mem_cons.mp h
  replace h := e.2
  clear e
  have e := List.forall_mem_cons.mp h
  replace h := e.2
  clear e
  have e := List.forall_mem_cons.mp h
  replace h := e.2
  clear e
  have e := List.forall_mem_cons.mp h
  have h91 := e.1
  replace h := e.2
  clear e
  have e := List.forall_mem_cons.mp h
  have h92 := e.1
  replace h := e.2
  clear e
  have e := List.forall_mem_cons.mp h
  replace h := e.2
  clear e
  have e := List.forall_mem_cons.mp h
  replace h := e.2
  clear e
  have e := List.forall_mem_cons.mp h
  replace h := e.2
  clear e
  have e := List.forall_mem_cons.mp h
  replace h := e.2
  clear e
  have e := List.forall_mem_cons.mp h
  replace h := e.2
  clear e
  have e := List.forall_mem_cons.mp h
  have h98 := e.1
  replace h := e.2
  clear e
  have e := List.forall_mem_cons.mp h
  have h99 := e.1
  replace h := e.2
  clear e
  have e := List.forall_mem_cons.mp h
  replace h := e.2
  clear e
  have e := List.forall_mem_cons.mp h
  replace h := e.2
  clear e
  have e := List.forall_mem_cons.mp h
  have h102 := e.1
  replace h := e.2
  clear e
  have e := List.forall_mem_cons.mp h
  have h103 := e.1
  replace h := e.2
  clear e
  have e := List.forall_mem_cons.mp h
  replace h := e.2
  clear e
  have e := List.forall_mem_cons.mp h
  replace h := e.2
  clear e
  have e := List.forall_mem_cons.mp h
  have h106 := e.1
  replace h := e.2
  clear e
  have e := List.forall_mem_cons.mp h
  have h107 := e.1
  replace h := e.2
  clear e
  have e := List.forall_mem_cons.mp h
  replace h := e.2
  clear e
  have e := List.forall_mem_cons.mp h
  replace h := e.2
  clear e
  have e := List.forall_mem_cons.mp h
  replace h := e.2
  clear e
  have e := List.forall_mem_cons.mp h
  replace h := e.2
  clear e
  have e := List.forall_mem_cons.mp h
  replace h := e.2
  clear e
  have e := List.forall_mem_cons.mp h
  replace h := e.2
  clear e
  have e := List.forall_mem_cons.mp h
  have h114 := e.1
  replace h := e.2
  clear e
  have e := List.forall_mem_cons.mp h
  have h115 := e.1
  replace h := e.2
  clear e
  have e := List.forall_mem_cons.mp h
  replace h := e.2
  clear e
  have e := List.forall_mem_cons.mp h
  replace h := e.2
  clear e
  have e := List.forall_mem_cons.mp h
  replace h := e.2
  clear e
  have e := List.forall_mem_cons.mp h
  replace h := e.2
  clear e
  have e := List.forall_mem_cons.mp h
  replace h := e.2
  clear e
  have e := List.forall_mem_cons.mp h
  replace h := e.2
  clear e
  have e := List.forall_mem_cons.mp h
  replace h := e.2
  clear e
  have e := List.forall_mem_cons.mp h
  replace h := e.2
  clear e
  have e := List.forall_mem_cons.mp h
  replace h := e.2
  clear e
  have e := List.forall_mem_cons.mp h
  replace h := e.2
  clear e
  have e := List.forall_mem_cons.mp h
  replace h := e.2
  clear e
  have e := List.forall_mem_cons.mp h
  replace h := e.2
  clear e
  have e := List.forall_mem_cons.mp h
  replace h := e.2
  clear e
  have e := List.forall_mem_cons.mp h
  replace h := e.2
  clear e
  have e := List.forall_mem_cons.mp h
  replace h := e.2
  clear e
  have e := List.forall_mem_cons.mp h
  replace h := e.2
  clear e
  have e := List.forall_mem_cons.mp h
  replace h := e.2
  clear e
  have e := List.forall_mem_cons.mp h
  replace h := e.2
  clear e
  have e := List.forall_mem_cons.mp h
  replace h := e.2
  clear e
  have e := List.forall_mem_cons.mp h
  replace h := e.2
  clear e
  have e := List.forall_mem_cons.mp h
  replace h := e.2
  clear e
  have e := List.forall_mem_cons.mp h
  replace h := e.2
  clear e
  have e := List.forall_mem_cons.mp h
  replace h := e.2
  clear e
  have e := List.forall_mem_cons.mp h
  replace h := e.2
  clear e
  have e := List.forall_mem_cons.mp h
  replace h := e.2
  clear e
  have e := List.forall_mem_cons.mp h
  replace h := e.2
  clear e
  have e := List.forall_mem_cons.mp h
  replace h := e.2
  clear e
  have e := List.forall_mem_cons.mp h
  replace h := e.2
  clear e
  have e := List.forall_mem_cons.mp h
  replace h := e.2
  clear e
  have e := List.forall_mem_cons.mp h
  replace h := e.2
  clear e
  have e := List.forall_mem_cons.mp h
  have h146 := e.1
  replace h := e.2
  clear e
  have e := List.forall_mem_cons.mp h
  have h147 := e.1
  replace h := e.2
  clear e
  have e := List.forall_mem_cons.mp h
  replace h := e.2
  clear e
  have e := List.forall_mem_cons.mp h
  replace h := e.2
  clear e
  have e := List.forall_mem_cons.mp h
  replace h := e.2
  clear e
  have e := List.forall_mem_cons.mp h
  have h151 := e.1
  replace h := e.2
  clear e
  have e := List.forall_mem_cons.mp h
  have h152 := e.1
  replace h := e.2
  clear e
  have e := List.forall_mem_cons.mp h
  replace h := e.2
  clear e
  have e := List.forall_mem_cons.mp h
  replace h := e.2
  clear e
  have e := List.forall_mem_cons.mp h
  replace h := e.2
  clear e
  have e := List.forall_mem_cons.mp h
  replace h := e.2
  clear e
  have e := List.forall_mem_cons.mp h
  replace h := e.2
  clear e
  have e := List.forall_mem_cons.mp h
  replace h := e.2
  clear e
  have e := List.forall_mem_cons.mp h
  replace h := e.2
  clear e
  have e := List.forall_mem_cons.mp h
  have h160 := e.1
  replace h := e.2
  clear e
  have e := List.forall_mem_cons.mp h
  have h161 := e.1
  replace h := e.2
  clear e
  have e := List.forall_mem_cons.mp h
  replace h := e.2
  clear e
  have e := List.forall_mem_cons.mp h
  replace h := e.2
  clear e
  have e := List.forall_mem_cons.mp h
  replace h := e.2
  clear e
  have e := List.forall_mem_cons.mp h
  replace h := e.2
  clear e
  have e := List.forall_mem_cons.mp h
  replace h := e.2
  clear e
  have e := List.forall_mem_cons.mp h
  replace h := e.2
  clear e
  have e := List.forall_mem_cons.mp h
  replace h := e.2
  clear e
  have e := List.forall_mem_cons.mp h
  have h169 := e.1
  replace h := e.2
  clear e
  have e := List.forall_mem_cons.mp h
  have h170 := e.1
  replace h := e.2
  clear e
  have e := List.forall_mem_cons.mp h
  replace h := e.2
  clear e
  have e := List.forall_mem_cons.mp h
  replace h := e.2
  clear e
  have e := List.forall_mem_cons.mp h
  replace h := e.2
  clear e
  have e := List.forall_mem_cons.mp h
  replace h := e.2
  clear e
  have e := List.forall_mem_cons.mp h
  replace h := e.2
  clear e
  have e := List.forall_mem_cons.mp h
  replace h := e.2
  clear e
  have e := List.forall_mem_cons.mp h
  replace h := e.2
  clear e
  have e := List.forall_mem_cons.mp h
  replace h := e.2
  clear e
  have e := List.forall_mem_cons.mp h
  replace h := e.2
  clear e
  have e := List.forall_mem_cons.mp h
  replace h := e.2
  clear e
  have e := List.forall_mem_cons.mp h
  replace h := e.2
  clear e
  have e := List.forall_mem_cons.mp h
  replace h := e.2
  clear e
  have e := List.forall_mem_cons.mp h
  replace h := e.2
  clear e
  have e := List.forall_mem_cons.mp h
  replace h := e.2
  clear e
  have e := List.forall_mem_cons.mp h
  replace h := e.2
  clear e
  have e := List.forall_mem_cons.mp h
  have h186 := e.1
  replace h := e.2
  clear e
  have e := List.forall_mem_cons.mp h
  have h187 := e.1
  replace h := e.2
  clear e
  have e := List.forall_mem_cons.mp h
  replace h := e.2
  clear e
  have e := List.forall_mem_cons.mp h
  replace h := e.2
  clear e
  have e := List.forall_mem_cons.mp h
  replace h := e.2
  clear e
  have e := List.forall_mem_cons.mp h
  replace h := e.2
  clear e
  have e := List.forall_mem_cons.mp h
  replace h := e.2
  clear e
  have e := List.forall_mem_cons.mp h
  replace h := e.2
  clear e
  have e := List.forall_mem_cons.mp h
  have h194 := e.1
  replace h := e.2
  clear e
  have e := List.forall_mem_cons.mp h
  have h195 := e.1
  replace h := e.2
  clear e
  have e := List.forall_mem_cons.mp h
  replace h := e.2
  clear e
  have e := List.forall_mem_cons.mp h
  replace h := e.2
  clear e
  have e := List.forall_mem_cons.mp h
  have h198 := e.1
  replace h := e.2
  clear e
  have e := List.forall_mem_cons.mp h
  have h199 := e.1
  replace h := e.2
  clear e
  have e := List.forall_mem_cons.mp h
  replace h := e.2
  clear e
  have e := List.forall_mem_cons.mp h
  replace h := e.2
  clear e
  have e := List.forall_mem_cons.mp h
  have h202 := e.1
  replace h := e.2
  clear e
  have e := List.forall_mem_cons.mp h
  have h203 := e.1
  replace h := e.2
  clear e
  have e := List.forall_mem_cons.mp h
  replace h := e.2
  clear e
  have e := List.forall_mem_cons.mp h
  replace h := e.2
  clear e
  have e := List.forall_mem_cons.mp h
  replace h := e.2
  clear e
  have e := List.forall_mem_cons.mp h
  replace h := e.2
  clear e
  have e := List.forall_mem_cons.mp h
  replace h := e.2
  clear e
  have e := List.forall_mem_cons.mp h
  replace h := e.2
  clear e
  have e := List.forall_mem_cons.mp h
  replace h := e.2
  clear e
  have e := List.forall_mem_cons.mp h
  replace h := e.2
  clear e
  have e := List.forall_mem_cons.mp h
  replace h := e.2
  clear e
  have e := List.forall_mem_cons.mp h
  replace h := e.2
  clear e
  have e := List.forall_mem_cons.mp h
  have h214 := e.1
  replace h := e.2
  clear e
  have e := List.forall_mem_cons.mp h
  have h215 := e.1
  replace h := e.2
  clear e
  have e := List.forall_mem_cons.mp h
  replace h := e.2
  clear e
  have e := List.forall_mem_cons.mp h
  replace h := e.2
  clear e
  have e := List.forall_mem_cons.mp h
  replace h := e.2
  clear e
  have e := List.forall_mem_cons.mp h
  replace h := e.2
  clear e
  have e := List.forall_mem_cons.mp h
  replace h := e.2
  clear e
  have e := List.forall_mem_cons.mp h
  replace h := e.2
  clear e
  have e := List.forall_mem_cons.mp h
  replace h := e.2
  clear e
  have e := List.forall_mem_cons.mp h
  replace h := e.2
  clear e
  have e := List.forall_mem_cons.mp h
  replace h := e.2
  clear e
  have e := List.forall_mem_cons.mp h
  replace h := e.2
  clear e
  have e := List.forall_mem_cons.mp h
  have h226 := e.1
  replace h := e.2
  clear e
  have e := List.forall_mem_cons.mp h
  have h227 := e.1
  replace h := e.2
  clear e
  have e := List.forall_mem_cons.mp h
  replace h := e.2
  clear e
  have e := List.forall_mem_cons.mp h
  replace h := e.2
  clear e
  have e := List.forall_mem_cons.mp h
  replace h := e.2
  clear e
  have e := List.forall_mem_cons.mp h
  have h231 := e.1
  replace h := e.2
  clear e
  have e := List.forall_mem_cons.mp h
  have h232 := e.1
  replace h := e.2
  clear e
  have e := List.forall_mem_cons.mp h
  replace h := e.2
  clear e
  have e := List.forall_mem_cons.mp h
  replace h := e.2
  clear e
  have e := List.forall_mem_cons.mp h
  replace h := e.2
  clear e
  have e := List.forall_mem_cons.mp h
  replace h := e.2
  clear e
  have e := List.forall_mem_cons.mp h
  replace h := e.2
  clear e
  have e := List.forall_mem_cons.mp h
  replace h := e.2
  clear e
  have e := List.forall_mem_cons.mp h
  have h239 := e.1
  replace h := e.2
  clear e
  exact ⟨⟨h36, h37, h52, h53, h91, h92, h98, h99, h102, h103, h106, h107, h114, h115, h146, h147⟩, ⟨h151, h152, h160, h161, h169, h170, h186, h187, h194, h195, h198, h199, h202, h203, h214, h215⟩, ⟨h226, h227, h231, h232, h239⟩⟩
set_option maxRecDepth 100000 in
set_option maxHeartbeats 40000000 in
theorem lw_t4 : ((Cond.instanceMethod ⟨"OnePane$Statements", "readHolds", "()V"⟩) ∈ tables_1 ∧ (Cond.privateMethod ⟨"OnePane$Grammar", "test", "(I)V"⟩) ∈ tables_1 ∧ (Cond.instanceMethod ⟨"OnePane$Grammar", "test", "(I)V"⟩) ∈ tables_1 ∧ (Cond.privateMethod ⟨"OnePane$Grammar", "both", "(I)V"⟩) ∈ tables_1 ∧ (Cond.instanceMethod ⟨"OnePane$Grammar", "both", "(I)V"⟩) ∈ tables_1 ∧ (Cond.privateMethod ⟨"OnePane$Grammar", "fact", "(I)V"⟩) ∈ tables_1 ∧ (Cond.instanceMethod ⟨"OnePane$Grammar", "fact", "(I)V"⟩) ∈ tables_1 ∧ (Cond.privateMethod ⟨"OnePane$Grammar", "comparison", "(I)V"⟩) ∈ tables_1 ∧ (Cond.instanceMethod ⟨"OnePane$Grammar", "comparison", "(I)V"⟩) ∈ tables_1 ∧ (Cond.privateMethod ⟨"OnePane", "rememberFault", "()V"⟩) ∈ tables_1 ∧ (Cond.instanceMethod ⟨"OnePane", "rememberFault", "()V"⟩) ∈ tables_1 ∧ (Cond.privateMethod ⟨"OnePane", "holdersNow", "()I"⟩) ∈ tables_1 ∧ (Cond.instanceMethod ⟨"OnePane", "holdersNow", "()I"⟩) ∈ tables_1 ∧ (Cond.privateMethod ⟨"OnePane$Reckoner", "countNear", "(I)I"⟩) ∈ tables_1 ∧ (Cond.instanceMethod ⟨"OnePane$Reckoner", "countNear", "(I)I"⟩) ∈ tables_1 ∧ (Cond.privateMethod ⟨"OnePane$Reckoner", "measureLift", "(I)V"⟩) ∈ tables_1) ∧ ((Cond.instanceMethod ⟨"OnePane$Reckoner", "measureLift", "(I)V"⟩) ∈ tables_1 ∧ (Cond.privateMethod ⟨"OnePane$Reckoner", "liftOver", "(II)I"⟩) ∈ tables_1 ∧ (Cond.instanceMethod ⟨"OnePane$Reckoner", "liftOver", "(II)I"⟩) ∈ tables_1 ∧ (Cond.privateMethod ⟨"OnePane$Reckoner", "showTime", "()V"⟩) ∈ tables_1 ∧ (Cond.instanceMethod ⟨"OnePane$Reckoner", "showTime", "()V"⟩) ∈ tables_1 ∧ (Cond.privateMethod ⟨"OnePane$Reckoner", "showPerson", "(I)V"⟩) ∈ tables_1 ∧ (Cond.instanceMethod ⟨"OnePane$Reckoner", "showPerson", "(I)V"⟩) ∈ tables_1 ∧ (Cond.privateMethod ⟨"OnePane$Abacus", "farTo", "(I)I"⟩) ∈ tables_1 ∧ (Cond.instanceMethod ⟨"OnePane$Abacus", "farTo", "(I)I"⟩) ∈ tables_1 ∧ (Cond.privateMethod ⟨"OnePane", "balanceNow", "()I"⟩) ∈ tables_1 ∧ (Cond.instanceMethod ⟨"OnePane", "balanceNow", "()I"⟩) ∈ tables_1 ∧ (Cond.privateMethod ⟨"OnePane$Reckoner", "hasLoads", "()Z"⟩) ∈ tables_1 ∧ (Cond.instanceMethod ⟨"OnePane$Reckoner", "hasLoads", "()Z"⟩) ∈ tables_1 ∧ (Cond.privateMethod ⟨"OnePane$Reckoner", "measureLoads", "()V"⟩) ∈ tables_1 ∧ (Cond.instanceMethod ⟨"OnePane$Reckoner", "measureLoads", "()V"⟩) ∈ tables_1 ∧ (Cond.privateMethod ⟨"OnePane$Reckoner", "loadNeighbours", "(III)V"⟩) ∈ tables_1) ∧ ((Cond.instanceMethod ⟨"OnePane$Reckoner", "loadNeighbours", "(III)V"⟩) ∈ tables_1 ∧ (Cond.privateMethod ⟨"OnePane$Reckoner", "addLoad", "(III)V"⟩) ∈ tables_1 ∧ (Cond.instanceMethod ⟨"OnePane$Reckoner", "addLoad", "(III)V"⟩) ∈ tables_1 ∧ (Cond.privateMethod ⟨"OnePane$Reckoner", "measureLifted", "(I)V"⟩) ∈ tables_1 ∧ (Cond.instanceMethod ⟨"OnePane$Reckoner", "measureLifted", "(I)V"⟩) ∈ tables_1 ∧ (Cond.privateMethod ⟨"OnePane", "isAhead", "(III)Z"⟩) ∈ tables_1 ∧ (Cond.instanceMethod ⟨"OnePane", "isAhead", "(III)Z"⟩) ∈ tables_1 ∧ (Cond.privateMethod ⟨"OnePane", "lookAhead", "(I)V"⟩) ∈ tables_1 ∧ (Cond.instanceMethod ⟨"OnePane", "lookAhead", "(I)V"⟩) ∈ tables_1 ∧ (Cond.privateMethod ⟨"OnePane$Reckoner", "cracking", "()J"⟩) ∈ tables_1 ∧ (Cond.instanceMethod ⟨"OnePane$Reckoner", "cracking", "()J"⟩) ∈ tables_1 ∧ (Cond.privateMethod ⟨"OnePane$Reckoner", "tire", "(I)V"⟩) ∈ tables_1 ∧ (Cond.instanceMethod ⟨"OnePane$Reckoner", "tire", "(I)V"⟩) ∈ tables_1) := by
  have h : ∀ w ∈ tables_1_4, w ∈ tables_1 := fun w hm => List.mem_append_right _ (List.mem_append_right _ (List.mem_append_right _ (List.mem_append_left _ hm)))
  unfold tables_1_4 at h
  have e := List.forall_mem_cons.mp h
  have h0 := e.1
  replace h := e.2
  clear e
  have e := List.forall_mem_cons.mp h
  replace h := e.2
  clear e
  have e := List.forall_mem_cons.mp h
  replace h := e.2
  clear e
  have e := List.forall_mem_cons.mp h
  replace h := e.2
  clear e
  have e := List.forall_mem_cons.mp h
  replace h := e.2
  clear e
  have e := List.forall_mem_cons.mp h
  replace h := e.2
  clear e
  have e := List.forall_mem_cons.mp h
  replace h := e.2
  clear e
  have e := List.forall_mem_cons.mp h
  have h7 := e.1
  replace h := e.2
  clear e
  have e := List.forall_mem_cons.mp h
  have h8 := e.1
  replace h := e.2
  clear e
  have e := List.forall_mem_cons.mp h
  replace h := e.2
  clear e
  have e := List.forall_mem_cons.mp h
  replace h := e.2
  clear e
  have e := List.forall_mem_cons.mp h
  have h11 := e.1
  replace h := e.2
  clear e
  have e := List.forall_mem_cons.mp h
  have h12 := e.1
  replace h := e.2
  clear e
  have e := List.forall_mem_cons.mp h
  replace h := e.2
  clear e
  have e := List.forall_mem_cons.mp h
  replace h := e.2
  clear e
  have e := List.forall_mem_cons.mp h
  have h15 := e.1
  replace h := e.2
  clear e
  have e := List.forall_mem_cons.mp h
  have h16 := e.1
  replace h := e.2
  clear e
  have e := List.forall_mem_cons.mp h
  replace h := e.2
  clear e
  have e := List.forall_mem_cons.mp h
  replace h := e.2
  clear e
  have e := List.forall_mem_cons.mp h
  have h19 := e.1
  replace h := e.2
  clear e
  have e := List.forall_mem_cons.mp h
  have h20 := e.1
  replace h := e.2
  clear e
  have e := List.forall_mem_cons.mp h
  replace h := e.2
  clear e
  have e := List.forall_mem_cons.mp h
  replace h := e.2
  clear e
  have e := List.forall_mem_cons.mp h
  replace h := e.2
  clear e
  have e := List.forall_mem_cons.mp h
  have h24 := e.1
  replace h := e.2
  clear e
  have e := List.forall_mem_cons.mp h
  have h25 := e.1
  replace h := e.2
  clear e
  have e := List.forall_mem_cons.mp h
  replace h := e.2
  clear e
  have e := List.forall_mem_cons.mp h
  replace h := e.2
  clear e
  have e := List.forall_mem_cons.mp h
  replace h := e.2
  clear e
  have e := List.forall_mem_cons.mp h
  replace h := e.2
  clear e
  have e := List.forall_mem_cons.mp h
  replace h := e.2
  clear e
  have e := List.forall_mem_cons.mp h
  replace h := e.2
  clear e
  have e := List.forall_mem_cons.mp h
  replace h := e.2
  clear e
  have e := List.forall_mem_cons.mp h
  replace h := e.2
  clear e
  have e := List.forall_mem_cons.mp h
  replace h := e.2
  clear e
  have e := List.forall_mem_cons.mp h
  replace h := e.2
  clear e
  have e := List.forall_mem_cons.mp h
  replace h := e.2
  clear e
  have e := List.forall_mem_cons.mp h
  replace h := e.2
  clear e
  have e := List.forall_mem_cons.mp h
  replace h := e.2
  clear e
  have e := List.forall_mem_cons.mp h
  replace h := e.2
  clear e
  have e := List.forall_mem_cons.mp h
  replace h := e.2
  clear e
  have e := List.forall_mem_cons.mp h
  replace h := e.2
  clear e
  have e := List.forall_mem_cons.mp h
  replace h := e.2
  clear e
  have e := List.forall_mem_cons.mp h
  replace h := e.2
  clear e
  have e := List.forall_mem_cons.mp h
  replace h := e.2
  clear e
  have e := List.forall_mem_cons.mp h
  replace h := e.2
  clear e
  have e := List.forall_mem_cons.mp h
  have h46 := e.1
  replace h := e.2
  clear e
  have e := List.forall_mem_cons.mp h
  have h47 := e.1
  replace h := e.2
  clear e
  have e := List.forall_mem_cons.mp h
  replace h := e.2
  clear e
  have e := List.forall_mem_cons.mp h
  replace h := e.2
  clear e
  have e := List.forall_mem_cons.mp h
  replace h := e.2
  clear e
  have e := List.forall_mem_cons.mp h
  replace h := e.2
  clear e
  have e := List.forall_mem_cons.mp h
  replace h := e.2
  clear e
  have e := List.forall_mem_cons.mp h
  replace h := e.2
  clear e
  have e := List.forall_mem_cons.mp h
  have h54 := e.1
  replace h := e.2
  clear e
  have e := List.forall_mem_cons.mp h
  have h55 := e.1
  replace h := e.2
  clear e
  have e := List.forall_mem_cons.mp h
  replace h := e.2
  clear e
  have e := List.forall_mem_cons.mp h
  replace h := e.2
  clear e
  have e := List.forall_mem_cons.mp h
  replace h := e.2
  clear e
  have e := List.forall_mem_cons.mp h
  replace h := e.2
  clear e
  have e := List.forall_mem_cons.mp h
  replace h := e.2
  clear e
  have e := List.forall_mem_cons.mp h
  replace h := e.2
  clear e
  have e := List.forall_mem_cons.mp h
  replace h := e.2
  clear e
  have e := List.forall_mem_cons.mp h
  replace h := e.2
  clear e
  have e := List.forall_mem_cons.mp h
  replace h := e.2
  clear e
  have e := List.forall_mem_cons.mp h
  have h65 := e.1
  replace h := e.2
  clear e
  have e := List.forall_mem_cons.mp h
  have h66 := e.1
  replace h := e.2
  clear e
  have e := List.forall_mem_cons.mp h
  replace h := e.2
  clear e
  have e := List.forall_mem_cons.mp h
  replace h := e.2
  clear e
  have e := List.forall_mem_cons.mp h
  replace h := e.2
  clear e
  have e := List.forall_mem_cons.mp h
  have h70 := e.1
  replace h := e.2
  clear e
  have e := List.forall_mem_cons.mp h
  have h71 := e.1
  replace h := e.2
  clear e
  have e := List.forall_mem_cons.mp h
  replace h := e.2
  clear e
  have e := List.forall_mem_cons.mp h
  replace h := e.2
  clear e
  have e := List.forall_mem_cons.mp h
  replace h := e.2
  clear e
  have e := List.forall_mem_cons.mp h
  replace h := e.2
  clear e
  have e := List.forall_mem_cons.mp h
  replace h := e.2
  clear e
  have e := List.forall_mem_cons.mp h
  replace h := e.2
  clear e
  have e := List.forall_mem_cons.mp h
  replace h := e.2
  clear e
  have e := List.forall_mem_cons.mp h
  replace h := e.2
  clear e
  have e := List.forall_mem_cons.mp h
  replace h := e.2
  clear e
  have e := List.forall_mem_cons.mp h
  have h81 := e.1
  replace h := e.2
  clear e
  have e := List.forall_mem_cons.mp h
  have h82 := e.1
  replace h := e.2
  clear e
  have e := List.forall_mem_cons.mp h
  replace h := e.2
  clear e
  have e := List.forall_mem_cons.mp h
  replace h := e.2
  clear e
  have e := List.forall_mem_cons.mp h
  replace h := e.2
  clear e
  have e := List.forall_mem_cons.mp h
  have h86 := e.1
  replace h := e.2
  clear e
  have e := List.forall_mem_cons.mp h
  have h87 := e.1
  replace h := e.2
  clear e
  have e := List.forall_mem_cons.mp h
  replace h := e.2
  clear e
  have e := List.forall_mem_cons.mp h
  replace h := e.2
  clear e
  have e := List.forall_mem_cons.mp h
  replace h := e.2
  clear e
  have e := List.forall_mem_cons.mp h
  replace h := e.2
  clear e
  have e := List.forall_mem_cons.mp h
  replace h := e.2
  clear e
  have e := List.forall_mem_cons.mp h
  replace h := e.2
  clear e
  have e := List.forall_mem_cons.mp h
  replace h := e.2
  clear e
  have e := List.forall_mem_cons.mp h
  replace h := e.2
  clear e
  have e := List.forall_mem_cons.mp h
  replace h := e.2
  clear e
  have e := List.forall_mem_cons.mp h
  replace h := e.2
  clear e
  have e := List.forall_mem_cons.mp h
  replace h := e.2
  clear e
  have e := List.forall_mem_cons.mp h
  replace h := e.2
  clear e
  have e := List.forall_mem_cons.mp h
  replace h := e.2
  clear e
  have e := List.forall_mem_cons.mp h
  replace h := e.2
  clear e
  have e := List.forall_mem_cons.mp h
  replace h := e.2
  clear e
  have e := List.forall_mem_cons.mp h
  replace h := e.2
  clear e
  have e := List.forall_mem_cons.mp h
  replace h := e.2
  clear e
  have e := List.forall_mem_cons.mp h
  replace h := e.2
  clear e
  have e := List.forall_mem_cons.mp h
  replace h := e.2
  clear e
  have e := List.forall_mem_cons.mp h
  replace h := e.2
  clear e
  have e := List.forall_mem_cons.mp h
  replace h := e.2
  clear e
  have e := List.forall_mem_cons.mp h
  replace h := e.2
  clear e
  have e := List.forall_mem_cons.mp h
  replace h := e.2
  clear e
  have e := List.forall_mem_cons.mp h
  replace h := e.2
  clear e
  have e := List.forall_mem_cons.mp h
  replace h := e.2
  clear e
  have e := List.forall_mem_cons.mp h
  replace h := e.2
  clear e
  have e := List.forall_mem_cons.mp h
  have h114 := e.1
  replace h := e.2
  clear e
  have e := List.forall_mem_cons.mp h
  have h115 := e.1
  replace h := e.2
  clear e
  have e := List.forall_mem_cons.mp h
  replace h := e.2
  clear e
  have e := List.forall_mem_cons.mp h
  replace h := e.2
  clear e
  have e := List.forall_mem_cons.mp h
  replace h := e.2
  clear e
  have e := List.forall_mem_cons.mp h
  replace h := e.2
  clear e
  have e := List.forall_mem_cons.mp h
  replace h := e.2
  clear e
  have e := List.forall_mem_cons.mp h
  replace h := e.2
  clear e
  have e := List.forall_mem_cons.mp h
  replace h := e.2
  clear e
  have e := List.forall_mem_cons.mp h
  replace h := e.2
  clear e
  have e := List.forall_mem_cons.mp h
  replace h := e.2
  clear e
  have e := List.forall_mem_cons.mp h
  replace h := e.2
  clear e
  have e := List.forall_mem_cons.mp h
  replace h := e.2
  clear e
  have e := List.forall_mem_cons.mp h
  replace h := e.2
  clear e
  have e := List.forall_mem_cons.mp h
  replace h := e.2
  clear e
  have e := List.forall_mem_cons.mp h
  replace h := e.2
  clear e
  have e := List.forall_mem_cons.mp h
  replace h := e.2
  clear e
  have e := List.forall_mem_cons.mp h
  replace h := e.2
  clear e
  have e := List.forall_mem_cons.mp h
  replace h := e.2
  clear e
  have e := List.forall_mem_cons.mp h
  replace h := e.2
  clear e
  have e := List.forall_mem_cons.mp h
  replace h := e.2
  clear e
  have e := List.forall_mem_cons.mp h
  replace h := e.2
  clear e
  have e := List.forall_mem_cons.mp h
  replace h := e.2
  clear e
  have e := List.forall_mem_cons.mp h
  replace h := e.2
  clear e
  have e := List.forall_mem_cons.mp h
  replace h := e.2
  clear e
  have e := List.forall_mem_cons.mp h
  replace h := e.2
  clear e
  have e := List.forall_mem_cons.mp h
  replace h := e.2
  clear e
  have e := List.forall_mem_cons.mp h
  replace h := e.2
  clear e
  have e := List.forall_mem_cons.mp h
  replace h := e.2
  clear e
  have e := List.forall_mem_cons.mp h
  replace h := e.2
  clear e
  have e := List.forall_mem_cons.mp h
  replace h := e.2
  clear e
  have e := List.forall_mem_cons.mp h
  replace h := e.2
  clear e
  have e := List.forall_mem_cons.mp h
  have h146 := e.1
  replace h := e.2
  clear e
  have e := List.forall_mem_cons.mp h
  have h147 := e.1
  replace h := e.2
  clear e
  have e := List.forall_mem_cons.mp h
  replace h := e.2
  clear e
  have e := List.forall_mem_cons.mp h
  replace h := e.2
  clear e
  have e := List.forall_mem_cons.mp h
  replace h := e.2
  clear e
  have e := List.forall_mem_cons.mp h
  replace h := e.2
  clear e
  have e := List.forall_mem_cons.mp h
  replace h := e.2
  clear e
  have e := List.forall_mem_cons.mp h
  replace h := e.2
  clear e
  have e := List.forall_mem_cons.mp h
  have h154 := e.1
  replace h := e.2
  clear e
  have e := List.forall_mem_cons.mp h
  have h155 := e.1
  replace h := e.2
  clear e
  have e := List.forall_mem_cons.mp h
  replace h := e.2
  clear e
  have e := List.forall_mem_cons.mp h
  replace h := e.2
  clear e
  have e := List.forall_mem_cons.mp h
  have h158 := e.1
  replace h := e.2
  clear e
  have e := List.forall_mem_cons.mp h
  have h159 := e.1
  replace h := e.2
  clear e
  have e := List.forall_mem_cons.mp h
  replace h := e.2
  clear e
  have e := List.forall_mem_cons.mp h
  replace h := e.2
  clear e
  have e := List.forall_mem_cons.mp h
  replace h := e.2
  clear e
  have e := List.forall_mem_cons.mp h
  replace h := e.2
  clear e
  have e := List.forall_mem_cons.mp h
  replace h := e.2
  clear e
  have e := List.forall_mem_cons.mp h
  replace h := e.2
  clear e
  have e := List.forall_mem_cons.mp h
  replace h := e.2
  clear e
  have e := List.forall_mem_cons.mp h
  have h167 := e.1
  replace h := e.2
  clear e
  have e := List.forall_mem_cons.mp h
  have h168 := e.1
  replace h := e.2
  clear e
  have e := List.forall_mem_cons.mp h
  replace h := e.2
  clear e
  have e := List.forall_mem_cons.mp h
  replace h := e.2
  clear e
  have e := List.forall_mem_cons.mp h
  replace h := e.2
  clear e
  have e := List.forall_mem_cons.mp h
  have h172 := e.1
  replace h := e.2
  clear e
  have e := List.forall_mem_cons.mp h
  have h173 := e.1
  replace h := e.2
  clear e
  have e := List.forall_mem_cons.mp h
  replace h := e.2
  clear e
  have e := List.forall_mem_cons.mp h
  replace h := e.2
  clear e
  have e := List.forall_mem_cons.mp h
  replace h := e.2
  clear e
  have e := List.forall_mem_cons.mp h
  have h177 := e.1
  replace h := e.2
  clear e
  have e := List.forall_mem_cons.mp h
  have h178 := e.1
  replace h := e.2
  clear e
  have e := List.forall_mem_cons.mp h
  replace h := e.2
  clear e
  have e := List.forall_mem_cons.mp h
  replace h := e.2
  clear e
  have e := List.forall_mem_cons.mp h
  replace h := e.2
  clear e
  have e := List.forall_mem_cons.mp h
  replace h := e.2
  clear e
  have e := List.forall_mem_cons.mp h
  replace h := e.2
  clear e
  have e := List.forall_mem_cons.mp h
  replace h := e.2
  clear e
  have e := List.forall_mem_cons.mp h
  replace h := e.2
  clear e
  have e := List.forall_mem_cons.mp h
  replace h := e.2
  clear e
  have e := List.forall_mem_cons.mp h
  replace h := e.2
  clear e
  have e := List.forall_mem_cons.mp h
  replace h := e.2
  clear e
  have e := List.forall_mem_cons.mp h
  replace h := e.2
  clear e
  have e := List.forall_mem_cons.mp h
  replace h := e.2
  clear e
  have e := List.forall_mem_cons.mp h
  replace h := e.2
  clear e
  have e := List.forall_mem_cons.mp h
  replace h := e.2
  clear e
  have e := List.forall_mem_cons.mp h
  replace h := e.2
  clear e
  have e := List.forall_mem_cons.mp h
  replace h := e.2
  clear e
  have e := List.forall_mem_cons.mp h
  replace h := e.2
  clear e
  have e := List.forall_mem_cons.mp h
  replace h := e.2
  clear e
  have e := List.forall_mem_cons.mp h
  replace h := e.2
  clear e
  have e := List.forall_mem_cons.mp h
  replace h := e.2
  clear e
  have e := List.forall_mem_cons.mp h
  replace h := e.2
  clear e
  have e := List.forall_mem_cons.mp h
  replace h := e.2
  clear e
  have e := List.forall_mem_cons.mp h
  replace h := e.2
  clear e
  have e := List.forall_mem_cons.mp h
  replace h := e.2
  clear e
  have e := List.forall_mem_cons.mp h
  replace h := e.2
  clear e
  have e := List.forall_mem_cons.mp h
  replace h := e.2
  clear e
  have e := List.forall_mem_cons.mp h
  replace h := e.2
  clear e
  have e := List.forall_mem_cons.mp h
  replace h := e.2
  clear e
  have e := List.forall_mem_cons.mp h
  have h207 := e.1
  replace h := e.2
  clear e
  have e := List.forall_mem_cons.mp h
  have h208 := e.1
  replace h := e.2
  clear e
  have e := List.forall_mem_cons.mp h
  replace h := e.2
  clear e
  have e := List.forall_mem_cons.mp h
  replace h := e.2
  clear e
  have e := List.forall_mem_cons.mp h
  replace h := e.2
  clear e
  have e := List.forall_mem_cons.mp h
  replace h := e.2
  clear e
  have e := List.forall_mem_cons.mp h
  replace h := e.2
  clear e
  have e := List.forall_mem_cons.mp h
  replace h := e.2
  clear e
  have e := List.forall_mem_cons.mp h
  have h215 := e.1
  replace h := e.2
  clear e
  have e := List.forall_mem_cons.mp h
  have h216 := e.1
  replace h := e.2
  clear e
  have e := List.forall_mem_cons.mp h
  replace h := e.2
  clear e
  have e := List.forall_mem_cons.mp h
  replace h := e.2
  clear e
  have e := List.forall_mem_cons.mp h
  replace h := e.2
  clear e
  have e := List.forall_mem_cons.mp h
  replace h := e.2
  clear e
  have e := List.forall_mem_cons.mp h
  replace h := e.2
  clear e
  have e := List.forall_mem_cons.mp h
  replace h := e.2
  clear e
  have e := List.forall_mem_cons.mp h
  replace h := e.2
  clear e
  have e := List.forall_mem_cons.mp h
  replace h := e.2
  clear e
  have e := List.forall_mem_cons.mp h
  replace h := e.2
  clear e
  have e := List.forall_mem_cons.mp h
  replace h := e.2
  clear e
  have e := List.forall_mem_cons.mp h
  replace h := e.2
  clear e
  have e := List.forall_mem_cons.mp h
  replace h := e.2
  clear e
  have e := List.forall_mem_cons.mp h
  have h229 := e.1
  replace h := e.2
  clear e
  have e := List.forall_mem_cons.mp h
  have h230 := e.1
  replace h := e.2
  clear e
  have e := List.forall_mem_cons.mp h
  replace h := e.2
  clear e
  have e := List.forall_mem_cons.mp h
  replace h := e.2
  clear e
  have e := List.forall_mem_cons.mp h
  have h233 := e.1
  replace h := e.2
  clear e
  have e := List.forall_mem_cons.mp h
  have h234 := e.1
  replace h := e.2
  clear e
  exact ⟨⟨h0, h7, h8, h11, h12, h15, h16, h19, h20, h24, h25, h46, h47, h54, h55, h65⟩, ⟨h66, h70, h71, h81, h82, h86, h87, h114, h115, h146, h147, h154, h155, h158, h159, h167⟩, ⟨h168, h172, h173, h177, h178, h207, h208, h215, h216, h229, h230, h233, h234⟩⟩
set_option maxRecDepth 100000 in
set_option maxHeartbeats 40000000 in
theorem lw_t5 : ((Cond.privateMethod ⟨"OnePane", "staysWhole", "(II)Z"⟩) ∈ tables_1 ∧ (Cond.instanceMethod ⟨"OnePane", "staysWhole", "(II)Z"⟩) ∈ tables_1 ∧ (Cond.privateMethod ⟨"OnePane$Reckoner", "isMissed", "(I)Z"⟩) ∈ tables_1 ∧ (Cond.instanceMethod ⟨"OnePane$Reckoner", "isMissed", "(I)Z"⟩) ∈ tables_1 ∧ (Cond.privateMethod ⟨"OnePane$Sets", "keepAwake", "(LOnePane$Reckoner;)V"⟩) ∈ tables_1 ∧ (Cond.instanceMethod ⟨"OnePane$Sets", "keepAwake", "(LOnePane$Reckoner;)V"⟩) ∈ tables_1 ∧ (Cond.privateMethod ⟨"OnePane$Sets", "measureLifted", "(LOnePane$Reckoner;I)V"⟩) ∈ tables_1 ∧ (Cond.instanceMethod ⟨"OnePane$Sets", "measureLifted", "(LOnePane$Reckoner;I)V"⟩) ∈ tables_1 ∧ (Cond.privateMethod ⟨"OnePane$Reckoner", "tryPlace", "(III)V"⟩) ∈ tables_1 ∧ (Cond.instanceMethod ⟨"OnePane$Reckoner", "tryPlace", "(III)V"⟩) ∈ tables_1 ∧ (Cond.privateMethod ⟨"OnePane", "tellFound", "(II)I"⟩) ∈ tables_1 ∧ (Cond.instanceMethod ⟨"OnePane", "tellFound", "(II)I"⟩) ∈ tables_1 ∧ (Cond.privateMethod ⟨"OnePane", "crackedWithMended", "(II)I"⟩) ∈ tables_1 ∧ (Cond.instanceMethod ⟨"OnePane", "crackedWithMended", "(II)I"⟩) ∈ tables_1 ∧ (Cond.privateMethod ⟨"OnePane$Sets", "mostAlike", "(LOnePane$Reckoner;I)I"⟩) ∈ tables_1 ∧ (Cond.instanceMethod ⟨"OnePane$Sets", "mostAlike", "(LOnePane$Reckoner;I)I"⟩) ∈ tables_1) ∧ ((Cond.privateMethod ⟨"OnePane$Town", "keepOne", "(I)V"⟩) ∈ tables_1 ∧ (Cond.instanceMethod ⟨"OnePane$Town", "keepOne", "(I)V"⟩) ∈ tables_1 ∧ (Cond.privateMethod ⟨"OnePane", "draw", "(I)I"⟩) ∈ tables_1 ∧ (Cond.instanceMethod ⟨"OnePane", "draw", "(I)I"⟩) ∈ tables_1 ∧ (Cond.privateMethod ⟨"OnePane", "firstFor", "(I)I"⟩) ∈ tables_1 ∧ (Cond.instanceMethod ⟨"OnePane", "firstFor", "(I)I"⟩) ∈ tables_1 ∧ (Cond.privateMethod ⟨"OnePane", "answerOf", "(II)I"⟩) ∈ tables_1 ∧ (Cond.instanceMethod ⟨"OnePane", "answerOf", "(II)I"⟩) ∈ tables_1 ∧ (Cond.privateMethod ⟨"OnePane", "lastFor", "(I)I"⟩) ∈ tables_1 ∧ (Cond.instanceMethod ⟨"OnePane", "lastFor", "(I)I"⟩) ∈ tables_1 ∧ (Cond.privateMethod ⟨"OnePane", "howOften", "(I)I"⟩) ∈ tables_1 ∧ (Cond.instanceMethod ⟨"OnePane", "howOften", "(I)I"⟩) ∈ tables_1 ∧ (Cond.privateMethod ⟨"OnePane", "total", "(I)J"⟩) ∈ tables_1 ∧ (Cond.instanceMethod ⟨"OnePane", "total", "(I)J"⟩) ∈ tables_1 ∧ (Cond.privateMethod ⟨"OnePane", "most", "(I)I"⟩) ∈ tables_1 ∧ (Cond.instanceMethod ⟨"OnePane", "most", "(I)I"⟩) ∈ tables_1) := by
  have h : ∀ w ∈ tables_1_5, w ∈ tables_1 := fun w hm => List.mem_append_right _ (List.mem_append_right _ (List.mem_append_right _ (List.mem_append_right _ (List.mem_append_left _ hm))))
  unfold tables_1_5 at h
  have e := List.forall_mem_cons.mp h
  replace h := e.2
  clear e
  have e := List.forall_mem_cons.mp h
  replace h := e.2
  clear e
  have e := List.forall_mem_cons.mp h
  replace h := e.2
  clear e
  have e := List.forall_mem_cons.mp h
  replace h := e.2
  clear e
  have e := List.forall_mem_cons.mp h
  replace h := e.2
  clear e
  have e := List.forall_mem_cons.mp h
  replace h := e.2
  clear e
  have e := List.forall_mem_cons.mp h
  replace h := e.2
  clear e
  have e := List.forall_mem_cons.mp h
  replace h := e.2
  clear e
  have e := List.forall_mem_cons.mp h
  replace h := e.2
  clear e
  have e := List.forall_mem_cons.mp h
  replace h := e.2
  clear e
  have e := List.forall_mem_cons.mp h
  have h10 := e.1
  replace h := e.2
  clear e
  have e := List.forall_mem_cons.mp h
  have h11 := e.1
  replace h := e.2
  clear e
  have e := List.forall_mem_cons.mp h
  replace h := e.2
  clear e
  have e := List.forall_mem_cons.mp h
  replace h := e.2
  clear e
  have e := List.forall_mem_cons.mp h
  replace h := e.2
  clear e
  have e := List.forall_mem_cons.mp h
  replace h := e.2
  clear e
  have e := List.forall_mem_cons.mp h
  replace h := e.2
  clear e
  have e := List.forall_mem_cons.mp h
  replace h := e.2
  clear e
  have e := List.forall_mem_cons.mp h
  replace h := e.2
  clear e
  have e := List.forall_mem_cons.mp h
  replace h := e.2
  clear e
  have e := List.forall_mem_cons.mp h
  replace h := e.2
  clear e
  have e := List.forall_mem_cons.mp h
  replace h := e.2
  clear e
  have e := List.forall_mem_cons.mp h
  have h22 := e.1
  replace h := e.2
  clear e
  have e := List.forall_mem_cons.mp h
  have h23 := e.1
  replace h := e.2
  clear e
  have e := List.forall_mem_cons.mp h
  replace h := e.2
  clear e
  have e := List.forall_mem_cons.mp h
  replace h := e.2
  clear e
  have e := List.forall_mem_cons.mp h
  replace h := e.2
  clear e
  have e := List.forall_mem_cons.mp h
  replace h := e.2
  clear e
  have e := List.forall_mem_cons.mp h
  replace h := e.2
  clear e
  have e := List.forall_mem_cons.mp h
  replace h := e.2
  clear e
  have e := List.forall_mem_cons.mp h
  replace h := e.2
  clear e
  have e := List.forall_mem_cons.mp h
  replace h := e.2
  clear e
  have e := List.forall_mem_cons.mp h
  replace h := e.2
  clear e
  have e := List.forall_mem_cons.mp h
  replace h := e.2
  clear e
  have e := List.forall_mem_cons.mp h
  have h34 := e.1
  replace h := e.2
  clear e
  have e := List.forall_mem_cons.mp h
  have h35 := e.1
  replace h := e.2
  clear e
  have e := List.forall_mem_cons.mp h
  replace h := e.2
  clear e
  have e := List.forall_mem_cons.mp h
  replace h := e.2
  clear e
  have e := List.forall_mem_cons.mp h
  replace h := e.2
  clear e
  have e := List.forall_mem_cons.mp h
  replace h := e.2
  clear e
  have e := List.forall_mem_cons.mp h
  replace h := e.2
  clear e
  have e := List.forall_mem_cons.mp h
  have h41 := e.1
  replace h := e.2
  clear e
  have e := List.forall_mem_cons.mp h
  have h42 := e.1
  replace h := e.2
  clear e
  have e := List.forall_mem_cons.mp h
  replace h := e.2
  clear e
  have e := List.forall_mem_cons.mp h
  replace h := e.2
  clear e
  have e := List.forall_mem_cons.mp h
  replace h := e.2
  clear e
  have e := List.forall_mem_cons.mp h
  replace h := e.2
  clear e
  have e := List.forall_mem_cons.mp h
  replace h := e.2
  clear e
  have e := List.forall_mem_cons.mp h
  replace h := e.2
  clear e
  have e := List.forall_mem_cons.mp h
  replace h := e.2
  clear e
  have e := List.forall_mem_cons.mp h
  replace h := e.2
  clear e
  have e := List.forall_mem_cons.mp h
  replace h := e.2
  clear e
  have e := List.forall_mem_cons.mp h
  replace h := e.2
  clear e
  have e := List.forall_mem_cons.mp h
  replace h := e.2
  clear e
  have e := List.forall_mem_cons.mp h
  replace h := e.2
  clear e
  have e := List.forall_mem_cons.mp h
  have h55 := e.1
  replace h := e.2
  clear e
  have e := List.forall_mem_cons.mp h
  have h56 := e.1
  replace h := e.2
  clear e
  have e := List.forall_mem_cons.mp h
  replace h := e.2
  clear e
  have e := List.forall_mem_cons.mp h
  replace h := e.2
  clear e
  have e := List.forall_mem_cons.mp h
  replace h := e.2
  clear e
  have e := List.forall_mem_cons.mp h
  replace h := e.2
  clear e
  have e := List.forall_mem_cons.mp h
  replace h := e.2
  clear e
  have e := List.forall_mem_cons.mp h
  replace h := e.2
  clear e
  have e := List.forall_mem_cons.mp h
  replace h := e.2
  clear e
  have e := List.forall_mem_cons.mp h
  have h64 := e.1
  replace h := e.2
  clear e
  have e := List.forall_mem_cons.mp h
  have h65 := e.1
  replace h := e.2
  clear e
  have e := List.forall_mem_cons.mp h
  replace h := e.2
  clear e
  have e := List.forall_mem_cons.mp h
  replace h := e.2
  clear e
  have e := List.forall_mem_cons.mp h
  replace h := e.2
  clear e
  have e := List.forall_mem_cons.mp h
  replace h := e.2
  clear e
  have e := List.forall_mem_cons.mp h
  replace h := e.2
  clear e
  have e := List.forall_mem_cons.mp h
  replace h := e.2
  clear e
  have e := List.forall_mem_cons.mp h
  replace h := e.2
  clear e
  have e := List.forall_mem_cons.mp h
  replace h := e.2
  clear e
  have e := List.forall_mem_cons.mp h
  replace h := e.2
  clear e
  have e := List.forall_mem_cons.mp h
  replace h := e.2
  clear e
  have e := List.forall_mem_cons.mp h
  replace h := e.2
  clear e
  have e := List.forall_mem_cons.mp h
  replace h := e.2
  clear e
  have e := List.forall_mem_cons.mp h
  replace h := e.2
  clear e
  have e := List.forall_mem_cons.mp h
  replace h := e.2
  clear e
  have e := List.forall_mem_cons.mp h
  replace h := e.2
  clear e
  have e := List.forall_mem_cons.mp h
  have h81 := e.1
  replace h := e.2
  clear e
  have e := List.forall_mem_cons.mp h
  have h82 := e.1
  replace h := e.2
  clear e
  have e := List.forall_mem_cons.mp h
  replace h := e.2
  clear e
  have e := List.forall_mem_cons.mp h
  replace h := e.2
  clear e
  have e := List.forall_mem_cons.mp h
  replace h := e.2
  clear e
  have e := List.forall_mem_cons.mp h
  replace h := e.2
  clear e
  have e := List.forall_mem_cons.mp h
  replace h := e.2
  clear e
  have e := List.forall_mem_cons.mp h
  replace h := e.2
  clear e
  have e := List.forall_mem_cons.mp h
  replace h := e.2
  clear e
  have e := List.forall_mem_cons.mp h
  replace h := e.2
  clear e
  have e := List.forall_mem_cons.mp h
  replace h := e.2
  clear e
  have e := List.forall_mem_cons.mp h
  replace h := e.2
  clear e
  have e := List.forall_mem_cons.mp h
  replace h := e.2
  clear e
  have e := List.forall_mem_cons.mp h
  replace h := e.2
  clear e
  have e := List.forall_mem_cons.mp h
  replace h := e.2
  clear e
  have e := List.forall_mem_cons.mp h
  replace h := e.2
  clear e
  have e := List.forall_mem_cons.mp h
  replace h := e.2
  clear e
  have e := List.forall_mem_cons.mp h
  replace h := e.2
  clear e
  have e := List.forall_mem_cons.mp h
  replace h := e.2
  clear e
  have e := List.forall_mem_cons.mp h
  replace h := e.2
  clear e
  have e := List.forall_mem_cons.mp h
  replace h := e.2
  clear e
  have e := List.forall_mem_cons.mp h
  replace h := e.2
  clear e
  have e := List.forall_mem_cons.mp h
  replace h := e.2
  clear e
  have e := List.forall_mem_cons.mp h
  replace h := e.2
  clear e
  have e := List.forall_mem_cons.mp h
  replace h := e.2
  clear e
  have e := List.forall_mem_cons.mp h
  replace h := e.2
  clear e
  have e := List.forall_mem_cons.mp h
  replace h := e.2
  clear e
  have e := List.forall_mem_cons.mp h
  replace h := e.2
  clear e
  have e := List.forall_mem_cons.mp h
  replace h := e.2
  clear e
  have e := List.forall_mem_cons.mp h
  replace h := e.2
  clear e
  have e := List.forall_mem_cons.mp h
  replace h := e.2
  clear e
  have e := List.forall_mem_cons.mp h
  replace h := e.2
  clear e
  have e := List.forall_mem_cons.mp h
  replace h := e.2
  clear e
  have e := List.forall_mem_cons.mp h
  replace h := e.2
  clear e
  have e := List.forall_mem_cons.mp h
  replace h := e.2
  clear e
  have e := List.forall_mem_cons.mp h
  replace h := e.2
  clear e
  have e := List.forall_mem_cons.mp h
  replace h := e.2
  clear e
  have e := List.forall_mem_cons.mp h
  replace h := e.2
  clear e
  have e := List.forall_mem_cons.mp h
  replace h := e.2
  clear e
  have e := List.forall_mem_cons.mp h
  replace h := e.2
  clear e
  have e := List.forall_mem_cons.mp h
  replace h := e.2
  clear e
  have e := List.forall_mem_cons.mp h
  replace h := e.2
  clear e
  have e := List.forall_mem_cons.mp h
  replace h := e.2
  clear e
  have e := List.forall_mem_cons.mp h
  replace h := e.2
  clear e
  have e := List.forall_mem_cons.mp h
  replace h := e.2
  clear e
  have e := List.forall_mem_cons.mp h
  replace h := e.2
  clear e
  have e := List.forall_mem_cons.mp h
  replace h := e.2
  clear e
  have e := List.forall_mem_cons.mp h
  replace h := e.2
  clear e
  have e := List.forall_mem_cons.mp h
  replace h := e.2
  clear e
  have e := List.forall_mem_cons.mp h
  replace h := e.2
  clear e
  have e := List.forall_mem_cons.mp h
  replace h := e.2
  clear e
  have e := List.forall_mem_cons.mp h
  have h132 := e.1
  replace h := e.2
  clear e
  have e := List.forall_mem_cons.mp h
  have h133 := e.1
  replace h := e.2
  clear e
  have e := List.forall_mem_cons.mp h
  replace h := e.2
  clear e
  have e := List.forall_mem_cons.mp h
  replace h := e.2
  clear e
  have e := List.forall_mem_cons.mp h
  replace h := e.2
  clear e
  have e := List.forall_mem_cons.mp h
  replace h := e.2
  clear e
  have e := List.forall_mem_cons.mp h
  replace h := e.2
  clear e
  have e := List.forall_mem_cons.mp h
  replace h := e.2
  clear e
  have e := List.forall_mem_cons.mp h
  replace h := e.2
  clear e
  have e := List.forall_mem_cons.mp h
  replace h := e.2
  clear e
  have e := List.forall_mem_cons.mp h
  replace h := e.2
  clear e
  have e := List.forall_mem_cons.mp h
  replace h := e.2
  clear e
  have e := List.forall_mem_cons.mp h
  replace h := e.2
  clear e
  have e := List.forall_mem_cons.mp h
  replace h := e.2
  clear e
  have e := List.forall_mem_cons.mp h
  replace h := e.2
  clear e
  have e := List.forall_mem_cons.mp h
  replace h := e.2
  clear e
  have e := List.forall_mem_cons.mp h
  replace h := e.2
  clear e
  have e := List.forall_mem_cons.mp h
  replace h := e.2
  clear e
  have e := List.forall_mem_cons.mp h
  replace h := e.2
  clear e
  have e := List.forall_mem_cons.mp h
  replace h := e.2
  clear e
  have e := List.forall_mem_cons.mp h
  replace h := e.2
  clear e
  have e := List.forall_mem_cons.mp h
  replace h := e.2
  clear e
  have e := List.forall_mem_cons.mp h
  replace h := e.2
  clear e
  have e := List.forall_mem_cons.mp h
  replace h := e.2
  clear e
  have e := List.forall_mem_cons.mp h
  replace h := e.2
  clear e
  have e := List.forall_mem_cons.mp h
  replace h := e.2
  clear e
  have e := List.forall_mem_cons.mp h
  replace h := e.2
  clear e
  have e := List.forall_mem_cons.mp h
  replace h := e.2
  clear e
  have e := List.forall_mem_cons.mp h
  replace h := e.2
  clear e
  have e := List.forall_mem_cons.mp h
  replace h := e.2
  clear e
  have e := List.forall_mem_cons.mp h
  replace h := e.2
  clear e
  have e := List.forall_mem_cons.mp h
  replace h := e.2
  clear e
  have e := List.forall_mem_cons.mp h
  replace h := e.2
  clear e
  have e := List.forall_mem_cons.mp h
  replace h := e.2
  clear e
  have e := List.forall_mem_cons.mp h
  replace h := e.2
  clear e
  have e := List.forall_mem_cons.mp h
  replace h := e.2
  clear e
  have e := List.forall_mem_cons.mp h
  replace h := e.2
  clear e
  have e := List.forall_mem_cons.mp h
  replace h := e.2
  clear e
  have e := List.forall_mem_cons.mp h
  replace h := e.2
  clear e
  have e := List.forall_mem_cons.mp h
  have h171 := e.1
  replace h := e.2
  clear e
  have e := List.forall_mem_cons.mp h
  have h172 := e.1
  replace h := e.2
  clear e
  have e := List.forall_mem_cons.mp h
  replace h := e.2
  clear e
  have e := List.forall_mem_cons.mp h
  replace h := e.2
  clear e
  have e := List.forall_mem_cons.mp h
  replace h := e.2
  clear e
  have e := List.forall_mem_cons.mp h
  replace h := e.2
  clear e
  have e := List.forall_mem_cons.mp h
  replace h := e.2
  clear e
  have e := List.forall_mem_cons.mp h
  replace h := e.2
  clear e
  have e := List.forall_mem_cons.mp h
  have h179 := e.1
  replace h := e.2
  clear e
  have e := List.forall_mem_cons.mp h
  have h180 := e.1
  replace h := e.2
  clear e
  have e := List.forall_mem_cons.mp h
  replace h := e.2
  clear e
  have e := List.forall_mem_cons.mp h
  replace h := e.2
  clear e
  have e := List.forall_mem_cons.mp h
  replace h := e.2
  clear e
  have e := List.forall_mem_cons.mp h
  replace h := e.2
  clear e
  have e := List.forall_mem_cons.mp h
  replace h := e.2
  clear e
  have e := List.forall_mem_cons.mp h
  replace h := e.2
  clear e
  have e := List.forall_mem_cons.mp h
  replace h := e.2
  clear e
  have e := List.forall_mem_cons.mp h
  replace h := e.2
  clear e
  have e := List.forall_mem_cons.mp h
  replace h := e.2
  clear e
  have e := List.forall_mem_cons.mp h
  replace h := e.2
  clear e
  have e := List.forall_mem_cons.mp h
  replace h := e.2
  clear e
  have e := List.forall_mem_cons.mp h
  replace h := e.2
  clear e
  have e := List.forall_mem_cons.mp h
  replace h := e.2
  clear e
  have e := List.forall_mem_cons.mp h
  replace h := e.2
  clear e
  have e := List.forall_mem_cons.mp h
  replace h := e.2
  clear e
  have e := List.forall_mem_cons.mp h
  replace h := e.2
  clear e
  have e := List.forall_mem_cons.mp h
  replace h := e.2
  clear e
  have e := List.forall_mem_cons.mp h
  replace h := e.2
  clear e
  have e := List.forall_mem_cons.mp h
  replace h := e.2
  clear e
  have e := List.forall_mem_cons.mp h
  replace h := e.2
  clear e
  have e := List.forall_mem_cons.mp h
  replace h := e.2
  clear e
  have e := List.forall_mem_cons.mp h
  replace h := e.2
  clear e
  have e := List.forall_mem_cons.mp h
  replace h := e.2
  clear e
  have e := List.forall_mem_cons.mp h
  replace h := e.2
  clear e
  have e := List.forall_mem_cons.mp h
  replace h := e.2
  clear e
  have e := List.forall_mem_cons.mp h
  replace h := e.2
  clear e
  have e := List.forall_mem_cons.mp h
  replace h := e.2
  clear e
  have e := List.forall_mem_cons.mp h
  replace h := e.2
  clear e
  have e := List.forall_mem_cons.mp h
  replace h := e.2
  clear e
  have e := List.forall_mem_cons.mp h
  have h210 := e.1
  replace h := e.2
  clear e
  have e := List.forall_mem_cons.mp h
  have h211 := e.1
  replace h := e.2
  clear e
  have e := List.forall_mem_cons.mp h
  replace h := e.2
  clear e
  have e := List.forall_mem_cons.mp h
  replace h := e.2
  clear e
  have e := List.forall_mem_cons.mp h
  have h214 := e.1
  replace h := e.2
  clear e
  have e := List.forall_mem_cons.mp h
  have h215 := e.1
  replace h := e.2
  clear e
  have e := List.forall_mem_cons.mp h
  replace h := e.2
  clear e
  have e := List.forall_mem_cons.mp h
  replace h := e.2
  clear e
  have e := List.forall_mem_cons.mp h
  replace h := e.2
  clear e
  have e := List.forall_mem_cons.mp h
  replace h := e.2
  clear e
  have e := List.forall_mem_cons.mp h
  replace h := e.2
  clear e
  have e := List.forall_mem_cons.mp h
  replace h := e.2
  clear e
  have e := List.forall_mem_cons.mp h
  replace h := e.2
  clear e
  have e := List.forall_mem_cons.mp h
  have h223 := e.1
  replace h := e.2
  clear e
  have e := List.forall_mem_cons.mp h
  have h224 := e.1
  replace h := e.2
  clear e
  have e := List.forall_mem_cons.mp h
  replace h := e.2
  clear e
  have e := List.forall_mem_cons.mp h
  replace h := e.2
  clear e
  have e := List.forall_mem_cons.mp h
  have h227 := e.1
  replace h := e.2
  clear e
  have e := List.forall_mem_cons.mp h
  have h228 := e.1
  replace h := e.2
  clear e
  have e := List.forall_mem_cons.mp h
  replace h := e.2
  clear e
  have e := List.forall_mem_cons.mp h
  replace h := e.2
  clear e
  have e := List.forall_mem_cons.mp h
  have h231 := e.1
  replace h := e.2
  clear e
  have e := List.forall_mem_cons.mp h
  have h232 := e.1
  replace h := e.2
  clear e
  have e := List.forall_mem_cons.mp h
  replace h := e.2
  clear e
  have e := List.forall_mem_cons.mp h
  replace h := e.2
  clear e
  have e := List.forall_mem_cons.mp h
  have h235 := e.1
  replace h := e.2
  clear e
  have e := List.forall_mem_cons.mp h
  have h236 := e.1
  replace h := e.2
  clear e
  exact ⟨⟨h10, h11, h22, h23, h34, h35, h41, h42, h55, h56, h64, h65, h81, h82, h132, h133⟩, ⟨h171, h172, h179, h180, h210, h211, h214, h215, h223, h224, h227, h228, h231, h232, h235, h236⟩⟩
set_option maxRecDepth 100000 in
set_option maxHeartbeats 40000000 in
theorem lw_t6 : ((Cond.privateMethod ⟨"OnePane", "least", "(I)I"⟩) ∈ tables_1 ∧ (Cond.instanceMethod ⟨"OnePane", "least", "(I)I"⟩) ∈ tables_1 ∧ (Cond.privateMethod ⟨"OnePane$Town", "readPerson", "(LOnePane$Plan;LOnePane$Tape;II)Z"⟩) ∈ tables_1 ∧ (Cond.instanceMethod ⟨"OnePane$Town", "readPerson", "(LOnePane$Plan;LOnePane$Tape;II)Z"⟩) ∈ tables_1 ∧ (Cond.instantiable "OnePaneModel" 108) ∈ tables_1) := by
  have h : ∀ w ∈ tables_1_6, w ∈ tables_1 := fun w hm => List.mem_append_right _ (List.mem_append_right _ (List.mem_append_right _ (List.mem_append_right _ (List.mem_append_right _ (List.mem_append_left _ hm)))))
  unfold tables_1_6 at h
  have e := List.forall_mem_cons.mp h
  have h0 := e.1
  replace h := e.2
  clear e
  have e := List.forall_mem_cons.mp h
  have h1 := e.1
  replace h := e.2
  clear e
  have e := List.forall_mem_cons.mp h
  replace h := e.2
  clear e
  have e := List.forall_mem_cons.mp h
  replace h := e.2
  clear e
  have e := List.forall_mem_cons.mp h
  replace h := e.2
  clear e
  have e := List.forall_mem_cons.mp h
  replace h := e.2
  clear e
  have e := List.forall_mem_cons.mp h
  replace h := e.2
  clear e
  have e := List.forall_mem_cons.mp h
  replace h := e.2
  clear e
  have e := List.forall_mem_cons.mp h
  replace h := e.2
  clear e
  have e := List.forall_mem_cons.mp h
  replace h := e.2
  clear e
  have e := List.forall_mem_cons.mp h
  replace h := e.2
  clear e
  have e := List.forall_mem_cons.mp h
  replace h := e.2
  clear e
  have e := List.forall_mem_cons.mp h
  replace h := e.2
  clear e
  have e := List.forall_mem_cons.mp h
  replace h := e.2
  clear e
  have e := List.forall_mem_cons.mp h
  replace h := e.2
  clear e
  have e := List.forall_mem_cons.mp h
  replace h := e.2
  clear e
  have e := List.forall_mem_cons.mp h
  replace h := e.2
  clear e
  have e := List.forall_mem_cons.mp h
  replace h := e.2
  clear e
  have e := List.forall_mem_cons.mp h
  replace h := e.2
  clear e
  have e := List.forall_mem_cons.mp h
  replace h := e.2
  clear e
  have e := List.forall_mem_cons.mp h
  replace h := e.2
  clear e
  have e := List.forall_mem_cons.mp h
  replace h := e.2
  clear e
  have e := List.forall_mem_cons.mp h
  replace h := e.2
  clear e
  have e := List.forall_mem_cons.mp h
  replace h := e.2
  clear e
  have e := List.forall_mem_cons.mp h
  replace h := e.2
  clear e
  have e := List.forall_mem_cons.mp h
  replace h := e.2
  clear e
  have e := List.forall_mem_cons.mp h
  replace h := e.2
  clear e
  have e := List.forall_mem_cons.mp h
  replace h := e.2
  clear e
  have e := List.forall_mem_cons.mp h
  replace h := e.2
  clear e
  have e := List.forall_mem_cons.mp h
  replace h := e.2
  clear e
  have e := List.forall_mem_cons.mp h
  have h30 := e.1
  replace h := e.2
  clear e
  have e := List.forall_mem_cons.mp h
  have h31 := e.1
  replace h := e.2
  clear e
  have e := List.forall_mem_cons.mp h
  replace h := e.2
  clear e
  have e := List.forall_mem_cons.mp h
  replace h := e.2
  clear e
  have e := List.forall_mem_cons.mp h
  replace h := e.2
  clear e
  have e := List.forall_mem_cons.mp h
  replace h := e.2
  clear e
  have e := List.forall_mem_cons.mp h
  replace h := e.2
  clear e
  have e := List.forall_mem_cons.mp h
  replace h := e.2
  clear e
  have e := List.forall_mem_cons.mp h
  replace h := e.2
  clear e
  have e := List.forall_mem_cons.mp h
  replace h := e.2
  clear e
  have e := List.forall_mem_cons.mp h
  have h40 := e.1
  replace h := e.2
  clear e
  exact ⟨h0, h1, h30, h31, h40⟩
set_option maxRecDepth 100000 in
set_option maxHeartbeats 40000000 in
theorem lw_t7 : ((Cond.privateMethod ⟨"OnePaneModel", "paneTold", "()V"⟩) ∈ tables_1 ∧ (Cond.instanceMethod ⟨"OnePaneModel", "paneTold", "()V"⟩) ∈ tables_1 ∧ (Cond.privateMethod ⟨"OnePaneModel", "asks", "([C)V"⟩) ∈ tables_1 ∧ (Cond.instanceMethod ⟨"OnePaneModel", "asks", "([C)V"⟩) ∈ tables_1 ∧ (Cond.privateMethod ⟨"OnePaneModel", "takes", "([C)Z"⟩) ∈ tables_1 ∧ (Cond.instanceMethod ⟨"OnePaneModel", "takes", "([C)Z"⟩) ∈ tables_1 ∧ (Cond.privateMethod ⟨"OnePaneModel", "isHere", "([C)Z"⟩) ∈ tables_1 ∧ (Cond.instanceMethod ⟨"OnePaneModel", "isHere", "([C)Z"⟩) ∈ tables_1 ∧ (Cond.privateMethod ⟨"OnePaneModel", "look", "()I"⟩) ∈ tables_1 ∧ (Cond.instanceMethod ⟨"OnePaneModel", "look", "()I"⟩) ∈ tables_1 ∧ (Cond.privateMethod ⟨"OnePaneModel", "fail", "(II)V"⟩) ∈ tables_1 ∧ (Cond.instanceMethod ⟨"OnePaneModel", "fail", "(II)V"⟩) ∈ tables_1 ∧ (Cond.privateMethod ⟨"OnePaneModel", "number", "(II)I"⟩) ∈ tables_1 ∧ (Cond.instanceMethod ⟨"OnePaneModel", "number", "(II)I"⟩) ∈ tables_1 ∧ (Cond.privateMethod ⟨"OnePaneModel", "asksSign", "(I)V"⟩) ∈ tables_1 ∧ (Cond.instanceMethod ⟨"OnePaneModel", "asksSign", "(I)V"⟩) ∈ tables_1) ∧ ((Cond.privateMethod ⟨"OnePaneModel", "takesSign", "(I)Z"⟩) ∈ tables_1 ∧ (Cond.instanceMethod ⟨"OnePaneModel", "takesSign", "(I)Z"⟩) ∈ tables_1 ∧ (Cond.privateMethod ⟨"OnePaneModel", "statementTold", "()V"⟩) ∈ tables_1 ∧ (Cond.instanceMethod ⟨"OnePaneModel", "statementTold", "()V"⟩) ∈ tables_1 ∧ (Cond.privateMethod ⟨"OnePaneModel", "heavyTold", "()V"⟩) ∈ tables_1 ∧ (Cond.instanceMethod ⟨"OnePaneModel", "heavyTold", "()V"⟩) ∈ tables_1 ∧ (Cond.privateMethod ⟨"OnePaneModel", "cellTold", "()I"⟩) ∈ tables_1 ∧ (Cond.instanceMethod ⟨"OnePaneModel", "cellTold", "()I"⟩) ∈ tables_1 ∧ (Cond.privateMethod ⟨"OnePaneModel", "poleTold", "(I)V"⟩) ∈ tables_1 ∧ (Cond.instanceMethod ⟨"OnePaneModel", "poleTold", "(I)V"⟩) ∈ tables_1 ∧ (Cond.privateMethod ⟨"OnePaneModel", "name", "()J"⟩) ∈ tables_1 ∧ (Cond.instanceMethod ⟨"OnePaneModel", "name", "()J"⟩) ∈ tables_1 ∧ (Cond.privateMethod ⟨"OnePaneModel", "isOwnHere", "()Z"⟩) ∈ tables_1 ∧ (Cond.instanceMethod ⟨"OnePaneModel", "isOwnHere", "()Z"⟩) ∈ tables_1 ∧ (Cond.privateMethod ⟨"OnePaneModel", "codesTold", "(II)V"⟩) ∈ tables_1 ∧ (Cond.instanceMethod ⟨"OnePaneModel", "codesTold", "(II)V"⟩) ∈ tables_1) ∧ ((Cond.privateMethod ⟨"OnePaneModel", "qTest", "()V"⟩) ∈ tables_1 ∧ (Cond.instanceMethod ⟨"OnePaneModel", "qTest", "()V"⟩) ∈ tables_1 ∧ (Cond.privateMethod ⟨"OnePaneModel", "qOpens", "(II)V"⟩) ∈ tables_1 ∧ (Cond.instanceMethod ⟨"OnePaneModel", "qOpens", "(II)V"⟩) ∈ tables_1 ∧ (Cond.privateMethod ⟨"OnePaneModel", "qFact", "()V"⟩) ∈ tables_1 ∧ (Cond.instanceMethod ⟨"OnePaneModel", "qFact", "()V"⟩) ∈ tables_1 ∧ (Cond.privateMethod ⟨"OnePaneModel", "qCode", "(I)V"⟩) ∈ tables_1 ∧ (Cond.instanceMethod ⟨"OnePaneModel", "qCode", "(I)V"⟩) ∈ tables_1 ∧ (Cond.privateMethod ⟨"OnePaneModel", "qSums", "()V"⟩) ∈ tables_1 ∧ (Cond.instanceMethod ⟨"OnePaneModel", "qSums", "()V"⟩) ∈ tables_1) := by
  have h : ∀ w ∈ tables_1_7, w ∈ tables_1 := fun w hm => List.mem_append_right _ (List.mem_append_right _ (List.mem_append_right _ (List.mem_append_right _ (List.mem_append_right _ (List.mem_append_right _ (List.mem_append_left _ hm))))))
  unfold tables_1_7 at h
  have e := List.forall_mem_cons.mp h
  replace h := e.2
  clear e
  have e := List.forall_mem_cons.mp h
  replace h := e.2
  clear e
  have e := List.forall_mem_cons.mp h
  replace h := e.2
  clear e
  have e := List.forall_mem_cons.mp h
  replace h := e.2
  clear e
  have e := List.forall_mem_cons.mp h
  replace h := e.2
  clear e
  have e := List.forall_mem_cons.mp h
  replace h := e.2
  clear e
  have e := List.forall_mem_cons.mp h
  replace h := e.2
  clear e
  have e := List.forall_mem_cons.mp h
  replace h := e.2
  clear e
  have e := List.forall_mem_cons.mp h
  replace h := e.2
  clear e
  have e := List.forall_mem_cons.mp h
  replace h := e.2
  clear e
  have e := List.forall_mem_cons.mp h
  replace h := e.2
  clear e
  have e := List.forall_mem_cons.mp h
  replace h := e.2
  clear e
  have e := List.forall_mem_cons.mp h
  replace h := e.2
  clear e
  have e := List.forall_mem_cons.mp h
  replace h := e.2
  clear e
  have e := List.forall_mem_cons.mp h
  replace h := e.2
  clear e
  have e := List.forall_mem_cons.mp h
  replace h := e.2
  clear e
  have e := List.forall_mem_cons.mp h
  replace h := e.2
  clear e
  have e := List.forall_mem_cons.mp h
  replace h := e.2
  clear e
  have e := List.forall_mem_cons.mp h
  replace h := e.2
  clear e
  have e := List.forall_mem_cons.mp h
  replace h := e.2
  clear e
  have e := List.forall_mem_cons.mp h
  replace h := e.2
  clear e
  have e := List.forall_mem_cons.mp h
  replace h := e.2
  clear e
  have e := List.forall_mem_cons.mp h
  replace h := e.2
  clear e
  have e := List.forall_mem_cons.mp h
  replace h := e.2
  clear e
  have e := List.forall_mem_cons.mp h
  replace h := e.2
  clear e
  have e := List.forall_mem_cons.mp h
  replace h := e.2
  clear e
  have e := List.forall_mem_cons.mp h
  replace h := e.2
  clear e
  have e := List.forall_mem_cons.mp h
  replace h := e.2
  clear e
  have e := List.forall_mem_cons.mp h
  replace h := e.2
  clear e
  have e := List.forall_mem_cons.mp h
  replace h := e.2
  clear e
  have e := List.forall_mem_cons.mp h
  replace h := e.2
  clear e
  have e := List.forall_mem_cons.mp h
  replace h := e.2
  clear e
  have e := List.forall_mem_cons.mp h
  replace h := e.2
  clear e
  have e := List.forall_mem_cons.mp h
  replace h := e.2
  clear e
  have e := List.forall_mem_cons.mp h
  replace h := e.2
  clear e
  have e := List.forall_mem_cons.mp h
  replace h := e.2
  clear e
  have e := List.forall_mem_cons.mp h
  replace h := e.2
  clear e
  have e := List.forall_mem_cons.mp h
  replace h := e.2
  clear e
  have e := List.forall_mem_cons.mp h
  replace h := e.2
  clear e
  have e := List.forall_mem_cons.mp h
  replace h := e.2
  clear e
  have e := List.forall_mem_cons.mp h
  replace h := e.2
  clear e
  have e := List.forall_mem_cons.mp h
  replace h := e.2
  clear e
  have e := List.forall_mem_cons.mp h
  replace h := e.2
  clear e
  have e := List.forall_mem_cons.mp h
  replace h := e.2
  clear e
  have e := List.forall_mem_cons.mp h
  replace h := e.2
  clear e
  have e := List.forall_mem_cons.mp h
  replace h := e.2
  clear e
  have e := List.forall_mem_cons.mp h
  replace h := e.2
  clear e
  have e := List.forall_mem_cons.mp h
  replace h := e.2
  clear e
  have e := List.forall_mem_cons.mp h
  replace h := e.2
  clear e
  have e := List.forall_mem_cons.mp h
  replace h := e.2
  clear e
  have e := List.forall_mem_cons.mp h
  replace h := e.2
  clear e
  have e := List.forall_mem_cons.mp h
  replace h := e.2
  clear e
  have e := List.forall_mem_cons.mp h
  replace h := e.2
  clear e
  have e := List.forall_mem_cons.mp h
  replace h := e.2
  clear e
  have e := List.forall_mem_cons.mp h
  replace h := e.2
  clear e
  have e := List.forall_mem_cons.mp h
  replace h := e.2
  clear e
  have e := List.forall_mem_cons.mp h
  replace h := e.2
  clear e
  have e := List.forall_mem_cons.mp h
  replace h := e.2
  clear e
  have e := List.forall_mem_cons.mp h
  replace h := e.2
  clear e
  have e := List.forall_mem_cons.mp h
  replace h := e.2
  clear e
  have e := List.forall_mem_cons.mp h
  replace h := e.2
  clear e
  have e := List.forall_mem_cons.mp h
  replace h := e.2
  clear e
  have e := List.forall_mem_cons.mp h
  replace h := e.2
  clear e
  have e := List.forall_mem_cons.mp h
  replace h := e.2
  clear e
  have e := List.forall_mem_cons.mp h
  replace h := e.2
  clear e
  have e := List.forall_mem_cons.mp h
  replace h := e.2
  clear e
  have e := List.forall_mem_cons.mp h
  replace h := e.2
  clear e
  have e := List.forall_mem_cons.mp h
  replace h := e.2
  clear e
  have e := List.forall_mem_cons.mp h
  replace h := e.2
  clear e
  have e := List.forall_mem_cons.mp h
  replace h := e.2
  clear e
  have e := List.forall_mem_cons.mp h
  replace h := e.2
  clear e
  have e := List.forall_mem_cons.mp h
  replace h := e.2
  clear e
  have e := List.forall_mem_cons.mp h
  replace h := e.2
  clear e
  have e := List.forall_mem_cons.mp h
  replace h := e.2
  clear e
  have e := List.forall_mem_cons.mp h
  replace h := e.2
  clear e
  have e := List.forall_mem_cons.mp h
  replace h := e.2
  clear e
  have e := List.forall_mem_cons.mp h
  replace h := e.2
  clear e
  have e := List.forall_mem_cons.mp h
  replace h := e.2
  clear e
  have e := List.forall_mem_cons.mp h
  replace h := e.2
  clear e
  have e := List.forall_mem_cons.mp h
  replace h := e.2
  clear e
  have e := List.forall_mem_cons.mp h
  replace h := e.2
  clear e
  have e := List.forall_mem_cons.mp h
  replace h := e.2
  clear e
  have e := List.forall_mem_cons.mp h
  replace h := e.2
  clear e
  have e := List.forall_mem_cons.mp h
  replace h := e.2
  clear e
  have e := List.forall_mem_cons.mp h
  replace h := e.2
  clear e
  have e := List.forall_mem_cons.mp h
  replace h := e.2
  clear e
  have e := List.forall_mem_cons.mp h
  replace h := e.2
  clear e
  have e := List.forall_mem_cons.mp h
  replace h := e.2
  clear e
  have e := List.forall_mem_cons.mp h
  replace h := e.2
  clear e
  have e := List.forall_mem_cons.mp h
  replace h := e.2
  clear e
  have e := List.forall_mem_cons.mp h
  replace h := e.2
  clear e
  have e := List.forall_mem_cons.mp h
  replace h := e.2
  clear e
  have e := List.forall_mem_cons.mp h
  replace h := e.2
  clear e
  have e := List.forall_mem_cons.mp h
  replace h := e.2
  clear e
  have e := List.forall_mem_cons.mp h
  replace h := e.2
  clear e
  have e := List.forall_mem_cons.mp h
  replace h := e.2
  clear e
  have e := List.forall_mem_cons.mp h
  replace h := e.2
  clear e
  have e := List.forall_mem_cons.mp h
  replace h := e.2
  clear e
  have e := List.forall_mem_cons.mp h
  replace h := e.2
  clear e
  have e := List.forall_mem_cons.mp h
  replace h := e.2
  clear e
  have e := List.forall_mem_cons.mp h
  replace h := e.2
  clear e
  have e := List.forall_mem_cons.mp h
  replace h := e.2
  clear e
  have e := List.forall_mem_cons.mp h
  replace h := e.2
  clear e
  have e := List.forall_mem_cons.mp h
  replace h := e.2
  clear e
  have e := List.forall_mem_cons.mp h
  replace h := e.2
  clear e
  have e := List.forall_mem_cons.mp h
  replace h := e.2
  clear e
  have e := List.forall_mem_cons.mp h
  replace h := e.2
  clear e
  have e := List.forall_mem_cons.mp h
  replace h := e.2
  clear e
  have e := List.forall_mem_cons.mp h
  replace h := e.2
  clear e
  have e := List.forall_mem_cons.mp h
  replace h := e.2
  clear e
  have e := List.forall_mem_cons.mp h
  replace h := e.2
  clear e
  have e := List.forall_mem_cons.mp h
  replace h := e.2
  clear e
  have e := List.forall_mem_cons.mp h
  replace h := e.2
  clear e
  have e := List.forall_mem_cons.mp h
  replace h := e.2
  clear e
  have e := List.forall_mem_cons.mp h
  replace h := e.2
  clear e
  have e := List.forall_mem_cons.mp h
  replace h := e.2
  clear e
  have e := List.forall_mem_cons.mp h
  replace h := e.2
  clear e
  have e := List.forall_mem_cons.mp h
  replace h := e.2
  clear e
  have e := List.forall_mem_cons.mp h
  replace h := e.2
  clear e
  have e := List.forall_mem_cons.mp h
  replace h := e.2
  clear e
  have e := List.forall_mem_cons.mp h
  replace h := e.2
  clear e
  have e := List.forall_mem_cons.mp h
  replace h := e.2
  clear e
  have e := List.forall_mem_cons.mp h
  replace h := e.2
  clear e
  have e := List.forall_mem_cons.mp h
  replace h := e.2
  clear e
  have e := List.forall_mem_cons.mp h
  replace h := e.2
  clear e
  have e := List.forall_mem_cons.mp h
  replace h := e.2
  clear e
  have e := List.forall_mem_cons.mp h
  replace h := e.2
  clear e
  have e := List.forall_mem_cons.mp h
  replace h := e.2
  clear e
  have e := List.forall_mem_cons.mp h
  replace h := e.2
  clear e
  have e := List.forall_mem_cons.mp h
  replace h := e.2
  clear e
  have e := List.forall_mem_cons.mp h
  replace h := e.2
  clear e
  have e := List.forall_mem_cons.mp h
  replace h := e.2
  clear e
  have e := List.forall_mem_cons.mp h
  replace h := e.2
  clear e
  have e := List.forall_mem_cons.mp h
  replace h := e.2
  clear e
  have e := List.forall_mem_cons.mp h
  replace h := e.2
  clear e
  have e := List.forall_mem_cons.mp h
  replace h := e.2
  clear e
  have e := List.forall_mem_cons.mp h
  replace h := e.2
  clear e
  have e := List.forall_mem_cons.mp h
  replace h := e.2
  clear e
  have e := List.forall_mem_cons.mp h
  replace h := e.2
  clear e
  have e := List.forall_mem_cons.mp h
  replace h := e.2
  clear e
  have e := List.forall_mem_cons.mp h
  replace h := e.2
  clear e
  have e := List.forall_mem_cons.mp h
  replace h := e.2
  clear e
  have e := List.forall_mem_cons.mp h
  replace h := e.2
  clear e
  have e := List.forall_mem_cons.mp h
  replace h := e.2
  clear e
  have e := List.forall_mem_cons.mp h
  replace h := e.2
  clear e
  have e := List.forall_mem_cons.mp h
  have h145 := e.1
  replace h := e.2
  clear e
  have e := List.forall_mem_cons.mp h
  have h146 := e.1
  replace h := e.2
  clear e
  have e := List.forall_mem_cons.mp h
  replace h := e.2
  clear e
  have e := List.forall_mem_cons.mp h
  replace h := e.2
  clear e
  have e := List.forall_mem_cons.mp h
  have h149 := e.1
  replace h := e.2
  clear e
  have e := List.forall_mem_cons.mp h
  have h150 := e.1
  replace h := e.2
  clear e
  have e := List.forall_mem_cons.mp h
  replace h := e.2
  clear e
  have e := List.forall_mem_cons.mp h
  replace h := e.2
  clear e
  have e := List.forall_mem_cons.mp h
  have h153 := e.1
  replace h := e.2
  clear e
  have e := List.forall_mem_cons.mp h
  have h154 := e.1
  replace h := e.2
  clear e
  have e := List.forall_mem_cons.mp h
  replace h := e.2
  clear e
  have e := List.forall_mem_cons.mp h
  replace h := e.2
  clear e
  have e := List.forall_mem_cons.mp h
  have h157 := e.1
  replace h := e.2
  clear e
  have e := List.forall_mem_cons.mp h
  have h158 := e.1
  replace h := e.2
  clear e
  have e := List.forall_mem_cons.mp h
  replace h := e.2
  clear e
  have e := List.forall_mem_cons.mp h
  replace h := e.2
  clear e
  have e := List.forall_mem_cons.mp h
  have h161 := e.1
  replace h := e.2
  clear e
  have e := List.forall_mem_cons.mp h
  have h162 := e.1
  replace h := e.2
  clear e
  have e := List.forall_mem_cons.mp h
  replace h := e.2
  clear e
  have e := List.forall_mem_cons.mp h
  replace h := e.2
  clear e
  have e := List.forall_mem_cons.mp h
  replace h := e.2
  clear e
  have e := List.forall_mem_cons.mp h
  replace h := e.2
  clear e
  have e := List.forall_mem_cons.mp h
  replace h := e.2
  clear e
  have e := List.forall_mem_cons.mp h
  have h168 := e.1
  replace h := e.2
  clear e
  have e := List.forall_mem_cons.mp h
  have h169 := e.1
  replace h := e.2
  clear e
  have e := List.forall_mem_cons.mp h
  replace h := e.2
  clear e
  have e := List.forall_mem_cons.mp h
  replace h := e.2
  clear e
  have e := List.forall_mem_cons.mp h
  have h172 := e.1
  replace h := e.2
  clear e
  have e := List.forall_mem_cons.mp h
  have h173 := e.1
  replace h := e.2
  clear e
  have e := List.forall_mem_cons.mp h
  replace h := e.2
  clear e
  have e := List.forall_mem_cons.mp h
  replace h := e.2
  clear e
  have e := List.forall_mem_cons.mp h
  replace h := e.2
  clear e
  have e := List.forall_mem_cons.mp h
  replace h := e.2
  clear e
  have e := List.forall_mem_cons.mp h
  replace h := e.2
  clear e
  have e := List.forall_mem_cons.mp h
  replace h := e.2
  clear e
  have e := List.forall_mem_cons.mp h
  replace h := e.2
  clear e
  have e := List.forall_mem_cons.mp h
  replace h := e.2
  clear e
  have e := List.forall_mem_cons.mp h
  have h182 := e.1
  replace h := e.2
  clear e
  have e := List.forall_mem_cons.mp h
  have h183 := e.1
  replace h := e.2
  clear e
  have e := List.forall_mem_cons.mp h
  replace h := e.2
  clear e
  have e := List.forall_mem_cons.mp h
  replace h := e.2
  clear e
  have e := List.forall_mem_cons.mp h
  have h186 := e.1
  replace h := e.2
  clear e
  have e := List.forall_mem_cons.mp h
  have h187 := e.1
  replace h := e.2
  clear e
  have e := List.forall_mem_cons.mp h
  replace h := e.2
  clear e
  have e := List.forall_mem_cons.mp h
  replace h := e.2
  clear e
  have e := List.forall_mem_cons.mp h
  have h190 := e.1
  replace h := e.2
  clear e
  have e := List.forall_mem_cons.mp h
  have h191 := e.1
  replace h := e.2
  clear e
  have e := List.forall_mem_cons.mp h
  replace h := e.2
  clear e
  have e := List.forall_mem_cons.mp h
  replace h := e.2
  clear e
  have e := List.forall_mem_cons.mp h
  have h194 := e.1
  replace h := e.2
  clear e
  have e := List.forall_mem_cons.mp h
  have h195 := e.1
  replace h := e.2
  clear e
  have e := List.forall_mem_cons.mp h
  replace h := e.2
  clear e
  have e := List.forall_mem_cons.mp h
  replace h := e.2
  clear e
  have e := List.forall_mem_cons.mp h
  have h198 := e.1
  replace h := e.2
  clear e
  have e := List.forall_mem_cons.mp h
  have h199 := e.1
  replace h := e.2
  clear e
  have e := List.forall_mem_cons.mp h
  replace h := e.2
  clear e
  have e := List.forall_mem_cons.mp h
  replace h := e.2
  clear e
  have e := List.forall_mem_cons.mp h
  have h202 := e.1
  replace h := e.2
  clear e
  have e := List.forall_mem_cons.mp h
  have h203 := e.1
  replace h := e.2
  clear e
  have e := List.forall_mem_cons.mp h
  replace h := e.2
  clear e
  have e := List.forall_mem_cons.mp h
  replace h := e.2
  clear e
  have e := List.forall_mem_cons.mp h
  have h206 := e.1
  replace h := e.2
  clear e
  have e := List.forall_mem_cons.mp h
  have h207 := e.1
  replace h := e.2
  clear e
  have e := List.forall_mem_cons.mp h
  replace h := e.2
  clear e
  have e := List.forall_mem_cons.mp h
  replace h := e.2
  clear e
  have e := List.forall_mem_cons.mp h
  have h210 := e.1
  replace h := e.2
  clear e
  have e := List.forall_mem_cons.mp h
  have h211 := e.1
  replace h := e.2
  clear e
  have e := List.forall_mem_cons.mp h
  replace h := e.2
  clear e
  have e := List.forall_mem_cons.mp h
  replace h := e.2
  clear e
  have e := List.forall_mem_cons.mp h
  replace h := e.2
  clear e
  have e := List.forall_mem_cons.mp h
  replace h := e.2
  clear e
  have e := List.forall_mem_cons.mp h
  have h216 := e.1
  replace h := e.2
  clear e
  have e := List.forall_mem_cons.mp h
  have h217 := e.1
  replace h := e.2
  clear e
  have e := List.forall_mem_cons.mp h
  replace h := e.2
  clear e
  have e := List.forall_mem_cons.mp h
  replace h := e.2
  clear e
  have e := List.forall_mem_cons.mp h
  have h220 := e.1
  replace h := e.2
  clear e
  have e := List.forall_mem_cons.mp h
  have h221 := e.1
  replace h := e.2
  clear e
  have e := List.forall_mem_cons.mp h
  replace h := e.2
  clear e
  have e := List.forall_mem_cons.mp h
  replace h := e.2
  clear e
  have e := List.forall_mem_cons.mp h
  have h224 := e.1
  replace h := e.2
  clear e
  have e := List.forall_mem_cons.mp h
  have h225 := e.1
  replace h := e.2
  clear e
  have e := List.forall_mem_cons.mp h
  replace h := e.2
  clear e
  have e := List.forall_mem_cons.mp h
  replace h := e.2
  clear e
  have e := List.forall_mem_cons.mp h
  have h228 := e.1
  replace h := e.2
  clear e
  have e := List.forall_mem_cons.mp h
  have h229 := e.1
  replace h := e.2
  clear e
  have e := List.forall_mem_cons.mp h
  replace h := e.2
  clear e
  have e := List.forall_mem_cons.mp h
  replace h := e.2
  clear e
  have e := List.forall_mem_cons.mp h
  have h232 := e.1
  replace h := e.2
  clear e
  have e := List.forall_mem_cons.mp h
  have h233 := e.1
  replace h := e.2
  clear e
  have e := List.forall_mem_cons.mp h
  replace h := e.2
  clear e
  have e := List.forall_mem_cons.mp h
  replace h := e.2
  clear e
  have e := List.forall_mem_cons.mp h
  have h236 := e.1
  replace h := e.2
  clear e
  have e := List.forall_mem_cons.mp h
  have h237 := e.1
  replace h := e.2
  clear e
  exact ⟨⟨h145, h146, h149, h150, h153, h154, h157, h158, h161, h162, h168, h169, h172, h173, h182, h183⟩, ⟨h186, h187, h190, h191, h194, h195, h198, h199, h202, h203, h206, h207, h210, h211, h216, h217⟩, ⟨h220, h221, h224, h225, h228, h229, h232, h233, h236, h237⟩⟩
set_option maxRecDepth 100000 in
set_option maxHeartbeats 40000000 in
theorem lw_t8 : ((Cond.privateMethod ⟨"OnePaneModel", "qPartTold", "()V"⟩) ∈ tables_1 ∧ (Cond.instanceMethod ⟨"OnePaneModel", "qPartTold", "()V"⟩) ∈ tables_1 ∧ (Cond.privateMethod ⟨"OnePaneModel", "qWordOf", "(II)I"⟩) ∈ tables_1 ∧ (Cond.instanceMethod ⟨"OnePaneModel", "qWordOf", "(II)I"⟩) ∈ tables_1 ∧ (Cond.privateMethod ⟨"OnePaneModel", "qWordHere", "()I"⟩) ∈ tables_1 ∧ (Cond.instanceMethod ⟨"OnePaneModel", "qWordHere", "()I"⟩) ∈ tables_1 ∧ (Cond.privateMethod ⟨"OnePaneModel", "isAllowed", "(I)Z"⟩) ∈ tables_1 ∧ (Cond.instanceMethod ⟨"OnePaneModel", "isAllowed", "(I)Z"⟩) ∈ tables_1 ∧ (Cond.privateMethod ⟨"OnePaneModel", "qAsksWord", "(I)V"⟩) ∈ tables_1 ∧ (Cond.instanceMethod ⟨"OnePaneModel", "qAsksWord", "(I)V"⟩) ∈ tables_1 ∧ (Cond.privateMethod ⟨"OnePaneModel", "qEndsPart", "()V"⟩) ∈ tables_1 ∧ (Cond.instanceMethod ⟨"OnePaneModel", "qEndsPart", "()V"⟩) ∈ tables_1 ∧ (Cond.privateMethod ⟨"OnePaneModel", "qDrops", "()V"⟩) ∈ tables_1 ∧ (Cond.instanceMethod ⟨"OnePaneModel", "qDrops", "()V"⟩) ∈ tables_1 ∧ (Cond.privateMethod ⟨"OnePaneModel", "qGoesOn", "()Z"⟩) ∈ tables_1 ∧ (Cond.instanceMethod ⟨"OnePaneModel", "qGoesOn", "()Z"⟩) ∈ tables_1) ∧ ((Cond.privateMethod ⟨"OnePaneModel", "qBracket", "()I"⟩) ∈ tables_1 ∧ (Cond.instanceMethod ⟨"OnePaneModel", "qBracket", "()I"⟩) ∈ tables_1 ∧ (Cond.privateMethod ⟨"OnePaneModel", "qDropsToBracket", "()V"⟩) ∈ tables_1 ∧ (Cond.instanceMethod ⟨"OnePaneModel", "qDropsToBracket", "()V"⟩) ∈ tables_1 ∧ (Cond.privateMethod ⟨"OnePaneModel", "qIsOn", "(I)Z"⟩) ∈ tables_1 ∧ (Cond.instanceMethod ⟨"OnePaneModel", "qIsOn", "(I)Z"⟩) ∈ tables_1 ∧ (Cond.privateMethod ⟨"OnePaneModel", "qDropsNots", "()V"⟩) ∈ tables_1 ∧ (Cond.instanceMethod ⟨"OnePaneModel", "qDropsNots", "()V"⟩) ∈ tables_1 ∧ (Cond.privateMethod ⟨"OnePaneModel", "qGoesOnTest", "()Z"⟩) ∈ tables_1 ∧ (Cond.instanceMethod ⟨"OnePaneModel", "qGoesOnTest", "()Z"⟩) ∈ tables_1 ∧ (Cond.privateMethod ⟨"OnePaneModel", "qHasSquare", "()Z"⟩) ∈ tables_1 ∧ (Cond.instanceMethod ⟨"OnePaneModel", "qHasSquare", "()Z"⟩) ∈ tables_1 ∧ (Cond.privateMethod ⟨"OnePaneModel", "stands", "()V"⟩) ∈ tables_1 ∧ (Cond.instanceMethod ⟨"OnePaneModel", "stands", "()V"⟩) ∈ tables_1 ∧ (Cond.privateMethod ⟨"OnePaneModel", "peopleMany", "()I"⟩) ∈ tables_1 ∧ (Cond.instanceMethod ⟨"OnePaneModel", "peopleMany", "()I"⟩) ∈ tables_1) ∧ ((Cond.privateMethod ⟨"OnePaneModel", "crackedMany", "()I"⟩) ∈ tables_1 ∧ (Cond.instanceMethod ⟨"OnePaneModel", "crackedMany", "()I"⟩) ∈ tables_1 ∧ (Cond.privateMethod ⟨"OnePaneModel", "holders", "()I"⟩) ∈ tables_1 ∧ (Cond.instanceMethod ⟨"OnePaneModel", "holders", "()I"⟩) ∈ tables_1 ∧ (Cond.privateMethod ⟨"OnePaneModel", "isAtRest", "(I)Z"⟩) ∈ tables_1 ∧ (Cond.instanceMethod ⟨"OnePaneModel", "isAtRest", "(I)Z"⟩) ∈ tables_1 ∧ (Cond.privateMethod ⟨"OnePaneModel", "codesTell", "(II)J"⟩) ∈ tables_1 ∧ (Cond.instanceMethod ⟨"OnePaneModel", "codesTell", "(II)J"⟩) ∈ tables_1 ∧ (Cond.privateMethod ⟨"OnePaneModel", "qPuts", "(J)V"⟩) ∈ tables_1 ∧ (Cond.instanceMethod ⟨"OnePaneModel", "qPuts", "(J)V"⟩) ∈ tables_1 ∧ (Cond.privateMethod ⟨"OnePaneModel", "qPartOf", "(II)J"⟩) ∈ tables_1 ∧ (Cond.instanceMethod ⟨"OnePaneModel", "qPartOf", "(II)J"⟩) ∈ tables_1 ∧ (Cond.privateMethod ⟨"OnePaneModel", "strengthOf", "(I)I"⟩) ∈ tables_1 ∧ (Cond.instanceMethod ⟨"OnePaneModel", "strengthOf", "(I)I"⟩) ∈ tables_1 ∧ (Cond.privateMethod ⟨"OnePaneModel", "tiredOf", "(I)I"⟩) ∈ tables_1 ∧ (Cond.instanceMethod ⟨"OnePaneModel", "tiredOf", "(I)I"⟩) ∈ tables_1) ∧ ((Cond.privateMethod ⟨"OnePaneModel", "nearOf", "(I)I"⟩) ∈ tables_1 ∧ (Cond.instanceMethod ⟨"OnePaneModel", "nearOf", "(I)I"⟩) ∈ tables_1 ∧ (Cond.privateMethod ⟨"OnePaneModel", "placeOf", "(I)I"⟩) ∈ tables_1 ∧ (Cond.instanceMethod ⟨"OnePaneModel", "placeOf", "(I)I"⟩) ∈ tables_1 ∧ (Cond.privateMethod ⟨"OnePaneModel", "qJoins", "(I)V"⟩) ∈ tables_1 ∧ (Cond.instanceMethod ⟨"OnePaneModel", "qJoins", "(I)V"⟩) ∈ tables_1 ∧ (Cond.privateMethod ⟨"OnePaneModel", "awake", "()I"⟩) ∈ tables_1 ∧ (Cond.instanceMethod ⟨"OnePaneModel", "awake", "()I"⟩) ∈ tables_1 ∧ (Cond.privateMethod ⟨"OnePaneModel", "isPerson", "(I)Z"⟩) ∈ tables_1 ∧ (Cond.instanceMethod ⟨"OnePaneModel", "isPerson", "(I)Z"⟩) ∈ tables_1 ∧ (Cond.privateMethod ⟨"OnePaneModel", "cellAt", "(II)I"⟩) ∈ tables_1 ∧ (Cond.instanceMethod ⟨"OnePaneModel", "cellAt", "(II)I"⟩) ∈ tables_1 ∧ (Cond.privateMethod ⟨"OnePaneModel", "laysLoads", "()V"⟩) ∈ tables_1 ∧ (Cond.instanceMethod ⟨"OnePaneModel", "laysLoads", "()V"⟩) ∈ tables_1 ∧ (Cond.privateMethod ⟨"OnePaneModel", "cellMany", "()I"⟩) ∈ tables_1 ∧ (Cond.instanceMethod ⟨"OnePaneModel", "cellMany", "()I"⟩) ∈ tables_1) ∧ ((Cond.privateMethod ⟨"OnePaneModel", "cellOf", "(I)I"⟩) ∈ tables_1 ∧ (Cond.instanceMethod ⟨"OnePaneModel", "cellOf", "(I)I"⟩) ∈ tables_1 ∧ (Cond.privateMethod ⟨"OnePaneModel", "isCracked", "(I)Z"⟩) ∈ tables_1 ∧ (Cond.instanceMethod ⟨"OnePaneModel", "isCracked", "(I)Z"⟩) ∈ tables_1 ∧ (Cond.privateMethod ⟨"OnePaneModel", "addsOf", "(I)I"⟩) ∈ tables_1 ∧ (Cond.instanceMethod ⟨"OnePaneModel", "addsOf", "(I)I"⟩) ∈ tables_1 ∧ (Cond.privateMethod ⟨"OnePaneModel", "standsAt", "(I)I"⟩) ∈ tables_1 ∧ (Cond.instanceMethod ⟨"OnePaneModel", "standsAt", "(I)I"⟩) ∈ tables_1 ∧ (Cond.privateMethod ⟨"OnePaneModel", "slackBy", "(II)I"⟩) ∈ tables_1 ∧ (Cond.instanceMethod ⟨"OnePaneModel", "slackBy", "(II)I"⟩) ∈ tables_1 ∧ (Cond.privateMethod ⟨"OnePaneModel", "liftBy", "(II)I"⟩) ∈ tables_1 ∧ (Cond.instanceMethod ⟨"OnePaneModel", "liftBy", "(II)I"⟩) ∈ tables_1 ∧ (Cond.privateMethod ⟨"OnePaneModel", "liftOf", "(III)I"⟩) ∈ tables_1 ∧ (Cond.instanceMethod ⟨"OnePaneModel", "liftOf", "(III)I"⟩) ∈ tables_1 ∧ (Cond.privateMethod ⟨"OnePaneModel", "isAhead", "(III)Z"⟩) ∈ tables_1 ∧ (Cond.instanceMethod ⟨"OnePaneModel", "isAhead", "(III)Z"⟩) ∈ tables_1) ∧ ((Cond.privateMethod ⟨"OnePaneModel", "putsAside", "()V"⟩) ∈ tables_1 ∧ (Cond.instanceMethod ⟨"OnePaneModel", "putsAside", "()V"⟩) ∈ tables_1 ∧ (Cond.privateMethod ⟨"OnePaneModel", "hoursGo", "(I)V"⟩) ∈ tables_1 ∧ (Cond.instanceMethod ⟨"OnePaneModel", "hoursGo", "(I)V"⟩) ∈ tables_1 ∧ (Cond.privateMethod ⟨"OnePaneModel", "hourGoes", "()V"⟩) ∈ tables_1 ∧ (Cond.instanceMethod ⟨"OnePaneModel", "hourGoes", "()V"⟩) ∈ tables_1 ∧ (Cond.privateMethod ⟨"OnePaneModel", "isKept", "(I)V"⟩) ∈ tables_1 ∧ (Cond.instanceMethod ⟨"OnePaneModel", "isKept", "(I)V"⟩) ∈ tables_1 ∧ (Cond.privateMethod ⟨"OnePaneModel", "tiredAll", "()I"⟩) ∈ tables_1 ∧ (Cond.instanceMethod ⟨"OnePaneModel", "tiredAll", "()I"⟩) ∈ tables_1 ∧ (Cond.privateMethod ⟨"OnePaneModel", "takesBack", "()V"⟩) ∈ tables_1 ∧ (Cond.instanceMethod ⟨"OnePaneModel", "takesBack", "()V"⟩) ∈ tables_1) := by
  have h : ∀ w ∈ tables_1_8, w ∈ tables_1 := fun w hm => List.mem_append_right _ (List.mem_append_right _ (List.mem_append_right _ (List.mem_append_right _ (List.mem_append_right _ (List.mem_append_right _ (List.mem_append_right _ (List.mem_append_left _ hm)))))))
  unfold tables_1_8 at h
  have e := List.forall_mem_cons.mp h
  have h0 := e.1
  replace h := e.2
  clear e
  have e := List.forall_mem_cons.mp h
  have h1 := e.1
  replace h := e.2
  clear e
  have e := List.forall_mem_cons.mp h
  replace h := e.2
  clear e
  have e := List.forall_mem_cons.mp h
  replace h := e.2
  clear e
  have e := List.forall_mem_cons.mp h
  have h4 := e.1
  replace h := e.2
  clear e
  have e := List.forall_mem_cons.mp h
  have h5 := e.1
  replace h := e.2
  clear e
  have e := List.forall_mem_cons.mp h
  replace h := e.2
  clear e
  have e := List.forall_mem_cons.mp h
  replace h := e.2
  clear e
  have e := List.forall_mem_cons.mp h
  have h8 := e.1
  replace h := e.2
  clear e
  have e := List.forall_mem_cons.mp h
  have h9 := e.1
  replace h := e.2
  clear e
  have e := List.forall_mem_cons.mp h
  replace h := e.2
  clear e
  have e := List.forall_mem_cons.mp h
  replace h := e.2
  clear e
  have e := List.forall_mem_cons.mp h
  have h12 := e.1
  replace h := e.2
  clear e
  have e := List.forall_mem_cons.mp h
  have h13 := e.1
  replace h := e.2
  clear e
  have e := List.forall_mem_cons.mp h
  replace h := e.2
  clear e
  have e := List.forall_mem_cons.mp h
  replace h := e.2
  clear e
  have e := List.forall_mem_cons.mp h
  replace h := e.2
  clear e
  have e := List.forall_mem_cons.mp h
  replace h := e.2
  clear e
  have e := List.forall_mem_cons.mp h
  have h18 := e.1
  replace h := e.2
  clear e
  have e := List.forall_mem_cons.mp h
  have h19 := e.1
  replace h := e.2
  clear e
  have e := List.forall_mem_cons.mp h
  replace h := e.2
  clear e
  have e := List.forall_mem_cons.mp h
  replace h := e.2
  clear e
  have e := List.forall_mem_cons.mp h
  have h22 := e.1
  replace h := e.2
  clear e
  have e := List.forall_mem_cons.mp h
  have h23 := e.1
  replace h := e.2
  clear e
  have e := List.forall_mem_cons.mp h
  replace h := e.2
  clear e
  have e := List.forall_mem_cons.mp h
  replace h := e.2
  clear e
  have e := List.forall_mem_cons.mp h
  have h26 := e.1
  replace h := e.2
  clear e
  have e := List.forall_mem_cons.mp h
  have h27 := e.1
  replace h := e.2
  clear e
  have e := List.forall_mem_cons.mp h
  replace h := e.2
  clear e
  have e := List.forall_mem_cons.mp h
  replace h := e.2
  clear e
  have e := List.forall_mem_cons.mp h
  have h30 := e.1
  replace h := e.2
  clear e
  have e := List.forall_mem_cons.mp h
  have h31 := e.1
  replace h := e.2
  clear e
  have e := List.forall_mem_cons.mp h
  replace h := e.2
  clear e
  have e := List.forall_mem_cons.mp h
  replace h := e.2
  clear e
  have e := List.forall_mem_cons.mp h
  have h34 := e.1
  replace h := e.2
  clear e
  have e := List.forall_mem_cons.mp h
  have h35 := e.1
  replace h := e.2
  clear e
  have e := List.forall_mem_cons.mp h
  replace h := e.2
  clear e
  have e := List.forall_mem_cons.mp h
  replace h := e.2
  clear e
  have e := List.forall_mem_cons.mp h
  replace h := e.2
  clear e
  have e := List.forall_mem_cons.mp h
  replace h := e.2
  clear e
  have e := List.forall_mem_cons.mp h
  replace h := e.2
  clear e
  have e := List.forall_mem_cons.mp h
  have h41 := e.1
  replace h := e.2
  clear e
  have e := List.forall_mem_cons.mp h
  have h42 := e.1
  replace h := e.2
  clear e
  have e := List.forall_mem_cons.mp h
  replace h := e.2
  clear e
  have e := List.forall_mem_cons.mp h
  replace h := e.2
  clear e
  have e := List.forall_mem_cons.mp h
  have h45 := e.1
  replace h := e.2
  clear e
  have e := List.forall_mem_cons.mp h
  have h46 := e.1
  replace h := e.2
  clear e
  have e := List.forall_mem_cons.mp h
  replace h := e.2
  clear e
  have e := List.forall_mem_cons.mp h
  replace h := e.2
  clear e
  have e := List.forall_mem_cons.mp h
  have h49 := e.1
  replace h := e.2
  clear e
  have e := List.forall_mem_cons.mp h
  have h50 := e.1
  replace h := e.2
  clear e
  have e := List.forall_mem_cons.mp h
  replace h := e.2
  clear e
  have e := List.forall_mem_cons.mp h
  replace h := e.2
  clear e
  have e := List.forall_mem_cons.mp h
  have h53 := e.1
  replace h := e.2
  clear e
  have e := List.forall_mem_cons.mp h
  have h54 := e.1
  replace h := e.2
  clear e
  have e := List.forall_mem_cons.mp h
  replace h := e.2
  clear e
  have e := List.forall_mem_cons.mp h
  replace h := e.2
  clear e
  have e := List.forall_mem_cons.mp h
  have h57 := e.1
  replace h := e.2
  clear e
  have e := List.forall_mem_cons.mp h
  have h58 := e.1
  replace h := e.2
  clear e
  have e := List.forall_mem_cons.mp h
  replace h := e.2
  clear e
  have e := List.forall_mem_cons.mp h
  replace h := e.2
  clear e
  have e := List.forall_mem_cons.mp h
  have h61 := e.1
  replace h := e.2
  clear e
  have e := List.forall_mem_cons.mp h
  have h62 := e.1
  replace h := e.2
  clear e
  have e := List.forall_mem_cons.mp h
  replace h := e.2
  clear e
  have e := List.forall_mem_cons.mp h
  replace h := e.2
  clear e
  have e := List.forall_mem_cons.mp h
  replace h := e.2
  clear e
  have e := List.forall_mem_cons.mp h
  replace h := e.2
  clear e
  have e := List.forall_mem_cons.mp h
  replace h := e.2
  clear e
  have e := List.forall_mem_cons.mp h
  replace h := e.2
  clear e
  have e := List.forall_mem_cons.mp h
  replace h := e.2
  clear e
  have e := List.forall_mem_cons.mp h
  replace h := e.2
  clear e
  have e := List.forall_mem_cons.mp h
  replace h := e.2
  clear e
  have e := List.forall_mem_cons.mp h
  replace h := e.2
  clear e
  have e := List.forall_mem_cons.mp h
  have h73 := e.1
  replace h := e.2
  clear e
  have e := List.forall_mem_cons.mp h
  have h74 := e.1
  replace h := e.2
  clear e
  have e := List.forall_mem_cons.mp h
  replace h := e.2
  clear e
  have e := List.forall_mem_cons.mp h
  replace h := e.2
  clear e
  have e := List.forall_mem_cons.mp h
  have h77 := e.1
  replace h := e.2
  clear e
  have e := List.forall_mem_cons.mp h
  have h78 := e.1
  replace h := e.2
  clear e
  have e := List.forall_mem_cons.mp h
  replace h := e.2
  clear e
  have e := List.forall_mem_cons.mp h
  replace h := e.2
  clear e
  have e := List.forall_mem_cons.mp h
  have h81 := e.1
  replace h := e.2
  clear e
  have e := List.forall_mem_cons.mp h
  have h82 := e.1
  replace h := e.2
  clear e
  have e := List.forall_mem_cons.mp h
  replace h := e.2
  clear e
  have e := List.forall_mem_cons.mp h
  replace h := e.2
  clear e
  have e := List.forall_mem_cons.mp h
  have h85 := e.1
  replace h := e.2
  clear e
  have e := List.forall_mem_cons.mp h
  have h86 := e.1
  replace h := e.2
  clear e
  have e := List.forall_mem_cons.mp h
  replace h := e.2
  clear e
  have e := List.forall_mem_cons.mp h
  replace h := e.2
  clear e
  have e := List.forall_mem_cons.mp h
  have h89 := e.1
  replace h := e.2
  clear e
  have e := List.forall_mem_cons.mp h
  have h90 := e.1
  replace h := e.2
  clear e
  have e := List.forall_mem_cons.mp h
  replace h := e.2
  clear e
  have e := List.forall_mem_cons.mp h
  replace h := e.2
  clear e
  have e := List.forall_mem_cons.mp h
  have h93 := e.1
  replace h := e.2
  clear e
  have e := List.forall_mem_cons.mp h
  have h94 := e.1
  replace h := e.2
  clear e
  have e := List.forall_mem_cons.mp h
  replace h := e.2
  clear e
  have e := List.forall_mem_cons.mp h
  replace h := e.2
  clear e
  have e := List.forall_mem_cons.mp h
  have h97 := e.1
  replace h := e.2
  clear e
  have e := List.forall_mem_cons.mp h
  have h98 := e.1
  replace h := e.2
  clear e
  have e := List.forall_mem_cons.mp h
  replace h := e.2
  clear e
  have e := List.forall_mem_cons.mp h
  replace h := e.2
  clear e
  have e := List.forall_mem_cons.mp h
  have h101 := e.1
  replace h := e.2
  clear e
  have e := List.forall_mem_cons.mp h
  have h102 := e.1
  replace h := e.2
  clear e
  have e := List.forall_mem_cons.mp h
  replace h := e.2
  clear e
  have e := List.forall_mem_cons.mp h
  replace h := e.2
  clear e
  have e := List.forall_mem_cons.mp h
  have h105 := e.1
  replace h := e.2
  clear e
  have e := List.forall_mem_cons.mp h
  have h106 := e.1
  replace h := e.2
  clear e
  have e := List.forall_mem_cons.mp h
  replace h := e.2
  clear e
  have e := List.forall_mem_cons.mp h
  replace h := e.2
  clear e
  have e := List.forall_mem_cons.mp h
  have h109 := e.1
  replace h := e.2
  clear e
  have e := List.forall_mem_cons.mp h
  have h110 := e.1
  replace h := e.2
  clear e
  have e := List.forall_mem_cons.mp h
  replace h := e.2
  clear e
  have e := List.forall_mem_cons.mp h
  replace h := e.2
  clear e
  have e := List.forall_mem_cons.mp h
  have h113 := e.1
  replace h := e.2
  clear e
  have e := List.forall_mem_cons.mp h
  have h114 := e.1
  replace h := e.2
  clear e
  have e := List.forall_mem_cons.mp h
  replace h := e.2
  clear e
  have e := List.forall_mem_cons.mp h
  replace h := e.2
  clear e
  have e := List.forall_mem_cons.mp h
  replace h := e.2
  clear e
  have e := List.forall_mem_cons.mp h
  replace h := e.2
  clear e
  have e := List.forall_mem_cons.mp h
  replace h := e.2
  clear e
  have e := List.forall_mem_cons.mp h
  have h120 := e.1
  replace h := e.2
  clear e
  have e := List.forall_mem_cons.mp h
  have h121 := e.1
  replace h := e.2
  clear e
  have e := List.forall_mem_cons.mp h
  replace h := e.2
  clear e
  have e := List.forall_mem_cons.mp h
  replace h := e.2
  clear e
  have e := List.forall_mem_cons.mp h
  replace h := e.2
  clear e
  have e := List.forall_mem_cons.mp h
  replace h := e.2
  clear e
  have e := List.forall_mem_cons.mp h
  replace h := e.2
  clear e
  have e := List.forall_mem_cons.mp h
  replace h := e.2
  clear e
  have e := List.forall_mem_cons.mp h
  replace h := e.2
  clear e
  have e := List.forall_mem_cons.mp h
  replace h := e.2
  clear e
  have e := List.forall_mem_cons.mp h
  replace h := e.2
  clear e
  have e := List.forall_mem_cons.mp h
  replace h := e.2
  clear e
  have e := List.forall_mem_cons.mp h
  replace h := e.2
  clear e
  have e := List.forall_mem_cons.mp h
  replace h := e.2
  clear e
  have e := List.forall_mem_cons.mp h
  replace h := e.2
  clear e
  have e := List.forall_mem_cons.mp h
  have h135 := e.1
  replace h := e.2
  clear e
  have e := List.forall_mem_cons.mp h
  have h136 := e.1
  replace h := e.2
  clear e
  have e := List.forall_mem_cons.mp h
  replace h := e.2
  clear e
  have e := List.forall_mem_cons.mp h
  replace h := e.2
  clear e
  have e := List.forall_mem_cons.mp h
  replace h := e.2
  clear e
  have e := List.forall_mem_cons.mp h
  replace h := e.2
  clear e
  have e := List.forall_mem_cons.mp h
  replace h := e.2
  clear e
  have e := List.forall_mem_cons.mp h
  replace h := e.2
  clear e
  have e := List.forall_mem_cons.mp h
  have h143 := e.1
  replace h := e.2
  clear e
  have e := List.forall_mem_cons.mp h
  have h144 := e.1
  replace h := e.2
  clear e
  have e := List.forall_mem_cons.mp h
  replace h := e.2
  clear e
  have e := List.forall_mem_cons.mp h
  replace h := e.2
  clear e
  have e := List.forall_mem_cons.mp h
  replace h := e.2
  clear e
  have e := List.forall_mem_cons.mp h
  replace h := e.2
  clear e
  have e := List.forall_mem_cons.mp h
  replace h := e.2
  clear e
  have e := List.forall_mem_cons.mp h
  replace h := e.2
  clear e
  have e := List.forall_mem_cons.mp h
  have h151 := e.1
  replace h := e.2
  clear e
  have e := List.forall_mem_cons.mp h
  have h152 := e.1
  replace h := e.2
  clear e
  have e := List.forall_mem_cons.mp h
  replace h := e.2
  clear e
  have e := List.forall_mem_cons.mp h
  replace h := e.2
  clear e
  have e := List.forall_mem_cons.mp h
  have h155 := e.1
  replace h := e.2
  clear e
  have e := List.forall_mem_cons.mp h
  have h156 := e.1
  replace h := e.2
  clear e
  have e := List.forall_mem_cons.mp h
  replace h := e.2
  clear e
  have e := List.forall_mem_cons.mp h
  replace h := e.2
  clear e
  have e := List.forall_mem_cons.mp h
  have h159 := e.1
  replace h := e.2
  clear e
  have e := List.forall_mem_cons.mp h
  have h160 := e.1
  replace h := e.2
  clear e
  have e := List.forall_mem_cons.mp h
  replace h := e.2
  clear e
  have e := List.forall_mem_cons.mp h
  replace h := e.2
  clear e
  have e := List.forall_mem_cons.mp h
  have h163 := e.1
  replace h := e.2
  clear e
  have e := List.forall_mem_cons.mp h
  have h164 := e.1
  replace h := e.2
  clear e
  have e := List.forall_mem_cons.mp h
  replace h := e.2
  clear e
  have e := List.forall_mem_cons.mp h
  replace h := e.2
  clear e
  have e := List.forall_mem_cons.mp h
  have h167 := e.1
  replace h := e.2
  clear e
  have e := List.forall_mem_cons.mp h
  have h168 := e.1
  replace h := e.2
  clear e
  have e := List.forall_mem_cons.mp h
  replace h := e.2
  clear e
  have e := List.forall_mem_cons.mp h
  replace h := e.2
  clear e
  have e := List.forall_mem_cons.mp h
  have h171 := e.1
  replace h := e.2
  clear e
  have e := List.forall_mem_cons.mp h
  have h172 := e.1
  replace h := e.2
  clear e
  have e := List.forall_mem_cons.mp h
  replace h := e.2
  clear e
  have e := List.forall_mem_cons.mp h
  replace h := e.2
  clear e
  have e := List.forall_mem_cons.mp h
  replace h := e.2
  clear e
  have e := List.forall_mem_cons.mp h
  have h176 := e.1
  replace h := e.2
  clear e
  have e := List.forall_mem_cons.mp h
  have h177 := e.1
  replace h := e.2
  clear e
  have e := List.forall_mem_cons.mp h
  replace h := e.2
  clear e
  have e := List.forall_mem_cons.mp h
  replace h := e.2
  clear e
  have e := List.forall_mem_cons.mp h
  replace h := e.2
  clear e
  have e := List.forall_mem_cons.mp h
  replace h := e.2
  clear e
  have e := List.forall_mem_cons.mp h
  replace h := e.2
  clear e
  have e := List.forall_mem_cons.mp h
  replace h := e.2
  clear e
  have e := List.forall_mem_cons.mp h
  replace h := e.2
  clear e
  have e := List.forall_mem_cons.mp h
  have h185 := e.1
  replace h := e.2
  clear e
  have e := List.forall_mem_cons.mp h
  have h186 := e.1
  replace h := e.2
  clear e
  have e := List.forall_mem_cons.mp h
  replace h := e.2
  clear e
  have e := List.forall_mem_cons.mp h
  replace h := e.2
  clear e
  have e := List.forall_mem_cons.mp h
  have h189 := e.1
  replace h := e.2
  clear e
  have e := List.forall_mem_cons.mp h
  have h190 := e.1
  replace h := e.2
  clear e
  have e := List.forall_mem_cons.mp h
  replace h := e.2
  clear e
  have e := List.forall_mem_cons.mp h
  replace h := e.2
  clear e
  have e := List.forall_mem_cons.mp h
  have h193 := e.1
  replace h := e.2
  clear e
  have e := List.forall_mem_cons.mp h
  have h194 := e.1
  replace h := e.2
  clear e
  have e := List.forall_mem_cons.mp h
  replace h := e.2
  clear e
  have e := List.forall_mem_cons.mp h
  replace h := e.2
  clear e
  have e := List.forall_mem_cons.mp h
  replace h := e.2
  clear e
  have e := List.forall_mem_cons.mp h
  replace h := e.2
  clear e
  have e := List.forall_mem_cons.mp h
  replace h := e.2
  clear e
  have e := List.forall_mem_cons.mp h
  replace h := e.2
  clear e
  have e := List.forall_mem_cons.mp h
  replace h := e.2
  clear e
  have e := List.forall_mem_cons.mp h
  replace h := e.2
  clear e
  have e := List.forall_mem_cons.mp h
  replace h := e.2
  clear e
  have e := List.forall_mem_cons.mp h
  replace h := e.2
  clear e
  have e := List.forall_mem_cons.mp h
  replace h := e.2
  clear e
  have e := List.forall_mem_cons.mp h
  replace h := e.2
  clear e
  have e := List.forall_mem_cons.mp h
  replace h := e.2
  clear e
  have e := List.forall_mem_cons.mp h
  replace h := e.2
  clear e
  have e := List.forall_mem_cons.mp h
  replace h := e.2
  clear e
  have e := List.forall_mem_cons.mp h
  replace h := e.2
  clear e
  have e := List.forall_mem_cons.mp h
  replace h := e.2
  clear e
  have e := List.forall_mem_cons.mp h
  replace h := e.2
  clear e
  have e := List.forall_mem_cons.mp h
  replace h := e.2
  clear e
  have e := List.forall_mem_cons.mp h
  have h214 := e.1
  replace h := e.2
  clear e
  have e := List.forall_mem_cons.mp h
  have h215 := e.1
  replace h := e.2
  clear e
  have e := List.forall_mem_cons.mp h
  replace h := e.2
  clear e
  have e := List.forall_mem_cons.mp h
  replace h := e.2
  clear e
  have e := List.forall_mem_cons.mp h
  have h218 := e.1
  replace h := e.2
  clear e
  have e := List.forall_mem_cons.mp h
  have h219 := e.1
  replace h := e.2
  clear e
  have e := List.forall_mem_cons.mp h
  replace h := e.2
  clear e
  have e := List.forall_mem_cons.mp h
  replace h := e.2
  clear e
  have e := List.forall_mem_cons.mp h
  have h222 := e.1
  replace h := e.2
  clear e
  have e := List.forall_mem_cons.mp h
  have h223 := e.1
  replace h := e.2
  clear e
  have e := List.forall_mem_cons.mp h
  replace h := e.2
  clear e
  have e := List.forall_mem_cons.mp h
  replace h := e.2
  clear e
  have e := List.forall_mem_cons.mp h
  have h226 := e.1
  replace h := e.2
  clear e
  have e := List.forall_mem_cons.mp h
  have h227 := e.1
  replace h := e.2
  clear e
  have e := List.forall_mem_cons.mp h
  replace h := e.2
  clear e
  have e := List.forall_mem_cons.mp h
  replace h := e.2
  clear e
  have e := List.forall_mem_cons.mp h
  have h230 := e.1
  replace h := e.2
  clear e
  have e := List.forall_mem_cons.mp h
  have h231 := e.1
  replace h := e.2
  clear e
  have e := List.forall_mem_cons.mp h
  replace h := e.2
  clear e
  have e := List.forall_mem_cons.mp h
  replace h := e.2
  clear e
  have e := List.forall_mem_cons.mp h
  have h234 := e.1
  replace h := e.2
  clear e
  have e := List.forall_mem_cons.mp h
  have h235 := e.1
  replace h := e.2
  clear e
  have e := List.forall_mem_cons.mp h
  replace h := e.2
  clear e
  have e := List.forall_mem_cons.mp h
  replace h := e.2
  clear e
  have e := List.forall_mem_cons.mp h
  have h238 := e.1
  replace h := e.2
  clear e
  have e := List.forall_mem_cons.mp h
  have h239 := e.1
  replace h := e.2
  clear e
  exact ⟨⟨h0, h1, h4, h5, h8, h9, h12, h13, h18, h19, h22, h23, h26, h27, h30, h31⟩, ⟨h34, h35, h41, h42, h45, h46, h49, h50, h53, h54, h57, h58, h61, h62, h73, h74⟩, ⟨h77, h78, h81, h82, h85, h86, h89, h90, h93, h94, h97, h98, h101, h102, h105, h106⟩, ⟨h109, h110, h113, h114, h120, h121, h135, h136, h143, h144, h151, h152, h155, h156, h159, h160⟩, ⟨h163, h164, h167, h168, h171, h172, h176, h177, h185, h186, h189, h190, h193, h194, h214, h215⟩, ⟨h218, h219, h222, h223, h226, h227, h230, h231, h234, h235, h238, h239⟩⟩
set_option maxRecDepth 100000 in
set_option maxHeartbeats 40000000 in
theorem lw_t9 : ((Cond.privateMethod ⟨"OnePaneModel", "triesAnew", "()V"⟩) ∈ tables_1 ∧ (Cond.instanceMethod ⟨"OnePaneModel", "triesAnew", "()V"⟩) ∈ tables_1 ∧ (Cond.privateMethod ⟨"OnePaneModel", "cracksBy", "(I)I"⟩) ∈ tables_1 ∧ (Cond.instanceMethod ⟨"OnePaneModel", "cracksBy", "(I)I"⟩) ∈ tables_1 ∧ (Cond.privateMethod ⟨"OnePaneModel", "standsTry", "(III)V"⟩) ∈ tables_1 ∧ (Cond.instanceMethod ⟨"OnePaneModel", "standsTry", "(III)V"⟩) ∈ tables_1 ∧ (Cond.privateMethod ⟨"OnePaneModel", "refuses", "(I)I"⟩) ∈ tables_1 ∧ (Cond.instanceMethod ⟨"OnePaneModel", "refuses", "(I)I"⟩) ∈ tables_1 ∧ (Cond.privateMethod ⟨"OnePaneModel", "laysSets", "()V"⟩) ∈ tables_1 ∧ (Cond.instanceMethod ⟨"OnePaneModel", "laysSets", "()V"⟩) ∈ tables_1 ∧ (Cond.privateMethod ⟨"OnePaneModel", "isAsHeard", "(I)Z"⟩) ∈ tables_1 ∧ (Cond.instanceMethod ⟨"OnePaneModel", "isAsHeard", "(I)Z"⟩) ∈ tables_1 ∧ (Cond.privateMethod ⟨"OnePaneModel", "mostAlike", "(I)I"⟩) ∈ tables_1 ∧ (Cond.instanceMethod ⟨"OnePaneModel", "mostAlike", "(I)I"⟩) ∈ tables_1 ∧ (Cond.privateMethod ⟨"OnePaneModel", "isRefused", "()Z"⟩) ∈ tables_1 ∧ (Cond.instanceMethod ⟨"OnePaneModel", "isRefused", "()Z"⟩) ∈ tables_1) ∧ ((Cond.privateMethod ⟨"OnePaneModel", "keeps", "()V"⟩) ∈ tables_1 ∧ (Cond.instanceMethod ⟨"OnePaneModel", "keeps", "()V"⟩) ∈ tables_1 ∧ (Cond.privateMethod ⟨"OnePaneModel", "drawOf", "(I)I"⟩) ∈ tables_1 ∧ (Cond.instanceMethod ⟨"OnePaneModel", "drawOf", "(I)I"⟩) ∈ tables_1 ∧ (Cond.privateMethod ⟨"OnePaneModel", "qKind", "()I"⟩) ∈ tables_1 ∧ (Cond.instanceMethod ⟨"OnePaneModel", "qKind", "()I"⟩) ∈ tables_1 ∧ (Cond.privateMethod ⟨"OnePaneModel", "qTold", "(I)J"⟩) ∈ tables_1 ∧ (Cond.instanceMethod ⟨"OnePaneModel", "qTold", "(I)J"⟩) ∈ tables_1 ∧ (Cond.privateMethod ⟨"OnePaneModel", "qOf", "(IJI)J"⟩) ∈ tables_1 ∧ (Cond.instanceMethod ⟨"OnePaneModel", "qOf", "(IJI)J"⟩) ∈ tables_1 ∧ (Cond.privateMethod ⟨"OnePaneModel", "qTakes", "(IJI)V"⟩) ∈ tables_1 ∧ (Cond.instanceMethod ⟨"OnePaneModel", "qTakes", "(IJI)V"⟩) ∈ tables_1 ∧ (Cond.privateMethod ⟨"OnePaneModel", "writes", "(I)V"⟩) ∈ tables_1 ∧ (Cond.instanceMethod ⟨"OnePaneModel", "writes", "(I)V"⟩) ∈ tables_1 ∧ (Cond.privateMethod ⟨"OnePaneModel", "isImage", "(I)Z"⟩) ∈ tables_1 ∧ (Cond.instanceMethod ⟨"OnePaneModel", "isImage", "(I)Z"⟩) ∈ tables_1) ∧ ((Cond.privateMethod ⟨"OnePaneModel", "isPersonTold", "(II)Z"⟩) ∈ tables_1 ∧ (Cond.instanceMethod ⟨"OnePaneModel", "isPersonTold", "(II)Z"⟩) ∈ tables_1) := by
  have h : ∀ w ∈ tables_1_9, w ∈ tables_1 := fun w hm => List.mem_append_right _ (List.mem_append_right _ (List.mem_append_right _ (List.mem_append_right _ (List.mem_append_right _ (List.mem_append_right _ (List.mem_append_right _ (List.mem_append_right _ (hm))))))))
  unfold tables_1_9 at h
  have e := List.forall_mem_cons.mp h
  replace h := e.2
  clear e
  have e := List.forall_mem_cons.mp h
  replace h := e.2
  clear e
  have e := List.forall_mem_cons.mp h
  replace h := e.2
  clear e
  have e := List.forall_mem_cons.mp h
  replace h := e.2
  clear e
  have e := List.forall_mem_cons.mp h
  replace h := e.2
  clear e
  have e := List.forall_mem_cons.mp h
  replace h := e.2
  clear e
  have e := List.forall_mem_cons.mp h
  replace h := e.2
  clear e
  have e := List.forall_mem_cons.mp h
  replace h := e.2
  clear e
  have e := List.forall_mem_cons.mp h
  replace h := e.2
  clear e
  have e := List.forall_mem_cons.mp h
  replace h := e.2
  clear e
  have e := List.forall_mem_cons.mp h
  have h10 := e.1
  replace h := e.2
  clear e
  have e := List.forall_mem_cons.mp h
  have h11 := e.1
  replace h := e.2
  clear e
  have e := List.forall_mem_cons.mp h
  replace h := e.2
  clear e
  have e := List.forall_mem_cons.mp h
  replace h := e.2
  clear e
  have e := List.forall_mem_cons.mp h
  replace h := e.2
  clear e
  have e := List.forall_mem_cons.mp h
  replace h := e.2
  clear e
  have e := List.forall_mem_cons.mp h
  replace h := e.2
  clear e
  have e := List.forall_mem_cons.mp h
  replace h := e.2
  clear e
  have e := List.forall_mem_cons.mp h
  have h18 := e.1
  replace h := e.2
  clear e
  have e := List.forall_mem_cons.mp h
  have h19 := e.1
  replace h := e.2
  clear e
  have e := List.forall_mem_cons.mp h
  replace h := e.2
  clear e
  have e := List.forall_mem_cons.mp h
  replace h := e.2
  clear e
  have e := List.forall_mem_cons.mp h
  replace h := e.2
  clear e
  have e := List.forall_mem_cons.mp h
  replace h := e.2
  clear e
  have e := List.forall_mem_cons.mp h
  replace h := e.2
  clear e
  have e := List.forall_mem_cons.mp h
  replace h := e.2
  clear e
  have e := List.forall_mem_cons.mp h
  replace h := e.2
  clear e
  have e := List.forall_mem_cons.mp h
  replace h := e.2
  clear e
  have e := List.forall_mem_cons.mp h
  replace h := e.2
  clear e
  have e := List.forall_mem_cons.mp h
  replace h := e.2
  clear e
  have e := List.forall_mem_cons.mp h
  have h30 := e.1
  replace h := e.2
  clear e
  have e := List.forall_mem_cons.mp h
  have h31 := e.1
  replace h := e.2
  clear e
  have e := List.forall_mem_cons.mp h
  replace h := e.2
  clear e
  have e := List.forall_mem_cons.mp h
  replace h := e.2
  clear e
  have e := List.forall_mem_cons.mp h
  replace h := e.2
  clear e
  have e := List.forall_mem_cons.mp h
  replace h := e.2
  clear e
  have e := List.forall_mem_cons.mp h
  replace h := e.2
  clear e
  have e := List.forall_mem_cons.mp h
  replace h := e.2
  clear e
  have e := List.forall_mem_cons.mp h
  replace h := e.2
  clear e
  have e := List.forall_mem_cons.mp h
  replace h := e.2
  clear e
  have e := List.forall_mem_cons.mp h
  replace h := e.2
  clear e
  have e := List.forall_mem_cons.mp h
  replace h := e.2
  clear e
  have e := List.forall_mem_cons.mp h
  replace h := e.2
  clear e
  have e := List.forall_mem_cons.mp h
  replace h := e.2
  clear e
  have e := List.forall_mem_cons.mp h
  replace h := e.2
  clear e
  have e := List.forall_mem_cons.mp h
  replace h := e.2
  clear e
  have e := List.forall_mem_cons.mp h
  have h46 := e.1
  replace h := e.2
  clear e
  have e := List.forall_mem_cons.mp h
  have h47 := e.1
  replace h := e.2
  clear e
  have e := List.forall_mem_cons.mp h
  replace h := e.2
  clear e
  have e := List.forall_mem_cons.mp h
  replace h := e.2
  clear e
  have e := List.forall_mem_cons.mp h
  replace h := e.2
  clear e
  have e := List.forall_mem_cons.mp h
  replace h := e.2
  clear e
  have e := List.forall_mem_cons.mp h
  replace h := e.2
  clear e
  have e := List.forall_mem_cons.mp h
  replace h := e.2
  clear e
  have e := List.forall_mem_cons.mp h
  have h54 := e.1
  replace h := e.2
  clear e
  have e := List.forall_mem_cons.mp h
  have h55 := e.1
  replace h := e.2
  clear e
  have e := List.forall_mem_cons.mp h
  replace h := e.2
  clear e
  have e := List.forall_mem_cons.mp h
  replace h := e.2
  clear e
  have e := List.forall_mem_cons.mp h
  have h58 := e.1
  replace h := e.2
  clear e
  have e := List.forall_mem_cons.mp h
  have h59 := e.1
  replace h := e.2
  clear e
  have e := List.forall_mem_cons.mp h
  replace h := e.2
  clear e
  have e := List.forall_mem_cons.mp h
  replace h := e.2
  clear e
  have e := List.forall_mem_cons.mp h
  replace h := e.2
  clear e
  have e := List.forall_mem_cons.mp h
  replace h := e.2
  clear e
  have e := List.forall_mem_cons.mp h
  replace h := e.2
  clear e
  have e := List.forall_mem_cons.mp h
  replace h := e.2
  clear e
  have e := List.forall_mem_cons.mp h
  have h66 := e.1
  replace h := e.2
  clear e
  have e := List.forall_mem_cons.mp h
  have h67 := e.1
  replace h := e.2
  clear e
  have e := List.forall_mem_cons.mp h
  replace h := e.2
  clear e
  have e := List.forall_mem_cons.mp h
  replace h := e.2
  clear e
  have e := List.forall_mem_cons.mp h
  replace h := e.2
  clear e
  have e := List.forall_mem_cons.mp h
  replace h := e.2
  clear e
  have e := List.forall_mem_cons.mp h
  replace h := e.2
  clear e
  have e := List.forall_mem_cons.mp h
  replace h := e.2
  clear e
  have e := List.forall_mem_cons.mp h
  replace h := e.2
  clear e
  have e := List.forall_mem_cons.mp h
  replace h := e.2
  clear e
  have e := List.forall_mem_cons.mp h
  replace h := e.2
  clear e
  have e := List.forall_mem_cons.mp h
  replace h := e.2
  clear e
  have e := List.forall_mem_cons.mp h
  have h78 := e.1
  replace h := e.2
  clear e
  have e := List.forall_mem_cons.mp h
  have h79 := e.1
  replace h := e.2
  clear e
  have e := List.forall_mem_cons.mp h
  replace h := e.2
  clear e
  have e := List.forall_mem_cons.mp h
  replace h := e.2
  clear e
  have e := List.forall_mem_cons.mp h
  have h82 := e.1
  replace h := e.2
  clear e
  have e := List.forall_mem_cons.mp h
  have h83 := e.1
  replace h := e.2
  clear e
  have e := List.forall_mem_cons.mp h
  replace h := e.2
  clear e
  have e := List.forall_mem_cons.mp h
  replace h := e.2
  clear e
  have e := List.forall_mem_cons.mp h
  replace h := e.2
  clear e
  have e := List.forall_mem_cons.mp h
  replace h := e.2
  clear e
  have e := List.forall_mem_cons.mp h
  replace h := e.2
  clear e
  have e := List.forall_mem_cons.mp h
  replace h := e.2
  clear e
  have e := List.forall_mem_cons.mp h
  replace h := e.2
  clear e
  have e := List.forall_mem_cons.mp h
  replace h := e.2
  clear e
  have e := List.forall_mem_cons.mp h
  replace h := e.2
  clear e
  have e := List.forall_mem_cons.mp h
  replace h := e.2
  clear e
  have e := List.forall_mem_cons.mp h
  replace h := e.2
  clear e
  have e := List.forall_mem_cons.mp h
  replace h := e.2
  clear e
  have e := List.forall_mem_cons.mp h
  replace h := e.2
  clear e
  have e := List.forall_mem_cons.mp h
  replace h := e.2
  clear e
  have e := List.forall_mem_cons.mp h
  replace h := e.2
  clear e
  have e := List.forall_mem_cons.mp h
  replace h := e.2
  clear e
  have e := List.forall_mem_cons.mp h
  replace h := e.2
  clear e
  have e := List.forall_mem_cons.mp h
  replace h := e.2
  clear e
  have e := List.forall_mem_cons.mp h
  replace h := e.2
  clear e
  have e := List.forall_mem_cons.mp h
  replace h := e.2
  clear e
  have e := List.forall_mem_cons.mp h
  replace h := e.2
  clear e
  have e := List.forall_mem_cons.mp h
  replace h := e.2
  clear e
  have e := List.forall_mem_cons.mp h
  have h106 := e.1
  replace h := e.2
  clear e
  have e := List.forall_mem_cons.mp h
  have h107 := e.1
  replace h := e.2
  clear e
  have e := List.forall_mem_cons.mp h
  replace h := e.2
  clear e
  have e := List.forall_mem_cons.mp h
  replace h := e.2
  clear e
  have e := List.forall_mem_cons.mp h
  replace h := e.2
  clear e
  have e := List.forall_mem_cons.mp h
  replace h := e.2
  clear e
  have e := List.forall_mem_cons.mp h
  replace h := e.2
  clear e
  have e := List.forall_mem_cons.mp h
  replace h := e.2
  clear e
  have e := List.forall_mem_cons.mp h
  replace h := e.2
  clear e
  have e := List.forall_mem_cons.mp h
  replace h := e.2
  clear e
  have e := List.forall_mem_cons.mp h
  replace h := e.2
  clear e
  have e := List.forall_mem_cons.mp h
  replace h := e.2
  clear e
  have e := List.forall_mem_cons.mp h
  have h118 := e.1
  replace h := e.2
  clear e
  have e := List.forall_mem_cons.mp h
  have h119 := e.1
  replace h := e.2
  clear e
  have e := List.forall_mem_cons.mp h
  replace h := e.2
  clear e
  have e := List.forall_mem_cons.mp h
  replace h := e.2
  clear e
  have e := List.forall_mem_cons.mp h
  replace h := e.2
  clear e
  have e := List.forall_mem_cons.mp h
  have h123 := e.1
  replace h := e.2
  clear e
  have e := List.forall_mem_cons.mp h
  have h124 := e.1
  replace h := e.2
  clear e
  have e := List.forall_mem_cons.mp h
  replace h := e.2
  clear e
  have e := List.forall_mem_cons.mp h
  replace h := e.2
  clear e
  have e := List.forall_mem_cons.mp h
  have h127 := e.1
  replace h := e.2
  clear e
  have e := List.forall_mem_cons.mp h
  have h128 := e.1
  replace h := e.2
  clear e
  have e := List.forall_mem_cons.mp h
  replace h := e.2
  clear e
  have e := List.forall_mem_cons.mp h
  replace h := e.2
  clear e
  have e := List.forall_mem_cons.mp h
  have h131 := e.1
  replace h := e.2
  clear e
  have e := List.forall_mem_cons.mp h
  have h132 := e.1
  replace h := e.2
  clear e
  have e := List.forall_mem_cons.mp h
  replace h := e.2
  clear e
  have e := List.forall_mem_cons.mp h
  replace h := e.2
  clear e
  have e := List.forall_mem_cons.mp h
  replace h := e.2
  clear e
  have e := List.forall_mem_cons.mp h
  replace h := e.2
  clear e
  have e := List.forall_mem_cons.mp h
  replace h := e.2
  clear e
  have e := List.forall_mem_cons.mp h
  replace h := e.2
  clear e
  have e := List.forall_mem_cons.mp h
  have h139 := e.1
  replace h := e.2
  clear e
  have e := List.forall_mem_cons.mp h
  have h140 := e.1
  replace h := e.2
  clear e
  have e := List.forall_mem_cons.mp h
  replace h := e.2
  clear e
  have e := List.forall_mem_cons.mp h
  replace h := e.2
  clear e
  have e := List.forall_mem_cons.mp h
  replace h := e.2
  clear e
  have e := List.forall_mem_cons.mp h
  replace h := e.2
  clear e
  have e := List.forall_mem_cons.mp h
  replace h := e.2
  clear e
  have e := List.forall_mem_cons.mp h
  replace h := e.2
  clear e
  have e := List.forall_mem_cons.mp h
  replace h := e.2
  clear e
  have e := List.forall_mem_cons.mp h
  replace h := e.2
  clear e
  have e := List.forall_mem_cons.mp h
  replace h := e.2
  clear e
  have e := List.forall_mem_cons.mp h
  replace h := e.2
  clear e
  have e := List.forall_mem_cons.mp h
  replace h := e.2
  clear e
  have e := List.forall_mem_cons.mp h
  replace h := e.2
  clear e
  have e := List.forall_mem_cons.mp h
  replace h := e.2
  clear e
  have e := List.forall_mem_cons.mp h
  have h154 := e.1
  replace h := e.2
  clear e
  have e := List.forall_mem_cons.mp h
  have h155 := e.1
  replace h := e.2
  clear e
  have e := List.forall_mem_cons.mp h
  replace h := e.2
  clear e
  have e := List.forall_mem_cons.mp h
  replace h := e.2
  clear e
  have e := List.forall_mem_cons.mp h
  have h158 := e.1
  replace h := e.2
  clear e
  have e := List.forall_mem_cons.mp h
  have h159 := e.1
  replace h := e.2
  clear e
  exact ⟨⟨h10, h11, h18, h19, h30, h31, h46, h47, h54, h55, h58, h59, h66, h67, h78, h79⟩, ⟨h82, h83, h106, h107, h118, h119, h123, h124, h127, h128, h131, h132, h139, h140, h154, h155⟩, ⟨h158, h159⟩⟩
theorem lw_ne0 : "OnePane" ≠ "java/lang/invoke/MethodHandle" ∧ "OnePane" ≠ "java/lang/invoke/VarHandle" := ⟨by decide +kernel, by decide +kernel⟩
theorem lw_ne1 : "OnePane$Abacus" ≠ "java/lang/invoke/MethodHandle" ∧ "OnePane$Abacus" ≠ "java/lang/invoke/VarHandle" := ⟨by decide +kernel, by decide +kernel⟩
theorem lw_ne2 : "OnePane$Grammar" ≠ "java/lang/invoke/MethodHandle" ∧ "OnePane$Grammar" ≠ "java/lang/invoke/VarHandle" := ⟨by decide +kernel, by decide +kernel⟩
theorem lw_ne3 : "OnePane$Reader" ≠ "java/lang/invoke/MethodHandle" ∧ "OnePane$Reader" ≠ "java/lang/invoke/VarHandle" := ⟨by decide +kernel, by decide +kernel⟩
theorem lw_ne4 : "OnePane$Reckoner" ≠ "java/lang/invoke/MethodHandle" ∧ "OnePane$Reckoner" ≠ "java/lang/invoke/VarHandle" := ⟨by decide +kernel, by decide +kernel⟩
theorem lw_ne5 : "OnePane$Sets" ≠ "java/lang/invoke/MethodHandle" ∧ "OnePane$Sets" ≠ "java/lang/invoke/VarHandle" := ⟨by decide +kernel, by decide +kernel⟩
theorem lw_ne6 : "OnePane$Statements" ≠ "java/lang/invoke/MethodHandle" ∧ "OnePane$Statements" ≠ "java/lang/invoke/VarHandle" := ⟨by decide +kernel, by decide +kernel⟩
theorem lw_ne7 : "OnePane$Town" ≠ "java/lang/invoke/MethodHandle" ∧ "OnePane$Town" ≠ "java/lang/invoke/VarHandle" := ⟨by decide +kernel, by decide +kernel⟩
theorem lw_ne8 : "OnePaneModel" ≠ "java/lang/invoke/MethodHandle" ∧ "OnePaneModel" ≠ "java/lang/invoke/VarHandle" := ⟨by decide +kernel, by decide +kernel⟩
theorem lw_p0 : lw_okq (⟨"OnePane", "refusal", "(I)I"⟩, 17) := ⟨lw_ne0, lw_t1.1, lw_t3.1.1, lw_t3.1.2.1⟩
theorem lw_p1 : lw_okq (⟨"OnePane", "denial", "(I)Z"⟩, 17) := ⟨lw_ne0, lw_t1.1, lw_t3.1.2.2.1, lw_t3.1.2.2.2.1⟩
theorem lw_p2 : lw_okq (⟨"OnePane$Reader", "cutWord", "(LOnePane$Tape;I)I"⟩, 9) := ⟨lw_ne3, lw_t1.2, lw_t3.1.2.2.2.2.1, lw_t3.1.2.2.2.2.2.1⟩
theorem lw_p3 : lw_okq (⟨"OnePane$Reader", "addToken", "(IIII)V"⟩, 9) := ⟨lw_ne3, lw_t1.2, lw_t3.1.2.2.2.2.2.2.1, lw_t3.1.2.2.2.2.2.2.2.1⟩
theorem lw_p4 : lw_okq (⟨"OnePane$Reader", "knownWord", "(I)I"⟩, 9) := ⟨lw_ne3, lw_t1.2, lw_t3.1.2.2.2.2.2.2.2.2.1, lw_t3.1.2.2.2.2.2.2.2.2.2.1⟩
theorem lw_p5 : lw_okq (⟨"OnePane$Reader", "cutNumber", "(LOnePane$Tape;I)I"⟩, 9) := ⟨lw_ne3, lw_t1.2, lw_t3.1.2.2.2.2.2.2.2.2.2.2.1, lw_t3.1.2.2.2.2.2.2.2.2.2.2.2.1⟩
theorem lw_p6 : lw_okq (⟨"OnePane$Statements", "readPane", "()V"⟩, 3) := ⟨lw_ne6, lw_t2.2.1, lw_t3.1.2.2.2.2.2.2.2.2.2.2.2.2.1, lw_t3.1.2.2.2.2.2.2.2.2.2.2.2.2.2.1⟩
theorem lw_p7 : lw_okq (⟨"OnePane$Statements", "readStatement", "()V"⟩, 3) := ⟨lw_ne6, lw_t2.2.1, lw_t3.1.2.2.2.2.2.2.2.2.2.2.2.2.2.2.1, lw_t3.1.2.2.2.2.2.2.2.2.2.2.2.2.2.2.2⟩
theorem lw_p8 : lw_okq (⟨"OnePane$Statements", "readHeavy", "()V"⟩, 3) := ⟨lw_ne6, lw_t2.2.1, lw_t3.2.1.1, lw_t3.2.1.2.1⟩
theorem lw_p9 : lw_okq (⟨"OnePane$Statements", "readPole", "()V"⟩, 3) := ⟨lw_ne6, lw_t2.2.1, lw_t3.2.1.2.2.1, lw_t3.2.1.2.2.2.1⟩
theorem lw_p10 : lw_okq (⟨"OnePane$Statements", "takeName", "()I"⟩, 3) := ⟨lw_ne6, lw_t2.2.1, lw_t3.2.1.2.2.2.2.1, lw_t3.2.1.2.2.2.2.2.1⟩
theorem lw_p11 : lw_okq (⟨"OnePane$Statements", "readAdds", "()V"⟩, 3) := ⟨lw_ne6, lw_t2.2.1, lw_t3.2.1.2.2.2.2.2.2.1, lw_t3.2.1.2.2.2.2.2.2.2.1⟩
theorem lw_p12 : lw_okq (⟨"OnePane$Grammar", "sum", "(I)V"⟩, 3) := ⟨lw_ne2, lw_t2.1, lw_t3.2.1.2.2.2.2.2.2.2.2.1, lw_t3.2.1.2.2.2.2.2.2.2.2.2.1⟩
theorem lw_p13 : lw_okq (⟨"OnePane$Grammar", "product", "(I)V"⟩, 3) := ⟨lw_ne2, lw_t2.1, lw_t3.2.1.2.2.2.2.2.2.2.2.2.2.1, lw_t3.2.1.2.2.2.2.2.2.2.2.2.2.2.1⟩
theorem lw_p14 : lw_okq (⟨"OnePane$Grammar", "part", "(I)V"⟩, 3) := ⟨lw_ne2, lw_t2.1, lw_t3.2.1.2.2.2.2.2.2.2.2.2.2.2.2.1, lw_t3.2.1.2.2.2.2.2.2.2.2.2.2.2.2.2.1⟩
theorem lw_p15 : lw_okq (⟨"OnePane$Grammar", "opens", "(I)Z"⟩, 3) := ⟨lw_ne2, lw_t2.1, lw_t3.2.1.2.2.2.2.2.2.2.2.2.2.2.2.2.2.1, lw_t3.2.1.2.2.2.2.2.2.2.2.2.2.2.2.2.2.2⟩
def lw_privs_1 : List (MethodName × Nat) := [(⟨"OnePane", "refusal", "(I)I"⟩, 17), (⟨"OnePane", "denial", "(I)Z"⟩, 17), (⟨"OnePane$Reader", "cutWord", "(LOnePane$Tape;I)I"⟩, 9), (⟨"OnePane$Reader", "addToken", "(IIII)V"⟩, 9), (⟨"OnePane$Reader", "knownWord", "(I)I"⟩, 9), (⟨"OnePane$Reader", "cutNumber", "(LOnePane$Tape;I)I"⟩, 9), (⟨"OnePane$Statements", "readPane", "()V"⟩, 3), (⟨"OnePane$Statements", "readStatement", "()V"⟩, 3), (⟨"OnePane$Statements", "readHeavy", "()V"⟩, 3), (⟨"OnePane$Statements", "readPole", "()V"⟩, 3), (⟨"OnePane$Statements", "takeName", "()I"⟩, 3), (⟨"OnePane$Statements", "readAdds", "()V"⟩, 3), (⟨"OnePane$Grammar", "sum", "(I)V"⟩, 3), (⟨"OnePane$Grammar", "product", "(I)V"⟩, 3), (⟨"OnePane$Grammar", "part", "(I)V"⟩, 3), (⟨"OnePane$Grammar", "opens", "(I)Z"⟩, 3)]
theorem lw_r1 : ∀ q ∈ lw_privs_1, lw_okq q := List.forall_mem_cons.mpr ⟨lw_p0, List.forall_mem_cons.mpr ⟨lw_p1, List.forall_mem_cons.mpr ⟨lw_p2, List.forall_mem_cons.mpr ⟨lw_p3, List.forall_mem_cons.mpr ⟨lw_p4, List.forall_mem_cons.mpr ⟨lw_p5, List.forall_mem_cons.mpr ⟨lw_p6, List.forall_mem_cons.mpr ⟨lw_p7, List.forall_mem_cons.mpr ⟨lw_p8, List.forall_mem_cons.mpr ⟨lw_p9, List.forall_mem_cons.mpr ⟨lw_p10, List.forall_mem_cons.mpr ⟨lw_p11, List.forall_mem_cons.mpr ⟨lw_p12, List.forall_mem_cons.mpr ⟨lw_p13, List.forall_mem_cons.mpr ⟨lw_p14, List.forall_mem_cons.mpr ⟨lw_p15, fun _ h => absurd h List.not_mem_nil⟩⟩⟩⟩⟩⟩⟩⟩⟩⟩⟩⟩⟩⟩⟩⟩
theorem lw_p16 : lw_okq (⟨"OnePane$Grammar", "pair", "(I)V"⟩, 3) := ⟨lw_ne2, lw_t2.1, lw_t3.2.2.1, lw_t3.2.2.2.1⟩
theorem lw_p17 : lw_okq (⟨"OnePane$Grammar", "isValue", "(I)Z"⟩, 3) := ⟨lw_ne2, lw_t2.1, lw_t3.2.2.2.2.1, lw_t3.2.2.2.2.2.1⟩
theorem lw_p18 : lw_okq (⟨"OnePane$Statements", "readHolds", "()V"⟩, 3) := ⟨lw_ne6, lw_t2.2.1, lw_t3.2.2.2.2.2.2, lw_t4.1.1⟩
theorem lw_p19 : lw_okq (⟨"OnePane$Grammar", "test", "(I)V"⟩, 3) := ⟨lw_ne2, lw_t2.1, lw_t4.1.2.1, lw_t4.1.2.2.1⟩
theorem lw_p20 : lw_okq (⟨"OnePane$Grammar", "both", "(I)V"⟩, 3) := ⟨lw_ne2, lw_t2.1, lw_t4.1.2.2.2.1, lw_t4.1.2.2.2.2.1⟩
theorem lw_p21 : lw_okq (⟨"OnePane$Grammar", "fact", "(I)V"⟩, 3) := ⟨lw_ne2, lw_t2.1, lw_t4.1.2.2.2.2.2.1, lw_t4.1.2.2.2.2.2.2.1⟩
theorem lw_p22 : lw_okq (⟨"OnePane$Grammar", "comparison", "(I)V"⟩, 3) := ⟨lw_ne2, lw_t2.1, lw_t4.1.2.2.2.2.2.2.2.1, lw_t4.1.2.2.2.2.2.2.2.2.1⟩
theorem lw_p23 : lw_okq (⟨"OnePane", "rememberFault", "()V"⟩, 17) := ⟨lw_ne0, lw_t1.1, lw_t4.1.2.2.2.2.2.2.2.2.2.1, lw_t4.1.2.2.2.2.2.2.2.2.2.2.1⟩
theorem lw_p24 : lw_okq (⟨"OnePane", "holdersNow", "()I"⟩, 17) := ⟨lw_ne0, lw_t1.1, lw_t4.1.2.2.2.2.2.2.2.2.2.2.2.1, lw_t4.1.2.2.2.2.2.2.2.2.2.2.2.2.1⟩
theorem lw_p25 : lw_okq (⟨"OnePane$Reckoner", "countNear", "(I)I"⟩, 14) := ⟨lw_ne4, lw_t2.2.2.2.2.1, lw_t4.1.2.2.2.2.2.2.2.2.2.2.2.2.2.1, lw_t4.1.2.2.2.2.2.2.2.2.2.2.2.2.2.2.1⟩
theorem lw_p26 : lw_okq (⟨"OnePane$Reckoner", "measureLift", "(I)V"⟩, 14) := ⟨lw_ne4, lw_t2.2.2.2.2.1, lw_t4.1.2.2.2.2.2.2.2.2.2.2.2.2.2.2.2, lw_t4.2.1.1⟩
theorem lw_p27 : lw_okq (⟨"OnePane$Reckoner", "liftOver", "(II)I"⟩, 14) := ⟨lw_ne4, lw_t2.2.2.2.2.1, lw_t4.2.1.2.1, lw_t4.2.1.2.2.1⟩
theorem lw_p28 : lw_okq (⟨"OnePane$Reckoner", "showTime", "()V"⟩, 14) := ⟨lw_ne4, lw_t2.2.2.2.2.1, lw_t4.2.1.2.2.2.1, lw_t4.2.1.2.2.2.2.1⟩
theorem lw_p29 : lw_okq (⟨"OnePane$Reckoner", "showPerson", "(I)V"⟩, 14) := ⟨lw_ne4, lw_t2.2.2.2.2.1, lw_t4.2.1.2.2.2.2.2.1, lw_t4.2.1.2.2.2.2.2.2.1⟩
theorem lw_p30 : lw_okq (⟨"OnePane$Abacus", "farTo", "(I)I"⟩, 4) := ⟨lw_ne1, lw_t2.2.2.2.2.2, lw_t4.2.1.2.2.2.2.2.2.2.1, lw_t4.2.1.2.2.2.2.2.2.2.2.1⟩
theorem lw_p31 : lw_okq (⟨"OnePane", "balanceNow", "()I"⟩, 17) := ⟨lw_ne0, lw_t1.1, lw_t4.2.1.2.2.2.2.2.2.2.2.2.1, lw_t4.2.1.2.2.2.2.2.2.2.2.2.2.1⟩
def lw_privs_2 : List (MethodName × Nat) := [(⟨"OnePane$Grammar", "pair", "(I)V"⟩, 3), (⟨"OnePane$Grammar", "isValue", "(I)Z"⟩, 3), (⟨"OnePane$Statements", "readHolds", "()V"⟩, 3), (⟨"OnePane$Grammar", "test", "(I)V"⟩, 3), (⟨"OnePane$Grammar", "both", "(I)V"⟩, 3), (⟨"OnePane$Grammar", "fact", "(I)V"⟩, 3), (⟨"OnePane$Grammar", "comparison", "(I)V"⟩, 3), (⟨"OnePane", "rememberFault", "()V"⟩, 17), (⟨"OnePane", "holdersNow", "()I"⟩, 17), (⟨"OnePane$Reckoner", "countNear", "(I)I"⟩, 14), (⟨"OnePane$Reckoner", "measureLift", "(I)V"⟩, 14), (⟨"OnePane$Reckoner", "liftOver", "(II)I"⟩, 14), (⟨"OnePane$Reckoner", "showTime", "()V"⟩, 14), (⟨"OnePane$Reckoner", "showPerson", "(I)V"⟩, 14), (⟨"OnePane$Abacus", "farTo", "(I)I"⟩, 4), (⟨"OnePane", "balanceNow", "()I"⟩, 17)]
theorem lw_r2 : ∀ q ∈ lw_privs_2, lw_okq q := List.forall_mem_cons.mpr ⟨lw_p16, List.forall_mem_cons.mpr ⟨lw_p17, List.forall_mem_cons.mpr ⟨lw_p18, List.forall_mem_cons.mpr ⟨lw_p19, List.forall_mem_cons.mpr ⟨lw_p20, List.forall_mem_cons.mpr ⟨lw_p21, List.forall_mem_cons.mpr ⟨lw_p22, List.forall_mem_cons.mpr ⟨lw_p23, List.forall_mem_cons.mpr ⟨lw_p24, List.forall_mem_cons.mpr ⟨lw_p25, List.forall_mem_cons.mpr ⟨lw_p26, List.forall_mem_cons.mpr ⟨lw_p27, List.forall_mem_cons.mpr ⟨lw_p28, List.forall_mem_cons.mpr ⟨lw_p29, List.forall_mem_cons.mpr ⟨lw_p30, List.forall_mem_cons.mpr ⟨lw_p31, fun _ h => absurd h List.not_mem_nil⟩⟩⟩⟩⟩⟩⟩⟩⟩⟩⟩⟩⟩⟩⟩⟩
theorem lw_p32 : lw_okq (⟨"OnePane$Reckoner", "hasLoads", "()Z"⟩, 14) := ⟨lw_ne4, lw_t2.2.2.2.2.1, lw_t4.2.1.2.2.2.2.2.2.2.2.2.2.2.1, lw_t4.2.1.2.2.2.2.2.2.2.2.2.2.2.2.1⟩
theorem lw_p33 : lw_okq (⟨"OnePane$Reckoner", "measureLoads", "()V"⟩, 14) := ⟨lw_ne4, lw_t2.2.2.2.2.1, lw_t4.2.1.2.2.2.2.2.2.2.2.2.2.2.2.2.1, lw_t4.2.1.2.2.2.2.2.2.2.2.2.2.2.2.2.2.1⟩
theorem lw_p34 : lw_okq (⟨"OnePane$Reckoner", "loadNeighbours", "(III)V"⟩, 14) := ⟨lw_ne4, lw_t2.2.2.2.2.1, lw_t4.2.1.2.2.2.2.2.2.2.2.2.2.2.2.2.2.2, lw_t4.2.2.1⟩
theorem lw_p35 : lw_okq (⟨"OnePane$Reckoner", "addLoad", "(III)V"⟩, 14) := ⟨lw_ne4, lw_t2.2.2.2.2.1, lw_t4.2.2.2.1, lw_t4.2.2.2.2.1⟩
theorem lw_p36 : lw_okq (⟨"OnePane$Reckoner", "measureLifted", "(I)V"⟩, 14) := ⟨lw_ne4, lw_t2.2.2.2.2.1, lw_t4.2.2.2.2.2.1, lw_t4.2.2.2.2.2.2.1⟩
theorem lw_p37 : lw_okq (⟨"OnePane", "isAhead", "(III)Z"⟩, 17) := ⟨lw_ne0, lw_t1.1, lw_t4.2.2.2.2.2.2.2.1, lw_t4.2.2.2.2.2.2.2.2.1⟩
theorem lw_p38 : lw_okq (⟨"OnePane", "lookAhead", "(I)V"⟩, 17) := ⟨lw_ne0, lw_t1.1, lw_t4.2.2.2.2.2.2.2.2.2.1, lw_t4.2.2.2.2.2.2.2.2.2.2.1⟩
theorem lw_p39 : lw_okq (⟨"OnePane$Reckoner", "cracking", "()J"⟩, 14) := ⟨lw_ne4, lw_t2.2.2.2.2.1, lw_t4.2.2.2.2.2.2.2.2.2.2.2.1, lw_t4.2.2.2.2.2.2.2.2.2.2.2.2.1⟩
theorem lw_p40 : lw_okq (⟨"OnePane$Reckoner", "tire", "(I)V"⟩, 14) := ⟨lw_ne4, lw_t2.2.2.2.2.1, lw_t4.2.2.2.2.2.2.2.2.2.2.2.2.2.1, lw_t4.2.2.2.2.2.2.2.2.2.2.2.2.2.2⟩
theorem lw_p41 : lw_okq (⟨"OnePane", "staysWhole", "(II)Z"⟩, 17) := ⟨lw_ne0, lw_t1.1, lw_t5.1.1, lw_t5.1.2.1⟩
theorem lw_p42 : lw_okq (⟨"OnePane$Reckoner", "isMissed", "(I)Z"⟩, 14) := ⟨lw_ne4, lw_t2.2.2.2.2.1, lw_t5.1.2.2.1, lw_t5.1.2.2.2.1⟩
theorem lw_p43 : lw_okq (⟨"OnePane$Sets", "keepAwake", "(LOnePane$Reckoner;)V"⟩, 7) := ⟨lw_ne5, lw_t2.2.2.2.1, lw_t5.1.2.2.2.2.1, lw_t5.1.2.2.2.2.2.1⟩
theorem lw_p44 : lw_okq (⟨"OnePane$Sets", "measureLifted", "(LOnePane$Reckoner;I)V"⟩, 7) := ⟨lw_ne5, lw_t2.2.2.2.1, lw_t5.1.2.2.2.2.2.2.1, lw_t5.1.2.2.2.2.2.2.2.1⟩
theorem lw_p45 : lw_okq (⟨"OnePane$Reckoner", "tryPlace", "(III)V"⟩, 14) := ⟨lw_ne4, lw_t2.2.2.2.2.1, lw_t5.1.2.2.2.2.2.2.2.2.1, lw_t5.1.2.2.2.2.2.2.2.2.2.1⟩
theorem lw_p46 : lw_okq (⟨"OnePane", "tellFound", "(II)I"⟩, 17) := ⟨lw_ne0, lw_t1.1, lw_t5.1.2.2.2.2.2.2.2.2.2.2.1, lw_t5.1.2.2.2.2.2.2.2.2.2.2.2.1⟩
theorem lw_p47 : lw_okq (⟨"OnePane", "crackedWithMended", "(II)I"⟩, 17) := ⟨lw_ne0, lw_t1.1, lw_t5.1.2.2.2.2.2.2.2.2.2.2.2.2.1, lw_t5.1.2.2.2.2.2.2.2.2.2.2.2.2.2.1⟩
def lw_privs_3 : List (MethodName × Nat) := [(⟨"OnePane$Reckoner", "hasLoads", "()Z"⟩, 14), (⟨"OnePane$Reckoner", "measureLoads", "()V"⟩, 14), (⟨"OnePane$Reckoner", "loadNeighbours", "(III)V"⟩, 14), (⟨"OnePane$Reckoner", "addLoad", "(III)V"⟩, 14), (⟨"OnePane$Reckoner", "measureLifted", "(I)V"⟩, 14), (⟨"OnePane", "isAhead", "(III)Z"⟩, 17), (⟨"OnePane", "lookAhead", "(I)V"⟩, 17), (⟨"OnePane$Reckoner", "cracking", "()J"⟩, 14), (⟨"OnePane$Reckoner", "tire", "(I)V"⟩, 14), (⟨"OnePane", "staysWhole", "(II)Z"⟩, 17), (⟨"OnePane$Reckoner", "isMissed", "(I)Z"⟩, 14), (⟨"OnePane$Sets", "keepAwake", "(LOnePane$Reckoner;)V"⟩, 7), (⟨"OnePane$Sets", "measureLifted", "(LOnePane$Reckoner;I)V"⟩, 7), (⟨"OnePane$Reckoner", "tryPlace", "(III)V"⟩, 14), (⟨"OnePane", "tellFound", "(II)I"⟩, 17), (⟨"OnePane", "crackedWithMended", "(II)I"⟩, 17)]
theorem lw_r3 : ∀ q ∈ lw_privs_3, lw_okq q := List.forall_mem_cons.mpr ⟨lw_p32, List.forall_mem_cons.mpr ⟨lw_p33, List.forall_mem_cons.mpr ⟨lw_p34, List.forall_mem_cons.mpr ⟨lw_p35, List.forall_mem_cons.mpr ⟨lw_p36, List.forall_mem_cons.mpr ⟨lw_p37, List.forall_mem_cons.mpr ⟨lw_p38, List.forall_mem_cons.mpr ⟨lw_p39, List.forall_mem_cons.mpr ⟨lw_p40, List.forall_mem_cons.mpr ⟨lw_p41, List.forall_mem_cons.mpr ⟨lw_p42, List.forall_mem_cons.mpr ⟨lw_p43, List.forall_mem_cons.mpr ⟨lw_p44, List.forall_mem_cons.mpr ⟨lw_p45, List.forall_mem_cons.mpr ⟨lw_p46, List.forall_mem_cons.mpr ⟨lw_p47, fun _ h => absurd h List.not_mem_nil⟩⟩⟩⟩⟩⟩⟩⟩⟩⟩⟩⟩⟩⟩⟩⟩
theorem lw_p48 : lw_okq (⟨"OnePane$Sets", "mostAlike", "(LOnePane$Reckoner;I)I"⟩, 7) := ⟨lw_ne5, lw_t2.2.2.2.1, lw_t5.1.2.2.2.2.2.2.2.2.2.2.2.2.2.2.1, lw_t5.1.2.2.2.2.2.2.2.2.2.2.2.2.2.2.2⟩
theorem lw_p49 : lw_okq (⟨"OnePane$Town", "keepOne", "(I)V"⟩, 8) := ⟨lw_ne7, lw_t2.2.2.1, lw_t5.2.1, lw_t5.2.2.1⟩
theorem lw_p50 : lw_okq (⟨"OnePane", "draw", "(I)I"⟩, 17) := ⟨lw_ne0, lw_t1.1, lw_t5.2.2.2.1, lw_t5.2.2.2.2.1⟩
theorem lw_p51 : lw_okq (⟨"OnePane", "firstFor", "(I)I"⟩, 17) := ⟨lw_ne0, lw_t1.1, lw_t5.2.2.2.2.2.1, lw_t5.2.2.2.2.2.2.1⟩
theorem lw_p52 : lw_okq (⟨"OnePane", "answerOf", "(II)I"⟩, 17) := ⟨lw_ne0, lw_t1.1, lw_t5.2.2.2.2.2.2.2.1, lw_t5.2.2.2.2.2.2.2.2.1⟩
theorem lw_p53 : lw_okq (⟨"OnePane", "lastFor", "(I)I"⟩, 17) := ⟨lw_ne0, lw_t1.1, lw_t5.2.2.2.2.2.2.2.2.2.1, lw_t5.2.2.2.2.2.2.2.2.2.2.1⟩
theorem lw_p54 : lw_okq (⟨"OnePane", "howOften", "(I)I"⟩, 17) := ⟨lw_ne0, lw_t1.1, lw_t5.2.2.2.2.2.2.2.2.2.2.2.1, lw_t5.2.2.2.2.2.2.2.2.2.2.2.2.1⟩
theorem lw_p55 : lw_okq (⟨"OnePane", "total", "(I)J"⟩, 17) := ⟨lw_ne0, lw_t1.1, lw_t5.2.2.2.2.2.2.2.2.2.2.2.2.2.1, lw_t5.2.2.2.2.2.2.2.2.2.2.2.2.2.2.1⟩
theorem lw_p56 : lw_okq (⟨"OnePane", "most", "(I)I"⟩, 17) := ⟨lw_ne0, lw_t1.1, lw_t5.2.2.2.2.2.2.2.2.2.2.2.2.2.2.2.1, lw_t5.2.2.2.2.2.2.2.2.2.2.2.2.2.2.2.2⟩
theorem lw_p57 : lw_okq (⟨"OnePane", "least", "(I)I"⟩, 17) := ⟨lw_ne0, lw_t1.1, lw_t6.1, lw_t6.2.1⟩
theorem lw_p58 : lw_okq (⟨"OnePane$Town", "readPerson", "(LOnePane$Plan;LOnePane$Tape;II)Z"⟩, 8) := ⟨lw_ne7, lw_t2.2.2.1, lw_t6.2.2.1, lw_t6.2.2.2.1⟩
theorem lw_p59 : lw_okq (⟨"OnePaneModel", "paneTold", "()V"⟩, 108) := ⟨lw_ne8, lw_t6.2.2.2.2, lw_t7.1.1, lw_t7.1.2.1⟩
theorem lw_p60 : lw_okq (⟨"OnePaneModel", "asks", "([C)V"⟩, 108) := ⟨lw_ne8, lw_t6.2.2.2.2, lw_t7.1.2.2.1, lw_t7.1.2.2.2.1⟩
theorem lw_p61 : lw_okq (⟨"OnePaneModel", "takes", "([C)Z"⟩, 108) := ⟨lw_ne8, lw_t6.2.2.2.2, lw_t7.1.2.2.2.2.1, lw_t7.1.2.2.2.2.2.1⟩
theorem lw_p62 : lw_okq (⟨"OnePaneModel", "isHere", "([C)Z"⟩, 108) := ⟨lw_ne8, lw_t6.2.2.2.2, lw_t7.1.2.2.2.2.2.2.1, lw_t7.1.2.2.2.2.2.2.2.1⟩
theorem lw_p63 : lw_okq (⟨"OnePaneModel", "look", "()I"⟩, 108) := ⟨lw_ne8, lw_t6.2.2.2.2, lw_t7.1.2.2.2.2.2.2.2.2.1, lw_t7.1.2.2.2.2.2.2.2.2.2.1⟩
def lw_privs_4 : List (MethodName × Nat) := [(⟨"OnePane$Sets", "mostAlike", "(LOnePane$Reckoner;I)I"⟩, 7), (⟨"OnePane$Town", "keepOne", "(I)V"⟩, 8), (⟨"OnePane", "draw", "(I)I"⟩, 17), (⟨"OnePane", "firstFor", "(I)I"⟩, 17), (⟨"OnePane", "answerOf", "(II)I"⟩, 17), (⟨"OnePane", "lastFor", "(I)I"⟩, 17), (⟨"OnePane", "howOften", "(I)I"⟩, 17), (⟨"OnePane", "total", "(I)J"⟩, 17), (⟨"OnePane", "most", "(I)I"⟩, 17), (⟨"OnePane", "least", "(I)I"⟩, 17), (⟨"OnePane$Town", "readPerson", "(LOnePane$Plan;LOnePane$Tape;II)Z"⟩, 8), (⟨"OnePaneModel", "paneTold", "()V"⟩, 108), (⟨"OnePaneModel", "asks", "([C)V"⟩, 108), (⟨"OnePaneModel", "takes", "([C)Z"⟩, 108), (⟨"OnePaneModel", "isHere", "([C)Z"⟩, 108), (⟨"OnePaneModel", "look", "()I"⟩, 108)]
theorem lw_r4 : ∀ q ∈ lw_privs_4, lw_okq q := List.forall_mem_cons.mpr ⟨lw_p48, List.forall_mem_cons.mpr ⟨lw_p49, List.forall_mem_cons.mpr ⟨lw_p50, List.forall_mem_cons.mpr ⟨lw_p51, List.forall_mem_cons.mpr ⟨lw_p52, List.forall_mem_cons.mpr ⟨lw_p53, List.forall_mem_cons.mpr ⟨lw_p54, List.forall_mem_cons.mpr ⟨lw_p55, List.forall_mem_cons.mpr ⟨lw_p56, List.forall_mem_cons.mpr ⟨lw_p57, List.forall_mem_cons.mpr ⟨lw_p58, List.forall_mem_cons.mpr ⟨lw_p59, List.forall_mem_cons.mpr ⟨lw_p60, List.forall_mem_cons.mpr ⟨lw_p61, List.forall_mem_cons.mpr ⟨lw_p62, List.forall_mem_cons.mpr ⟨lw_p63, fun _ h => absurd h List.not_mem_nil⟩⟩⟩⟩⟩⟩⟩⟩⟩⟩⟩⟩⟩⟩⟩⟩
theorem lw_p64 : lw_okq (⟨"OnePaneModel", "fail", "(II)V"⟩, 108) := ⟨lw_ne8, lw_t6.2.2.2.2, lw_t7.1.2.2.2.2.2.2.2.2.2.2.1, lw_t7.1.2.2.2.2.2.2.2.2.2.2.2.1⟩
theorem lw_p65 : lw_okq (⟨"OnePaneModel", "number", "(II)I"⟩, 108) := ⟨lw_ne8, lw_t6.2.2.2.2, lw_t7.1.2.2.2.2.2.2.2.2.2.2.2.2.1, lw_t7.1.2.2.2.2.2.2.2.2.2.2.2.2.2.1⟩
theorem lw_p66 : lw_okq (⟨"OnePaneModel", "asksSign", "(I)V"⟩, 108) := ⟨lw_ne8, lw_t6.2.2.2.2, lw_t7.1.2.2.2.2.2.2.2.2.2.2.2.2.2.2.1, lw_t7.1.2.2.2.2.2.2.2.2.2.2.2.2.2.2.2⟩
theorem lw_p67 : lw_okq (⟨"OnePaneModel", "takesSign", "(I)Z"⟩, 108) := ⟨lw_ne8, lw_t6.2.2.2.2, lw_t7.2.1.1, lw_t7.2.1.2.1⟩
theorem lw_p68 : lw_okq (⟨"OnePaneModel", "statementTold", "()V"⟩, 108) := ⟨lw_ne8, lw_t6.2.2.2.2, lw_t7.2.1.2.2.1, lw_t7.2.1.2.2.2.1⟩
theorem lw_p69 : lw_okq (⟨"OnePaneModel", "heavyTold", "()V"⟩, 108) := ⟨lw_ne8, lw_t6.2.2.2.2, lw_t7.2.1.2.2.2.2.1, lw_t7.2.1.2.2.2.2.2.1⟩
theorem lw_p70 : lw_okq (⟨"OnePaneModel", "cellTold", "()I"⟩, 108) := ⟨lw_ne8, lw_t6.2.2.2.2, lw_t7.2.1.2.2.2.2.2.2.1, lw_t7.2.1.2.2.2.2.2.2.2.1⟩
theorem lw_p71 : lw_okq (⟨"OnePaneModel", "poleTold", "(I)V"⟩, 108) := ⟨lw_ne8, lw_t6.2.2.2.2, lw_t7.2.1.2.2.2.2.2.2.2.2.1, lw_t7.2.1.2.2.2.2.2.2.2.2.2.1⟩
theorem lw_p72 : lw_okq (⟨"OnePaneModel", "name", "()J"⟩, 108) := ⟨lw_ne8, lw_t6.2.2.2.2, lw_t7.2.1.2.2.2.2.2.2.2.2.2.2.1, lw_t7.2.1.2.2.2.2.2.2.2.2.2.2.2.1⟩
theorem lw_p73 : lw_okq (⟨"OnePaneModel", "isOwnHere", "()Z"⟩, 108) := ⟨lw_ne8, lw_t6.2.2.2.2, lw_t7.2.1.2.2.2.2.2.2.2.2.2.2.2.2.1, lw_t7.2.1.2.2.2.2.2.2.2.2.2.2.2.2.2.1⟩
theorem lw_p74 : lw_okq (⟨"OnePaneModel", "codesTold", "(II)V"⟩, 108) := ⟨lw_ne8, lw_t6.2.2.2.2, lw_t7.2.1.2.2.2.2.2.2.2.2.2.2.2.2.2.2.1, lw_t7.2.1.2.2.2.2.2.2.2.2.2.2.2.2.2.2.2⟩
theorem lw_p75 : lw_okq (⟨"OnePaneModel", "qTest", "()V"⟩, 108) := ⟨lw_ne8, lw_t6.2.2.2.2, lw_t7.2.2.1, lw_t7.2.2.2.1⟩
theorem lw_p76 : lw_okq (⟨"OnePaneModel", "qOpens", "(II)V"⟩, 108) := ⟨lw_ne8, lw_t6.2.2.2.2, lw_t7.2.2.2.2.1, lw_t7.2.2.2.2.2.1⟩
theorem lw_p77 : lw_okq (⟨"OnePaneModel", "qFact", "()V"⟩, 108) := ⟨lw_ne8, lw_t6.2.2.2.2, lw_t7.2.2.2.2.2.2.1, lw_t7.2.2.2.2.2.2.2.1⟩
theorem lw_p78 : lw_okq (⟨"OnePaneModel", "qCode", "(I)V"⟩, 108) := ⟨lw_ne8, lw_t6.2.2.2.2, lw_t7.2.2.2.2.2.2.2.2.1, lw_t7.2.2.2.2.2.2.2.2.2.1⟩
theorem lw_p79 : lw_okq (⟨"OnePaneModel", "qSums", "()V"⟩, 108) := ⟨lw_ne8, lw_t6.2.2.2.2, lw_t7.2.2.2.2.2.2.2.2.2.2.1, lw_t7.2.2.2.2.2.2.2.2.2.2.2⟩
def lw_privs_5 : List (MethodName × Nat) := [(⟨"OnePaneModel", "fail", "(II)V"⟩, 108), (⟨"OnePaneModel", "number", "(II)I"⟩, 108), (⟨"OnePaneModel", "asksSign", "(I)V"⟩, 108), (⟨"OnePaneModel", "takesSign", "(I)Z"⟩, 108), (⟨"OnePaneModel", "statementTold", "()V"⟩, 108), (⟨"OnePaneModel", "heavyTold", "()V"⟩, 108), (⟨"OnePaneModel", "cellTold", "()I"⟩, 108), (⟨"OnePaneModel", "poleTold", "(I)V"⟩, 108), (⟨"OnePaneModel", "name", "()J"⟩, 108), (⟨"OnePaneModel", "isOwnHere", "()Z"⟩, 108), (⟨"OnePaneModel", "codesTold", "(II)V"⟩, 108), (⟨"OnePaneModel", "qTest", "()V"⟩, 108), (⟨"OnePaneModel", "qOpens", "(II)V"⟩, 108), (⟨"OnePaneModel", "qFact", "()V"⟩, 108), (⟨"OnePaneModel", "qCode", "(I)V"⟩, 108), (⟨"OnePaneModel", "qSums", "()V"⟩, 108)]
theorem lw_r5 : ∀ q ∈ lw_privs_5, lw_okq q := List.forall_mem_cons.mpr ⟨lw_p64, List.forall_mem_cons.mpr ⟨lw_p65, List.forall_mem_cons.mpr ⟨lw_p66, List.forall_mem_cons.mpr ⟨lw_p67, List.forall_mem_cons.mpr ⟨lw_p68, List.forall_mem_cons.mpr ⟨lw_p69, List.forall_mem_cons.mpr ⟨lw_p70, List.forall_mem_cons.mpr ⟨lw_p71, List.forall_mem_cons.mpr ⟨lw_p72, List.forall_mem_cons.mpr ⟨lw_p73, List.forall_mem_cons.mpr ⟨lw_p74, List.forall_mem_cons.mpr ⟨lw_p75, List.forall_mem_cons.mpr ⟨lw_p76, List.forall_mem_cons.mpr ⟨lw_p77, List.forall_mem_cons.mpr ⟨lw_p78, List.forall_mem_cons.mpr ⟨lw_p79, fun _ h => absurd h List.not_mem_nil⟩⟩⟩⟩⟩⟩⟩⟩⟩⟩⟩⟩⟩⟩⟩⟩
theorem lw_p80 : lw_okq (⟨"OnePaneModel", "qPartTold", "()V"⟩, 108) := ⟨lw_ne8, lw_t6.2.2.2.2, lw_t8.1.1, lw_t8.1.2.1⟩
theorem lw_p81 : lw_okq (⟨"OnePaneModel", "qWordOf", "(II)I"⟩, 108) := ⟨lw_ne8, lw_t6.2.2.2.2, lw_t8.1.2.2.1, lw_t8.1.2.2.2.1⟩
theorem lw_p82 : lw_okq (⟨"OnePaneModel", "qWordHere", "()I"⟩, 108) := ⟨lw_ne8, lw_t6.2.2.2.2, lw_t8.1.2.2.2.2.1, lw_t8.1.2.2.2.2.2.1⟩
theorem lw_p83 : lw_okq (⟨"OnePaneModel", "isAllowed", "(I)Z"⟩, 108) := ⟨lw_ne8, lw_t6.2.2.2.2, lw_t8.1.2.2.2.2.2.2.1, lw_t8.1.2.2.2.2.2.2.2.1⟩
theorem lw_p84 : lw_okq (⟨"OnePaneModel", "qAsksWord", "(I)V"⟩, 108) := ⟨lw_ne8, lw_t6.2.2.2.2, lw_t8.1.2.2.2.2.2.2.2.2.1, lw_t8.1.2.2.2.2.2.2.2.2.2.1⟩
theorem lw_p85 : lw_okq (⟨"OnePaneModel", "qEndsPart", "()V"⟩, 108) := ⟨lw_ne8, lw_t6.2.2.2.2, lw_t8.1.2.2.2.2.2.2.2.2.2.2.1, lw_t8.1.2.2.2.2.2.2.2.2.2.2.2.1⟩
theorem lw_p86 : lw_okq (⟨"OnePaneModel", "qDrops", "()V"⟩, 108) := ⟨lw_ne8, lw_t6.2.2.2.2, lw_t8.1.2.2.2.2.2.2.2.2.2.2.2.2.1, lw_t8.1.2.2.2.2.2.2.2.2.2.2.2.2.2.1⟩
theorem lw_p87 : lw_okq (⟨"OnePaneModel", "qGoesOn", "()Z"⟩, 108) := ⟨lw_ne8, lw_t6.2.2.2.2, lw_t8.1.2.2.2.2.2.2.2.2.2.2.2.2.2.2.1, lw_t8.1.2.2.2.2.2.2.2.2.2.2.2.2.2.2.2⟩
theorem lw_p88 : lw_okq (⟨"OnePaneModel", "qBracket", "()I"⟩, 108) := ⟨lw_ne8, lw_t6.2.2.2.2, lw_t8.2.1.1, lw_t8.2.1.2.1⟩
theorem lw_p89 : lw_okq (⟨"OnePaneModel", "qDropsToBracket", "()V"⟩, 108) := ⟨lw_ne8, lw_t6.2.2.2.2, lw_t8.2.1.2.2.1, lw_t8.2.1.2.2.2.1⟩
theorem lw_p90 : lw_okq (⟨"OnePaneModel", "qIsOn", "(I)Z"⟩, 108) := ⟨lw_ne8, lw_t6.2.2.2.2, lw_t8.2.1.2.2.2.2.1, lw_t8.2.1.2.2.2.2.2.1⟩
theorem lw_p91 : lw_okq (⟨"OnePaneModel", "qDropsNots", "()V"⟩, 108) := ⟨lw_ne8, lw_t6.2.2.2.2, lw_t8.2.1.2.2.2.2.2.2.1, lw_t8.2.1.2.2.2.2.2.2.2.1⟩
theorem lw_p92 : lw_okq (⟨"OnePaneModel", "qGoesOnTest", "()Z"⟩, 108) := ⟨lw_ne8, lw_t6.2.2.2.2, lw_t8.2.1.2.2.2.2.2.2.2.2.1, lw_t8.2.1.2.2.2.2.2.2.2.2.2.1⟩
theorem lw_p93 : lw_okq (⟨"OnePaneModel", "qHasSquare", "()Z"⟩, 108) := ⟨lw_ne8, lw_t6.2.2.2.2, lw_t8.2.1.2.2.2.2.2.2.2.2.2.2.1, lw_t8.2.1.2.2.2.2.2.2.2.2.2.2.2.1⟩
theorem lw_p94 : lw_okq (⟨"OnePaneModel", "stands", "()V"⟩, 108) := ⟨lw_ne8, lw_t6.2.2.2.2, lw_t8.2.1.2.2.2.2.2.2.2.2.2.2.2.2.1, lw_t8.2.1.2.2.2.2.2.2.2.2.2.2.2.2.2.1⟩
theorem lw_p95 : lw_okq (⟨"OnePaneModel", "peopleMany", "()I"⟩, 108) := ⟨lw_ne8, lw_t6.2.2.2.2, lw_t8.2.1.2.2.2.2.2.2.2.2.2.2.2.2.2.2.1, lw_t8.2.1.2.2.2.2.2.2.2.2.2.2.2.2.2.2.2⟩
def lw_privs_6 : List (MethodName × Nat) := [(⟨"OnePaneModel", "qPartTold", "()V"⟩, 108), (⟨"OnePaneModel", "qWordOf", "(II)I"⟩, 108), (⟨"OnePaneModel", "qWordHere", "()I"⟩, 108), (⟨"OnePaneModel", "isAllowed", "(I)Z"⟩, 108), (⟨"OnePaneModel", "qAsksWord", "(I)V"⟩, 108), (⟨"OnePaneModel", "qEndsPart", "()V"⟩, 108), (⟨"OnePaneModel", "qDrops", "()V"⟩, 108), (⟨"OnePaneModel", "qGoesOn", "()Z"⟩, 108), (⟨"OnePaneModel", "qBracket", "()I"⟩, 108), (⟨"OnePaneModel", "qDropsToBracket", "()V"⟩, 108), (⟨"OnePaneModel", "qIsOn", "(I)Z"⟩, 108), (⟨"OnePaneModel", "qDropsNots", "()V"⟩, 108), (⟨"OnePaneModel", "qGoesOnTest", "()Z"⟩, 108), (⟨"OnePaneModel", "qHasSquare", "()Z"⟩, 108), (⟨"OnePaneModel", "stands", "()V"⟩, 108), (⟨"OnePaneModel", "peopleMany", "()I"⟩, 108)]
theorem lw_r6 : ∀ q ∈ lw_privs_6, lw_okq q := List.forall_mem_cons.mpr ⟨lw_p80, List.forall_mem_cons.mpr ⟨lw_p81, List.forall_mem_cons.mpr ⟨lw_p82, List.forall_mem_cons.mpr ⟨lw_p83, List.forall_mem_cons.mpr ⟨lw_p84, List.forall_mem_cons.mpr ⟨lw_p85, List.forall_mem_cons.mpr ⟨lw_p86, List.forall_mem_cons.mpr ⟨lw_p87, List.forall_mem_cons.mpr ⟨lw_p88, List.forall_mem_cons.mpr ⟨lw_p89, List.forall_mem_cons.mpr ⟨lw_p90, List.forall_mem_cons.mpr ⟨lw_p91, List.forall_mem_cons.mpr ⟨lw_p92, List.forall_mem_cons.mpr ⟨lw_p93, List.forall_mem_cons.mpr ⟨lw_p94, List.forall_mem_cons.mpr ⟨lw_p95, fun _ h => absurd h List.not_mem_nil⟩⟩⟩⟩⟩⟩⟩⟩⟩⟩⟩⟩⟩⟩⟩⟩
theorem lw_p96 : lw_okq (⟨"OnePaneModel", "crackedMany", "()I"⟩, 108) := ⟨lw_ne8, lw_t6.2.2.2.2, lw_t8.2.2.1.1, lw_t8.2.2.1.2.1⟩
theorem lw_p97 : lw_okq (⟨"OnePaneModel", "holders", "()I"⟩, 108) := ⟨lw_ne8, lw_t6.2.2.2.2, lw_t8.2.2.1.2.2.1, lw_t8.2.2.1.2.2.2.1⟩
theorem lw_p98 : lw_okq (⟨"OnePaneModel", "isAtRest", "(I)Z"⟩, 108) := ⟨lw_ne8, lw_t6.2.2.2.2, lw_t8.2.2.1.2.2.2.2.1, lw_t8.2.2.1.2.2.2.2.2.1⟩
theorem lw_p99 : lw_okq (⟨"OnePaneModel", "codesTell", "(II)J"⟩, 108) := ⟨lw_ne8, lw_t6.2.2.2.2, lw_t8.2.2.1.2.2.2.2.2.2.1, lw_t8.2.2.1.2.2.2.2.2.2.2.1⟩
theorem lw_p100 : lw_okq (⟨"OnePaneModel", "qPuts", "(J)V"⟩, 108) := ⟨lw_ne8, lw_t6.2.2.2.2, lw_t8.2.2.1.2.2.2.2.2.2.2.2.1, lw_t8.2.2.1.2.2.2.2.2.2.2.2.2.1⟩
theorem lw_p101 : lw_okq (⟨"OnePaneModel", "qPartOf", "(II)J"⟩, 108) := ⟨lw_ne8, lw_t6.2.2.2.2, lw_t8.2.2.1.2.2.2.2.2.2.2.2.2.2.1, lw_t8.2.2.1.2.2.2.2.2.2.2.2.2.2.2.1⟩
theorem lw_p102 : lw_okq (⟨"OnePaneModel", "strengthOf", "(I)I"⟩, 108) := ⟨lw_ne8, lw_t6.2.2.2.2, lw_t8.2.2.1.2.2.2.2.2.2.2.2.2.2.2.2.1, lw_t8.2.2.1.2.2.2.2.2.2.2.2.2.2.2.2.2.1⟩
theorem lw_p103 : lw_okq (⟨"OnePaneModel", "tiredOf", "(I)I"⟩, 108) := ⟨lw_ne8, lw_t6.2.2.2.2, lw_t8.2.2.1.2.2.2.2.2.2.2.2.2.2.2.2.2.2.1, lw_t8.2.2.1.2.2.2.2.2.2.2.2.2.2.2.2.2.2.2⟩
theorem lw_p104 : lw_okq (⟨"OnePaneModel", "nearOf", "(I)I"⟩, 108) := ⟨lw_ne8, lw_t6.2.2.2.2, lw_t8.2.2.2.1.1, lw_t8.2.2.2.1.2.1⟩
theorem lw_p105 : lw_okq (⟨"OnePaneModel", "placeOf", "(I)I"⟩, 108) := ⟨lw_ne8, lw_t6.2.2.2.2, lw_t8.2.2.2.1.2.2.1, lw_t8.2.2.2.1.2.2.2.1⟩
theorem lw_p106 : lw_okq (⟨"OnePaneModel", "qJoins", "(I)V"⟩, 108) := ⟨lw_ne8, lw_t6.2.2.2.2, lw_t8.2.2.2.1.2.2.2.2.1, lw_t8.2.2.2.1.2.2.2.2.2.1⟩
theorem lw_p107 : lw_okq (⟨"OnePaneModel", "awake", "()I"⟩, 108) := ⟨lw_ne8, lw_t6.2.2.2.2, lw_t8.2.2.2.1.2.2.2.2.2.2.1, lw_t8.2.2.2.1.2.2.2.2.2.2.2.1⟩
theorem lw_p108 : lw_okq (⟨"OnePaneModel", "isPerson", "(I)Z"⟩, 108) := ⟨lw_ne8, lw_t6.2.2.2.2, lw_t8.2.2.2.1.2.2.2.2.2.2.2.2.1, lw_t8.2.2.2.1.2.2.2.2.2.2.2.2.2.1⟩
theorem lw_p109 : lw_okq (⟨"OnePaneModel", "cellAt", "(II)I"⟩, 108) := ⟨lw_ne8, lw_t6.2.2.2.2, lw_t8.2.2.2.1.2.2.2.2.2.2.2.2.2.2.1, lw_t8.2.2.2.1.2.2.2.2.2.2.2.2.2.2.2.1⟩
theorem lw_p110 : lw_okq (⟨"OnePaneModel", "laysLoads", "()V"⟩, 108) := ⟨lw_ne8, lw_t6.2.2.2.2, lw_t8.2.2.2.1.2.2.2.2.2.2.2.2.2.2.2.2.1, lw_t8.2.2.2.1.2.2.2.2.2.2.2.2.2.2.2.2.2.1⟩
theorem lw_p111 : lw_okq (⟨"OnePaneModel", "cellMany", "()I"⟩, 108) := ⟨lw_ne8, lw_t6.2.2.2.2, lw_t8.2.2.2.1.2.2.2.2.2.2.2.2.2.2.2.2.2.2.1, lw_t8.2.2.2.1.2.2.2.2.2.2.2.2.2.2.2.2.2.2.2⟩
def lw_privs_7 : List (MethodName × Nat) := [(⟨"OnePaneModel", "crackedMany", "()I"⟩, 108), (⟨"OnePaneModel", "holders", "()I"⟩, 108), (⟨"OnePaneModel", "isAtRest", "(I)Z"⟩, 108), (⟨"OnePaneModel", "codesTell", "(II)J"⟩, 108), (⟨"OnePaneModel", "qPuts", "(J)V"⟩, 108), (⟨"OnePaneModel", "qPartOf", "(II)J"⟩, 108), (⟨"OnePaneModel", "strengthOf", "(I)I"⟩, 108), (⟨"OnePaneModel", "tiredOf", "(I)I"⟩, 108), (⟨"OnePaneModel", "nearOf", "(I)I"⟩, 108), (⟨"OnePaneModel", "placeOf", "(I)I"⟩, 108), (⟨"OnePaneModel", "qJoins", "(I)V"⟩, 108), (⟨"OnePaneModel", "awake", "()I"⟩, 108), (⟨"OnePaneModel", "isPerson", "(I)Z"⟩, 108), (⟨"OnePaneModel", "cellAt", "(II)I"⟩, 108), (⟨"OnePaneModel", "laysLoads", "()V"⟩, 108), (⟨"OnePaneModel", "cellMany", "()I"⟩, 108)]
theorem lw_r7 : ∀ q ∈ lw_privs_7, lw_okq q := List.forall_mem_cons.mpr ⟨lw_p96, List.forall_mem_cons.mpr ⟨lw_p97, List.forall_mem_cons.mpr ⟨lw_p98, List.forall_mem_cons.mpr ⟨lw_p99, List.forall_mem_cons.mpr ⟨lw_p100, List.forall_mem_cons.mpr ⟨lw_p101, List.forall_mem_cons.mpr ⟨lw_p102, List.forall_mem_cons.mpr ⟨lw_p103, List.forall_mem_cons.mpr ⟨lw_p104, List.forall_mem_cons.mpr ⟨lw_p105, List.forall_mem_cons.mpr ⟨lw_p106, List.forall_mem_cons.mpr ⟨lw_p107, List.forall_mem_cons.mpr ⟨lw_p108, List.forall_mem_cons.mpr ⟨lw_p109, List.forall_mem_cons.mpr ⟨lw_p110, List.forall_mem_cons.mpr ⟨lw_p111, fun _ h => absurd h List.not_mem_nil⟩⟩⟩⟩⟩⟩⟩⟩⟩⟩⟩⟩⟩⟩⟩⟩
theorem lw_p112 : lw_okq (⟨"OnePaneModel", "cellOf", "(I)I"⟩, 108) := ⟨lw_ne8, lw_t6.2.2.2.2, lw_t8.2.2.2.2.1.1, lw_t8.2.2.2.2.1.2.1⟩
theorem lw_p113 : lw_okq (⟨"OnePaneModel", "isCracked", "(I)Z"⟩, 108) := ⟨lw_ne8, lw_t6.2.2.2.2, lw_t8.2.2.2.2.1.2.2.1, lw_t8.2.2.2.2.1.2.2.2.1⟩
theorem lw_p114 : lw_okq (⟨"OnePaneModel", "addsOf", "(I)I"⟩, 108) := ⟨lw_ne8, lw_t6.2.2.2.2, lw_t8.2.2.2.2.1.2.2.2.2.1, lw_t8.2.2.2.2.1.2.2.2.2.2.1⟩
theorem lw_p115 : lw_okq (⟨"OnePaneModel", "standsAt", "(I)I"⟩, 108) := ⟨lw_ne8, lw_t6.2.2.2.2, lw_t8.2.2.2.2.1.2.2.2.2.2.2.1, lw_t8.2.2.2.2.1.2.2.2.2.2.2.2.1⟩
theorem lw_p116 : lw_okq (⟨"OnePaneModel", "slackBy", "(II)I"⟩, 108) := ⟨lw_ne8, lw_t6.2.2.2.2, lw_t8.2.2.2.2.1.2.2.2.2.2.2.2.2.1, lw_t8.2.2.2.2.1.2.2.2.2.2.2.2.2.2.1⟩
theorem lw_p117 : lw_okq (⟨"OnePaneModel", "liftBy", "(II)I"⟩, 108) := ⟨lw_ne8, lw_t6.2.2.2.2, lw_t8.2.2.2.2.1.2.2.2.2.2.2.2.2.2.2.1, lw_t8.2.2.2.2.1.2.2.2.2.2.2.2.2.2.2.2.1⟩
theorem lw_p118 : lw_okq (⟨"OnePaneModel", "liftOf", "(III)I"⟩, 108) := ⟨lw_ne8, lw_t6.2.2.2.2, lw_t8.2.2.2.2.1.2.2.2.2.2.2.2.2.2.2.2.2.1, lw_t8.2.2.2.2.1.2.2.2.2.2.2.2.2.2.2.2.2.2.1⟩
theorem lw_p119 : lw_okq (⟨"OnePaneModel", "isAhead", "(III)Z"⟩, 108) := ⟨lw_ne8, lw_t6.2.2.2.2, lw_t8.2.2.2.2.1.2.2.2.2.2.2.2.2.2.2.2.2.2.2.1, lw_t8.2.2.2.2.1.2.2.2.2.2.2.2.2.2.2.2.2.2.2.2⟩
theorem lw_p120 : lw_okq (⟨"OnePaneModel", "putsAside", "()V"⟩, 108) := ⟨lw_ne8, lw_t6.2.2.2.2, lw_t8.2.2.2.2.2.1, lw_t8.2.2.2.2.2.2.1⟩
theorem lw_p121 : lw_okq (⟨"OnePaneModel", "hoursGo", "(I)V"⟩, 108) := ⟨lw_ne8, lw_t6.2.2.2.2, lw_t8.2.2.2.2.2.2.2.1, lw_t8.2.2.2.2.2.2.2.2.1⟩
theorem lw_p122 : lw_okq (⟨"OnePaneModel", "hourGoes", "()V"⟩, 108) := ⟨lw_ne8, lw_t6.2.2.2.2, lw_t8.2.2.2.2.2.2.2.2.2.1, lw_t8.2.2.2.2.2.2.2.2.2.2.1⟩
theorem lw_p123 : lw_okq (⟨"OnePaneModel", "isKept", "(I)V"⟩, 108) := ⟨lw_ne8, lw_t6.2.2.2.2, lw_t8.2.2.2.2.2.2.2.2.2.2.2.1, lw_t8.2.2.2.2.2.2.2.2.2.2.2.2.1⟩
theorem lw_p124 : lw_okq (⟨"OnePaneModel", "tiredAll", "()I"⟩, 108) := ⟨lw_ne8, lw_t6.2.2.2.2, lw_t8.2.2.2.2.2.2.2.2.2.2.2.2.2.1, lw_t8.2.2.2.2.2.2.2.2.2.2.2.2.2.2.1⟩
theorem lw_p125 : lw_okq (⟨"OnePaneModel", "takesBack", "()V"⟩, 108) := ⟨lw_ne8, lw_t6.2.2.2.2, lw_t8.2.2.2.2.2.2.2.2.2.2.2.2.2.2.2.1, lw_t8.2.2.2.2.2.2.2.2.2.2.2.2.2.2.2.2⟩
theorem lw_p126 : lw_okq (⟨"OnePaneModel", "triesAnew", "()V"⟩, 108) := ⟨lw_ne8, lw_t6.2.2.2.2, lw_t9.1.1, lw_t9.1.2.1⟩
theorem lw_p127 : lw_okq (⟨"OnePaneModel", "cracksBy", "(I)I"⟩, 108) := ⟨lw_ne8, lw_t6.2.2.2.2, lw_t9.1.2.2.1, lw_t9.1.2.2.2.1⟩
def lw_privs_8 : List (MethodName × Nat) := [(⟨"OnePaneModel", "cellOf", "(I)I"⟩, 108), (⟨"OnePaneModel", "isCracked", "(I)Z"⟩, 108), (⟨"OnePaneModel", "addsOf", "(I)I"⟩, 108), (⟨"OnePaneModel", "standsAt", "(I)I"⟩, 108), (⟨"OnePaneModel", "slackBy", "(II)I"⟩, 108), (⟨"OnePaneModel", "liftBy", "(II)I"⟩, 108), (⟨"OnePaneModel", "liftOf", "(III)I"⟩, 108), (⟨"OnePaneModel", "isAhead", "(III)Z"⟩, 108), (⟨"OnePaneModel", "putsAside", "()V"⟩, 108), (⟨"OnePaneModel", "hoursGo", "(I)V"⟩, 108), (⟨"OnePaneModel", "hourGoes", "()V"⟩, 108), (⟨"OnePaneModel", "isKept", "(I)V"⟩, 108), (⟨"OnePaneModel", "tiredAll", "()I"⟩, 108), (⟨"OnePaneModel", "takesBack", "()V"⟩, 108), (⟨"OnePaneModel", "triesAnew", "()V"⟩, 108), (⟨"OnePaneModel", "cracksBy", "(I)I"⟩, 108)]
theorem lw_r8 : ∀ q ∈ lw_privs_8, lw_okq q := List.forall_mem_cons.mpr ⟨lw_p112, List.forall_mem_cons.mpr ⟨lw_p113, List.forall_mem_cons.mpr ⟨lw_p114, List.forall_mem_cons.mpr ⟨lw_p115, List.forall_mem_cons.mpr ⟨lw_p116, List.forall_mem_cons.mpr ⟨lw_p117, List.forall_mem_cons.mpr ⟨lw_p118, List.forall_mem_cons.mpr ⟨lw_p119, List.forall_mem_cons.mpr ⟨lw_p120, List.forall_mem_cons.mpr ⟨lw_p121, List.forall_mem_cons.mpr ⟨lw_p122, List.forall_mem_cons.mpr ⟨lw_p123, List.forall_mem_cons.mpr ⟨lw_p124, List.forall_mem_cons.mpr ⟨lw_p125, List.forall_mem_cons.mpr ⟨lw_p126, List.forall_mem_cons.mpr ⟨lw_p127, fun _ h => absurd h List.not_mem_nil⟩⟩⟩⟩⟩⟩⟩⟩⟩⟩⟩⟩⟩⟩⟩⟩
theorem lw_p128 : lw_okq (⟨"OnePaneModel", "standsTry", "(III)V"⟩, 108) := ⟨lw_ne8, lw_t6.2.2.2.2, lw_t9.1.2.2.2.2.1, lw_t9.1.2.2.2.2.2.1⟩
theorem lw_p129 : lw_okq (⟨"OnePaneModel", "refuses", "(I)I"⟩, 108) := ⟨lw_ne8, lw_t6.2.2.2.2, lw_t9.1.2.2.2.2.2.2.1, lw_t9.1.2.2.2.2.2.2.2.1⟩
theorem lw_p130 : lw_okq (⟨"OnePaneModel", "laysSets", "()V"⟩, 108) := ⟨lw_ne8, lw_t6.2.2.2.2, lw_t9.1.2.2.2.2.2.2.2.2.1, lw_t9.1.2.2.2.2.2.2.2.2.2.1⟩
theorem lw_p131 : lw_okq (⟨"OnePaneModel", "isAsHeard", "(I)Z"⟩, 108) := ⟨lw_ne8, lw_t6.2.2.2.2, lw_t9.1.2.2.2.2.2.2.2.2.2.2.1, lw_t9.1.2.2.2.2.2.2.2.2.2.2.2.1⟩
theorem lw_p132 : lw_okq (⟨"OnePaneModel", "mostAlike", "(I)I"⟩, 108) := ⟨lw_ne8, lw_t6.2.2.2.2, lw_t9.1.2.2.2.2.2.2.2.2.2.2.2.2.1, lw_t9.1.2.2.2.2.2.2.2.2.2.2.2.2.2.1⟩
theorem lw_p133 : lw_okq (⟨"OnePaneModel", "isRefused", "()Z"⟩, 108) := ⟨lw_ne8, lw_t6.2.2.2.2, lw_t9.1.2.2.2.2.2.2.2.2.2.2.2.2.2.2.1, lw_t9.1.2.2.2.2.2.2.2.2.2.2.2.2.2.2.2⟩
theorem lw_p134 : lw_okq (⟨"OnePaneModel", "keeps", "()V"⟩, 108) := ⟨lw_ne8, lw_t6.2.2.2.2, lw_t9.2.1.1, lw_t9.2.1.2.1⟩
theorem lw_p135 : lw_okq (⟨"OnePaneModel", "drawOf", "(I)I"⟩, 108) := ⟨lw_ne8, lw_t6.2.2.2.2, lw_t9.2.1.2.2.1, lw_t9.2.1.2.2.2.1⟩
theorem lw_p136 : lw_okq (⟨"OnePaneModel", "qKind", "()I"⟩, 108) := ⟨lw_ne8, lw_t6.2.2.2.2, lw_t9.2.1.2.2.2.2.1, lw_t9.2.1.2.2.2.2.2.1⟩
theorem lw_p137 : lw_okq (⟨"OnePaneModel", "qTold", "(I)J"⟩, 108) := ⟨lw_ne8, lw_t6.2.2.2.2, lw_t9.2.1.2.2.2.2.2.2.1, lw_t9.2.1.2.2.2.2.2.2.2.1⟩
theorem lw_p138 : lw_okq (⟨"OnePaneModel", "qOf", "(IJI)J"⟩, 108) := ⟨lw_ne8, lw_t6.2.2.2.2, lw_t9.2.1.2.2.2.2.2.2.2.2.1, lw_t9.2.1.2.2.2.2.2.2.2.2.2.1⟩
theorem lw_p139 : lw_okq (⟨"OnePaneModel", "qTakes", "(IJI)V"⟩, 108) := ⟨lw_ne8, lw_t6.2.2.2.2, lw_t9.2.1.2.2.2.2.2.2.2.2.2.2.1, lw_t9.2.1.2.2.2.2.2.2.2.2.2.2.2.1⟩
theorem lw_p140 : lw_okq (⟨"OnePaneModel", "writes", "(I)V"⟩, 108) := ⟨lw_ne8, lw_t6.2.2.2.2, lw_t9.2.1.2.2.2.2.2.2.2.2.2.2.2.2.1, lw_t9.2.1.2.2.2.2.2.2.2.2.2.2.2.2.2.1⟩
theorem lw_p141 : lw_okq (⟨"OnePaneModel", "isImage", "(I)Z"⟩, 108) := ⟨lw_ne8, lw_t6.2.2.2.2, lw_t9.2.1.2.2.2.2.2.2.2.2.2.2.2.2.2.2.1, lw_t9.2.1.2.2.2.2.2.2.2.2.2.2.2.2.2.2.2⟩
theorem lw_p142 : lw_okq (⟨"OnePaneModel", "isPersonTold", "(II)Z"⟩, 108) := ⟨lw_ne8, lw_t6.2.2.2.2, lw_t9.2.2.1, lw_t9.2.2.2⟩
def lw_privs_9 : List (MethodName × Nat) := [(⟨"OnePaneModel", "standsTry", "(III)V"⟩, 108), (⟨"OnePaneModel", "refuses", "(I)I"⟩, 108), (⟨"OnePaneModel", "laysSets", "()V"⟩, 108), (⟨"OnePaneModel", "isAsHeard", "(I)Z"⟩, 108), (⟨"OnePaneModel", "mostAlike", "(I)I"⟩, 108), (⟨"OnePaneModel", "isRefused", "()Z"⟩, 108), (⟨"OnePaneModel", "keeps", "()V"⟩, 108), (⟨"OnePaneModel", "drawOf", "(I)I"⟩, 108), (⟨"OnePaneModel", "qKind", "()I"⟩, 108), (⟨"OnePaneModel", "qTold", "(I)J"⟩, 108), (⟨"OnePaneModel", "qOf", "(IJI)J"⟩, 108), (⟨"OnePaneModel", "qTakes", "(IJI)V"⟩, 108), (⟨"OnePaneModel", "writes", "(I)V"⟩, 108), (⟨"OnePaneModel", "isImage", "(I)Z"⟩, 108), (⟨"OnePaneModel", "isPersonTold", "(II)Z"⟩, 108)]
theorem lw_r9 : ∀ q ∈ lw_privs_9, lw_okq q := List.forall_mem_cons.mpr ⟨lw_p128, List.forall_mem_cons.mpr ⟨lw_p129, List.forall_mem_cons.mpr ⟨lw_p130, List.forall_mem_cons.mpr ⟨lw_p131, List.forall_mem_cons.mpr ⟨lw_p132, List.forall_mem_cons.mpr ⟨lw_p133, List.forall_mem_cons.mpr ⟨lw_p134, List.forall_mem_cons.mpr ⟨lw_p135, List.forall_mem_cons.mpr ⟨lw_p136, List.forall_mem_cons.mpr ⟨lw_p137, List.forall_mem_cons.mpr ⟨lw_p138, List.forall_mem_cons.mpr ⟨lw_p139, List.forall_mem_cons.mpr ⟨lw_p140, List.forall_mem_cons.mpr ⟨lw_p141, List.forall_mem_cons.mpr ⟨lw_p142, fun _ h => absurd h List.not_mem_nil⟩⟩⟩⟩⟩⟩⟩⟩⟩⟩⟩⟩⟩⟩⟩
def lw_privs : List (MethodName × Nat) := lw_privs_1 ++ (lw_privs_2 ++ (lw_privs_3 ++ (lw_privs_4 ++ (lw_privs_5 ++ (lw_privs_6 ++ (lw_privs_7 ++ (lw_privs_8 ++ (lw_privs_9))))))))
def lw_tbl : List Cond := k2_sels lw_privs ++ tables_1
theorem lw_privs_ok : ∀ q ∈ lw_privs, lw_okq q := by
  show ∀ q ∈ lw_privs_1 ++ (lw_privs_2 ++ (lw_privs_3 ++ (lw_privs_4 ++ (lw_privs_5 ++ (lw_privs_6 ++ (lw_privs_7 ++ (lw_privs_8 ++ (lw_privs_9)))))))), lw_okq q
  exact List.forall_mem_append.mpr ⟨lw_r1, List.forall_mem_append.mpr ⟨lw_r2, List.forall_mem_append.mpr ⟨lw_r3, List.forall_mem_append.mpr ⟨lw_r4, List.forall_mem_append.mpr ⟨lw_r5, List.forall_mem_append.mpr ⟨lw_r6, List.forall_mem_append.mpr ⟨lw_r7, List.forall_mem_append.mpr ⟨lw_r8, lw_r9⟩⟩⟩⟩⟩⟩⟩⟩

/-! ===== BEGIN words of one list among another's, by their places ===== -/
theorem goodIn_r {big : List Cond} (ws : List Cond) (ps : List Nat) (hp : ws = ps.filterMap (fun i => big[i]?)) (h : ws.all goodWord = true) : GoodIn big ws := by
  intro w hw
  have h1 := List.all_eq_true.mp h w hw
  rw [hp] at hw
  obtain ⟨i, -, hi⟩ := List.mem_filterMap.mp hw
  have hm : w ∈ big := by first | exact List.mem_of_getElem? hi | exact List.getElem?_mem hi
  exact ⟨hm, good_of_word h1⟩
theorem goodIn_app {big a b : List Cond} (ha : GoodIn big a) (hb : GoodIn big b) : GoodIn big (a ++ b) := fun w h => (List.mem_append.mp h).elim (ha w) (hb w)
theorem goodIn_ca {big a b : List Cond} {c : Cond} (ha : GoodIn big (c :: a)) (hb : GoodIn big b) : GoodIn big (c :: (a ++ b)) := fun w h => (List.mem_cons.mp h).elim (fun e => ha w (List.mem_cons.mpr (Or.inl e))) (fun h => (List.mem_append.mp h).elim (fun h => ha w (List.mem_cons.mpr (Or.inr h))) (hb w))
theorem goodIn_sub {big ws : List Cond} (hm : ∀ w ∈ ws, w ∈ big) (h : ws.all goodWord = true) : GoodIn big ws := fun w hw => ⟨hm w hw, good_of_word (List.all_eq_true.mp h w hw)⟩
/-! ===== END ===== -/
def RX0 : String := "OnePane$Abacus"
def TX0 : u_T := fun k => match k with
  | 0 => ("OnePane$Abacus", "values", "[I", true)
  | 1 => ("OnePane$Abacus", "stack", "[I", true)
  | 2 => ("OnePane$Abacus", "far", "[I", true)
  | _ => ("OnePane$Abacus", "people", "I", false)
def tyX0 : Nat → FieldType := fun k => match k with
  | 0 => .array .int
  | 1 => .array .int
  | 2 => .array .int
  | _ => .int
abbrev wsX00 : List Cond := u_ws RX0 TX0 4
theorem nmX0 : ∀ a, a < 4 → ∀ b, b < 4 → a ≠ b → (TX0 a).2.1 ≠ (TX0 b).2.1 := by decide +kernel
theorem tyX0_ok : ∀ k, k < 4 → parseFieldDescriptor (TX0 k).2.2.1 = some (tyX0 k) := by decide +kernel
abbrev cX0_init : ByteArray := prog_2_method_1_code
def yX0_init : MethodName := ⟨RX0, "<init>", "()V"⟩
abbrev cX0_run : ByteArray := prog_2_method_2_code
def yX0_run : MethodName := ⟨RX0, "run", "(LOnePane$Program;)I"⟩
abbrev cX0_takesTwo : ByteArray := prog_2_method_3_code
def yX0_takesTwo : MethodName := ⟨RX0, "takesTwo", "(I)Z"⟩
abbrev cX0_joined : ByteArray := prog_2_method_4_code
def yX0_joined : MethodName := ⟨RX0, "joined", "(III)I"⟩
abbrev cX0_limited : ByteArray := prog_2_method_5_code
def yX0_limited : MethodName := ⟨RX0, "limited", "(J)I"⟩
abbrev cX0_farTo : ByteArray := prog_2_method_6_code
def yX0_farTo : MethodName := ⟨RX0, "farTo", "(I)I"⟩
def RX1 : String := "OnePane$Grammar"
def TX1 : u_T := fun k => match k with
  | 0 => ("OnePane$Grammar", "reader", "LOnePane$Reader;", true)
  | 1 => ("OnePane$Grammar", "program", "LOnePane$Program;", false)
  | _ => ("OnePane$Grammar", "realm", "I", false)
def tyX1 : Nat → FieldType := fun k => match k with
  | 0 => .object "OnePane$Reader"
  | 1 => .object "OnePane$Program"
  | _ => .int
abbrev wsX10 : List Cond := u_ws RX1 TX1 3
theorem nmX1 : ∀ a, a < 3 → ∀ b, b < 3 → a ≠ b → (TX1 a).2.1 ≠ (TX1 b).2.1 := by decide +kernel
theorem tyX1_ok : ∀ k, k < 3 → parseFieldDescriptor (TX1 k).2.2.1 = some (tyX1 k) := by decide +kernel
abbrev cX1_init : ByteArray := prog_3_method_1_code
def yX1_init : MethodName := ⟨RX1, "<init>", "(LOnePane$Reader;LOnePane$Program;)V"⟩
abbrev cX1_readSum : ByteArray := prog_3_method_2_code
def yX1_readSum : MethodName := ⟨RX1, "readSum", "(LOnePane$Program;I)V"⟩
abbrev cX1_readTest : ByteArray := prog_3_method_3_code
def yX1_readTest : MethodName := ⟨RX1, "readTest", "(LOnePane$Program;I)V"⟩
abbrev cX1_readQuestion : ByteArray := prog_3_method_4_code
def yX1_readQuestion : MethodName := ⟨RX1, "readQuestion", "(LOnePane$Program;LOnePane$Tape;)I"⟩
abbrev cX1_test : ByteArray := prog_3_method_5_code
def yX1_test : MethodName := ⟨RX1, "test", "(I)V"⟩
abbrev cX1_both : ByteArray := prog_3_method_6_code
def yX1_both : MethodName := ⟨RX1, "both", "(I)V"⟩
abbrev cX1_fact : ByteArray := prog_3_method_7_code
def yX1_fact : MethodName := ⟨RX1, "fact", "(I)V"⟩
abbrev cX1_comparison : ByteArray := prog_3_method_8_code
def yX1_comparison : MethodName := ⟨RX1, "comparison", "(I)V"⟩
abbrev cX1_sum : ByteArray := prog_3_method_9_code
def yX1_sum : MethodName := ⟨RX1, "sum", "(I)V"⟩
abbrev cX1_product : ByteArray := prog_3_method_10_code
def yX1_product : MethodName := ⟨RX1, "product", "(I)V"⟩
abbrev cX1_part : ByteArray := prog_3_method_11_code
def yX1_part : MethodName := ⟨RX1, "part", "(I)V"⟩
abbrev cX1_pair : ByteArray := prog_3_method_12_code
def yX1_pair : MethodName := ⟨RX1, "pair", "(I)V"⟩
abbrev cX1_opens : ByteArray := prog_3_method_13_code
def yX1_opens : MethodName := ⟨RX1, "opens", "(I)Z"⟩
abbrev cX1_isValue : ByteArray := prog_3_method_14_code
def yX1_isValue : MethodName := ⟨RX1, "isValue", "(I)Z"⟩
def RX2 : String := "OnePane$Past"
def TX2 : u_T := fun k => match k with
  | 0 => ("OnePane$Past", "towns", "[LOnePane$Town;", true)
  | 1 => ("OnePane$Past", "top", "I", false)
  | _ => ("OnePane$Past", "count", "I", false)
def tyX2 : Nat → FieldType := fun k => match k with
  | 0 => .array (.object "OnePane$Town")
  | 1 => .int
  | _ => .int
abbrev wsX20 : List Cond := u_ws RX2 TX2 3
theorem nmX2 : ∀ a, a < 3 → ∀ b, b < 3 → a ≠ b → (TX2 a).2.1 ≠ (TX2 b).2.1 := by decide +kernel
theorem tyX2_ok : ∀ k, k < 3 → parseFieldDescriptor (TX2 k).2.2.1 = some (tyX2 k) := by decide +kernel
abbrev cX2_init : ByteArray := prog_4_method_1_code
def yX2_init : MethodName := ⟨RX2, "<init>", "()V"⟩
abbrev cX2_push : ByteArray := prog_4_method_2_code
def yX2_push : MethodName := ⟨RX2, "push", "(LOnePane$Town;)V"⟩
abbrev cX2_pop : ByteArray := prog_4_method_3_code
def yX2_pop : MethodName := ⟨RX2, "pop", "(LOnePane$Town;)Z"⟩
def RX3 : String := "OnePane$Plan"
def TX3 : u_T := fun k => match k with
  | 0 => ("OnePane$Plan", "weight", "[I", true)
  | 1 => ("OnePane$Plan", "name", "[I", true)
  | 2 => ("OnePane$Plan", "homeColumn", "[I", true)
  | 3 => ("OnePane$Plan", "homeRow", "[I", true)
  | 4 => ("OnePane$Plan", "strength", "[I", true)
  | 5 => ("OnePane$Plan", "adds", "LOnePane$Program;", true)
  | 6 => ("OnePane$Plan", "holds", "LOnePane$Program;", true)
  | 7 => ("OnePane$Plan", "toldAdds", "Z", false)
  | 8 => ("OnePane$Plan", "toldHolds", "Z", false)
  | 9 => ("OnePane$Plan", "addsByHour", "Z", false)
  | 10 => ("OnePane$Plan", "columns", "I", false)
  | 11 => ("OnePane$Plan", "rows", "I", false)
  | 12 => ("OnePane$Plan", "people", "I", false)
  | 13 => ("OnePane$Plan", "tough", "I", false)
  | 14 => ("OnePane$Plan", "fades", "I", false)
  | 15 => ("OnePane$Plan", "stone", "I", false)
  | _ => ("OnePane$Plan", "hail", "I", false)
def tyX3 : Nat → FieldType := fun k => match k with
  | 0 => .array .int
  | 1 => .array .int
  | 2 => .array .int
  | 3 => .array .int
  | 4 => .array .int
  | 5 => .object "OnePane$Program"
  | 6 => .object "OnePane$Program"
  | 7 => .boolean
  | 8 => .boolean
  | 9 => .boolean
  | 10 => .int
  | 11 => .int
  | 12 => .int
  | 13 => .int
  | 14 => .int
  | 15 => .int
  | _ => .int
abbrev wsX30 : List Cond := u_ws RX3 TX3 17
theorem nmX3 : ∀ a, a < 17 → ∀ b, b < 17 → a ≠ b → (TX3 a).2.1 ≠ (TX3 b).2.1 := by decide +kernel
theorem tyX3_ok : ∀ k, k < 17 → parseFieldDescriptor (TX3 k).2.2.1 = some (tyX3 k) := by decide +kernel
abbrev cX3_init : ByteArray := prog_5_method_1_code
def yX3_init : MethodName := ⟨RX3, "<init>", "()V"⟩
abbrev cX3_clear : ByteArray := prog_5_method_2_code
def yX3_clear : MethodName := ⟨RX3, "clear", "()V"⟩
abbrev cX3_setSides : ByteArray := prog_5_method_3_code
def yX3_setSides : MethodName := ⟨RX3, "setSides", "(II)V"⟩
abbrev cX3_isTold : ByteArray := prog_5_method_4_code
def yX3_isTold : MethodName := ⟨RX3, "isTold", "()Z"⟩
abbrev cX3_cells : ByteArray := prog_5_method_5_code
def yX3_cells : MethodName := ⟨RX3, "cells", "()I"⟩
abbrev cX3_cellAt : ByteArray := prog_5_method_6_code
def yX3_cellAt : MethodName := ⟨RX3, "cellAt", "(II)I"⟩
abbrev cX3_hasCell : ByteArray := prog_5_method_7_code
def yX3_hasCell : MethodName := ⟨RX3, "hasCell", "(II)Z"⟩
abbrev cX3_hasPerson : ByteArray := prog_5_method_8_code
def yX3_hasPerson : MethodName := ⟨RX3, "hasPerson", "(I)Z"⟩
abbrev cX3_isNamed : ByteArray := prog_5_method_9_code
def yX3_isNamed : MethodName := ⟨RX3, "isNamed", "(I)Z"⟩
abbrev cX3_isHome : ByteArray := prog_5_method_10_code
def yX3_isHome : MethodName := ⟨RX3, "isHome", "(II)Z"⟩
abbrev cX3_addPerson : ByteArray := prog_5_method_11_code
def yX3_addPerson : MethodName := ⟨RX3, "addPerson", "(IIII)V"⟩
def RX4 : String := "OnePane$Program"
def TX4 : u_T := fun k => match k with
  | 0 => ("OnePane$Program", "code", "[I", true)
  | _ => ("OnePane$Program", "length", "I", false)
def tyX4 : Nat → FieldType := fun k => match k with
  | 0 => .array .int
  | _ => .int
abbrev wsX40 : List Cond := u_ws RX4 TX4 2
theorem nmX4 : ∀ a, a < 2 → ∀ b, b < 2 → a ≠ b → (TX4 a).2.1 ≠ (TX4 b).2.1 := by decide +kernel
theorem tyX4_ok : ∀ k, k < 2 → parseFieldDescriptor (TX4 k).2.2.1 = some (tyX4 k) := by decide +kernel
abbrev cX4_init : ByteArray := prog_6_method_1_code
def yX4_init : MethodName := ⟨RX4, "<init>", "()V"⟩
abbrev cX4_addNumber : ByteArray := prog_6_method_2_code
def yX4_addNumber : MethodName := ⟨RX4, "addNumber", "(I)V"⟩
abbrev cX4_addStep : ByteArray := prog_6_method_3_code
def yX4_addStep : MethodName := ⟨RX4, "addStep", "(I)V"⟩
abbrev cX4_setStep : ByteArray := prog_6_method_4_code
def yX4_setStep : MethodName := ⟨RX4, "setStep", "(I)V"⟩
abbrev cX4_hasStep : ByteArray := prog_6_method_5_code
def yX4_hasStep : MethodName := ⟨RX4, "hasStep", "(I)Z"⟩
def RX5 : String := "OnePane$Reader"
def TX5 : u_T := fun k => match k with
  | 0 => ("OnePane$Reader", "table", "[I", true)
  | 1 => ("OnePane$Reader", "kinds", "[I", true)
  | 2 => ("OnePane$Reader", "places", "[I", true)
  | 3 => ("OnePane$Reader", "values", "[I", true)
  | 4 => ("OnePane$Reader", "words", "[I", true)
  | 5 => ("OnePane$Reader", "count", "I", false)
  | 6 => ("OnePane$Reader", "at", "I", false)
  | 7 => ("OnePane$Reader", "fault", "I", false)
  | _ => ("OnePane$Reader", "faultPlace", "I", false)
def tyX5 : Nat → FieldType := fun k => match k with
  | 0 => .array .int
  | 1 => .array .int
  | 2 => .array .int
  | 3 => .array .int
  | 4 => .array .int
  | 5 => .int
  | 6 => .int
  | 7 => .int
  | _ => .int
abbrev wsX50 : List Cond := u_ws RX5 TX5 9
theorem nmX5 : ∀ a, a < 9 → ∀ b, b < 9 → a ≠ b → (TX5 a).2.1 ≠ (TX5 b).2.1 := by decide +kernel
theorem tyX5_ok : ∀ k, k < 9 → parseFieldDescriptor (TX5 k).2.2.1 = some (tyX5 k) := by decide +kernel
abbrev cX5_init : ByteArray := prog_7_method_1_code
def yX5_init : MethodName := ⟨RX5, "<init>", "()V"⟩
abbrev cX5_open : ByteArray := prog_7_method_2_code
def yX5_open : MethodName := ⟨RX5, "open", "(LOnePane$Tape;)V"⟩
abbrev cX5_addToken : ByteArray := prog_7_method_3_code
def yX5_addToken : MethodName := ⟨RX5, "addToken", "(IIII)V"⟩
abbrev cX5_cutWord : ByteArray := prog_7_method_4_code
def yX5_cutWord : MethodName := ⟨RX5, "cutWord", "(LOnePane$Tape;I)I"⟩
abbrev cX5_cutNumber : ByteArray := prog_7_method_5_code
def yX5_cutNumber : MethodName := ⟨RX5, "cutNumber", "(LOnePane$Tape;I)I"⟩
abbrev cX5_knownWord : ByteArray := prog_7_method_6_code
def yX5_knownWord : MethodName := ⟨RX5, "knownWord", "(I)I"⟩
abbrev cX5_isLetter : ByteArray := prog_7_method_7_code
def yX5_isLetter : MethodName := ⟨RX5, "isLetter", "(I)Z"⟩
abbrev cX5_isDigit : ByteArray := prog_7_method_8_code
def yX5_isDigit : MethodName := ⟨RX5, "isDigit", "(I)Z"⟩
abbrev cX5_kindHere : ByteArray := prog_7_method_9_code
def yX5_kindHere : MethodName := ⟨RX5, "kindHere", "()I"⟩
abbrev cX5_wordHere : ByteArray := prog_7_method_10_code
def yX5_wordHere : MethodName := ⟨RX5, "wordHere", "()I"⟩
abbrev cX5_signHere : ByteArray := prog_7_method_11_code
def yX5_signHere : MethodName := ⟨RX5, "signHere", "()I"⟩
abbrev cX5_placeHere : ByteArray := prog_7_method_12_code
def yX5_placeHere : MethodName := ⟨RX5, "placeHere", "()I"⟩
abbrev cX5_hasMore : ByteArray := prog_7_method_13_code
def yX5_hasMore : MethodName := ⟨RX5, "hasMore", "()Z"⟩
abbrev cX5_step : ByteArray := prog_7_method_14_code
def yX5_step : MethodName := ⟨RX5, "step", "()V"⟩
abbrev cX5_refuse : ByteArray := prog_7_method_15_code
def yX5_refuse : MethodName := ⟨RX5, "refuse", "(II)V"⟩
abbrev cX5_takeWord : ByteArray := prog_7_method_16_code
def yX5_takeWord : MethodName := ⟨RX5, "takeWord", "(I)V"⟩
abbrev cX5_takeSign : ByteArray := prog_7_method_17_code
def yX5_takeSign : MethodName := ⟨RX5, "takeSign", "(I)V"⟩
abbrev cX5_takeNumber : ByteArray := prog_7_method_18_code
def yX5_takeNumber : MethodName := ⟨RX5, "takeNumber", "(II)I"⟩
def RX6 : String := "OnePane$Reckoner"
def TX6 : u_T := fun k => match k with
  | 0 => ("OnePane$Reckoner", "abacus", "LOnePane$Abacus;", true)
  | 1 => ("OnePane$Reckoner", "lift", "[I", true)
  | 2 => ("OnePane$Reckoner", "near", "[I", true)
  | 3 => ("OnePane$Reckoner", "lifted", "[I", true)
  | 4 => ("OnePane$Reckoner", "load", "[I", true)
  | 5 => ("OnePane$Reckoner", "slack", "[I", true)
  | 6 => ("OnePane$Reckoner", "plan", "LOnePane$Plan;", false)
  | 7 => ("OnePane$Reckoner", "town", "LOnePane$Town;", false)
  | 8 => ("OnePane$Reckoner", "stronger", "I", false)
  | 9 => ("OnePane$Reckoner", "liftedBy", "I", false)
  | 10 => ("OnePane$Reckoner", "loadedHour", "I", false)
  | 11 => ("OnePane$Reckoner", "loadedCracks", "J", false)
  | 12 => ("OnePane$Reckoner", "triedCount", "I", false)
  | _ => ("OnePane$Reckoner", "triedLeast", "I", false)
def tyX6 : Nat → FieldType := fun k => match k with
  | 0 => .object "OnePane$Abacus"
  | 1 => .array .int
  | 2 => .array .int
  | 3 => .array .int
  | 4 => .array .int
  | 5 => .array .int
  | 6 => .object "OnePane$Plan"
  | 7 => .object "OnePane$Town"
  | 8 => .int
  | 9 => .int
  | 10 => .int
  | 11 => .long
  | 12 => .int
  | _ => .int
abbrev wsX60 : List Cond := u_ws RX6 TX6 14
theorem nmX6 : ∀ a, a < 14 → ∀ b, b < 14 → a ≠ b → (TX6 a).2.1 ≠ (TX6 b).2.1 := by decide +kernel
theorem tyX6_ok : ∀ k, k < 14 → parseFieldDescriptor (TX6 k).2.2.1 = some (tyX6 k) := by decide +kernel
abbrev cX6_init : ByteArray := prog_8_method_1_code
def yX6_init : MethodName := ⟨RX6, "<init>", "(LOnePane$Plan;LOnePane$Town;)V"⟩
abbrev cX6_look : ByteArray := prog_8_method_2_code
def yX6_look : MethodName := ⟨RX6, "look", "(LOnePane$Plan;LOnePane$Town;I)V"⟩
abbrev cX6_countNear : ByteArray := prog_8_method_3_code
def yX6_countNear : MethodName := ⟨RX6, "countNear", "(I)I"⟩
abbrev cX6_measureLift : ByteArray := prog_8_method_4_code
def yX6_measureLift : MethodName := ⟨RX6, "measureLift", "(I)V"⟩
abbrev cX6_liftOver : ByteArray := prog_8_method_5_code
def yX6_liftOver : MethodName := ⟨RX6, "liftOver", "(II)I"⟩
abbrev cX6_showTime : ByteArray := prog_8_method_6_code
def yX6_showTime : MethodName := ⟨RX6, "showTime", "()V"⟩
abbrev cX6_showPerson : ByteArray := prog_8_method_7_code
def yX6_showPerson : MethodName := ⟨RX6, "showPerson", "(I)V"⟩
abbrev cX6_showAsked : ByteArray := prog_8_method_8_code
def yX6_showAsked : MethodName := ⟨RX6, "showAsked", "(II)V"⟩
abbrev cX6_holders : ByteArray := prog_8_method_9_code
def yX6_holders : MethodName := ⟨RX6, "holders", "()I"⟩
abbrev cX6_balance : ByteArray := prog_8_method_10_code
def yX6_balance : MethodName := ⟨RX6, "balance", "(I)V"⟩
abbrev cX6_hasLoads : ByteArray := prog_8_method_11_code
def yX6_hasLoads : MethodName := ⟨RX6, "hasLoads", "()Z"⟩
abbrev cX6_measureLoads : ByteArray := prog_8_method_12_code
def yX6_measureLoads : MethodName := ⟨RX6, "measureLoads", "()V"⟩
abbrev cX6_loadNeighbours : ByteArray := prog_8_method_13_code
def yX6_loadNeighbours : MethodName := ⟨RX6, "loadNeighbours", "(III)V"⟩
abbrev cX6_addLoad : ByteArray := prog_8_method_14_code
def yX6_addLoad : MethodName := ⟨RX6, "addLoad", "(III)V"⟩
abbrev cX6_measureLifted : ByteArray := prog_8_method_15_code
def yX6_measureLifted : MethodName := ⟨RX6, "measureLifted", "(I)V"⟩
abbrev cX6_passHour : ByteArray := prog_8_method_16_code
def yX6_passHour : MethodName := ⟨RX6, "passHour", "(I)J"⟩
abbrev cX6_cracking : ByteArray := prog_8_method_17_code
def yX6_cracking : MethodName := ⟨RX6, "cracking", "()J"⟩
abbrev cX6_tire : ByteArray := prog_8_method_18_code
def yX6_tire : MethodName := ⟨RX6, "tire", "(I)V"⟩
abbrev cX6_freeOf : ByteArray := prog_8_method_19_code
def yX6_freeOf : MethodName := ⟨RX6, "freeOf", "(I)I"⟩
abbrev cX6_isMissed : ByteArray := prog_8_method_20_code
def yX6_isMissed : MethodName := ⟨RX6, "isMissed", "(I)Z"⟩
abbrev cX6_weakest : ByteArray := prog_8_method_21_code
def yX6_weakest : MethodName := ⟨RX6, "weakest", "()I"⟩
abbrev cX6_bestPlace : ByteArray := prog_8_method_22_code
def yX6_bestPlace : MethodName := ⟨RX6, "bestPlace", "(I)I"⟩
abbrev cX6_tryPlace : ByteArray := prog_8_method_23_code
def yX6_tryPlace : MethodName := ⟨RX6, "tryPlace", "(III)V"⟩
def RX7 : String := "OnePane$Sets"
def TX7 : u_T := fun k => match k with
  | 0 => ("OnePane$Sets", "left", "[Z", true)
  | 1 => ("OnePane$Sets", "lifted", "[I", true)
  | 2 => ("OnePane$Sets", "often", "[I", true)
  | 3 => ("OnePane$Sets", "soundCell", "[I", true)
  | 4 => ("OnePane$Sets", "soundSlack", "[I", true)
  | 5 => ("OnePane$Sets", "sounds", "I", false)
  | _ => ("OnePane$Sets", "size", "I", false)
def tyX7 : Nat → FieldType := fun k => match k with
  | 0 => .array .boolean
  | 1 => .array .int
  | 2 => .array .int
  | 3 => .array .int
  | 4 => .array .int
  | 5 => .int
  | _ => .int
abbrev wsX70 : List Cond := u_ws RX7 TX7 7
theorem nmX7 : ∀ a, a < 7 → ∀ b, b < 7 → a ≠ b → (TX7 a).2.1 ≠ (TX7 b).2.1 := by decide +kernel
theorem tyX7_ok : ∀ k, k < 7 → parseFieldDescriptor (TX7 k).2.2.1 = some (tyX7 k) := by decide +kernel
abbrev cX7_init : ByteArray := prog_9_method_1_code
def yX7_init : MethodName := ⟨RX7, "<init>", "()V"⟩
abbrev cX7_takeSounds : ByteArray := prog_9_method_2_code
def yX7_takeSounds : MethodName := ⟨RX7, "takeSounds", "(LOnePane$Plan;LOnePane$Tape;)Z"⟩
abbrev cX7_keepAwake : ByteArray := prog_9_method_3_code
def yX7_keepAwake : MethodName := ⟨RX7, "keepAwake", "(LOnePane$Reckoner;)V"⟩
abbrev cX7_measureLifted : ByteArray := prog_9_method_4_code
def yX7_measureLifted : MethodName := ⟨RX7, "measureLifted", "(LOnePane$Reckoner;I)V"⟩
abbrev cX7_keepSounded : ByteArray := prog_9_method_5_code
def yX7_keepSounded : MethodName := ⟨RX7, "keepSounded", "(LOnePane$Reckoner;)V"⟩
abbrev cX7_howMany : ByteArray := prog_9_method_6_code
def yX7_howMany : MethodName := ⟨RX7, "howMany", "()I"⟩
abbrev cX7_inAll : ByteArray := prog_9_method_7_code
def yX7_inAll : MethodName := ⟨RX7, "inAll", "()I"⟩
abbrev cX7_inSome : ByteArray := prog_9_method_8_code
def yX7_inSome : MethodName := ⟨RX7, "inSome", "()I"⟩
abbrev cX7_fewest : ByteArray := prog_9_method_9_code
def yX7_fewest : MethodName := ⟨RX7, "fewest", "(LOnePane$Reckoner;)I"⟩
abbrev cX7_bestKnock : ByteArray := prog_9_method_10_code
def yX7_bestKnock : MethodName := ⟨RX7, "bestKnock", "(LOnePane$Reckoner;)I"⟩
abbrev cX7_mostAlike : ByteArray := prog_9_method_11_code
def yX7_mostAlike : MethodName := ⟨RX7, "mostAlike", "(LOnePane$Reckoner;I)I"⟩
def RX8 : String := "OnePane$Statements"
def TX8 : u_T := fun k => match k with
  | 0 => ("OnePane$Statements", "reader", "LOnePane$Reader;", true)
  | 1 => ("OnePane$Statements", "grammar", "LOnePane$Grammar;", true)
  | _ => ("OnePane$Statements", "plan", "LOnePane$Plan;", false)
def tyX8 : Nat → FieldType := fun k => match k with
  | 0 => .object "OnePane$Reader"
  | 1 => .object "OnePane$Grammar"
  | _ => .object "OnePane$Plan"
abbrev wsX80 : List Cond := u_ws RX8 TX8 3
theorem nmX8 : ∀ a, a < 3 → ∀ b, b < 3 → a ≠ b → (TX8 a).2.1 ≠ (TX8 b).2.1 := by decide +kernel
theorem tyX8_ok : ∀ k, k < 3 → parseFieldDescriptor (TX8 k).2.2.1 = some (tyX8 k) := by decide +kernel
abbrev cX8_init : ByteArray := prog_10_method_1_code
def yX8_init : MethodName := ⟨RX8, "<init>", "(LOnePane$Reader;LOnePane$Grammar;LOnePane$Plan;)V"⟩
abbrev cX8_readInto : ByteArray := prog_10_method_2_code
def yX8_readInto : MethodName := ⟨RX8, "readInto", "(LOnePane$Plan;LOnePane$Tape;)I"⟩
abbrev cX8_readPane : ByteArray := prog_10_method_3_code
def yX8_readPane : MethodName := ⟨RX8, "readPane", "()V"⟩
abbrev cX8_readStatement : ByteArray := prog_10_method_4_code
def yX8_readStatement : MethodName := ⟨RX8, "readStatement", "()V"⟩
abbrev cX8_readHeavy : ByteArray := prog_10_method_5_code
def yX8_readHeavy : MethodName := ⟨RX8, "readHeavy", "()V"⟩
abbrev cX8_readPole : ByteArray := prog_10_method_6_code
def yX8_readPole : MethodName := ⟨RX8, "readPole", "()V"⟩
abbrev cX8_takeName : ByteArray := prog_10_method_7_code
def yX8_takeName : MethodName := ⟨RX8, "takeName", "()I"⟩
abbrev cX8_readAdds : ByteArray := prog_10_method_8_code
def yX8_readAdds : MethodName := ⟨RX8, "readAdds", "()V"⟩
abbrev cX8_readHolds : ByteArray := prog_10_method_9_code
def yX8_readHolds : MethodName := ⟨RX8, "readHolds", "()V"⟩
def RX9 : String := "OnePane$Tape"
def TX9 : u_T := fun k => match k with
  | 0 => ("OnePane$Tape", "bytes", "[B", true)
  | _ => ("OnePane$Tape", "length", "I", false)
def tyX9 : Nat → FieldType := fun k => match k with
  | 0 => .array .byte
  | _ => .int
abbrev wsX90 : List Cond := u_ws RX9 TX9 2
theorem nmX9 : ∀ a, a < 2 → ∀ b, b < 2 → a ≠ b → (TX9 a).2.1 ≠ (TX9 b).2.1 := by decide +kernel
theorem tyX9_ok : ∀ k, k < 2 → parseFieldDescriptor (TX9 k).2.2.1 = some (tyX9 k) := by decide +kernel
abbrev cX9_init : ByteArray := prog_11_method_1_code
def yX9_init : MethodName := ⟨RX9, "<init>", "(I)V"⟩
abbrev cX9_addByte : ByteArray := prog_11_method_2_code
def yX9_addByte : MethodName := ⟨RX9, "addByte", "(I)V"⟩
abbrev cX9_addNumber : ByteArray := prog_11_method_3_code
def yX9_addNumber : MethodName := ⟨RX9, "addNumber", "(I)V"⟩
abbrev cX9_byteAt : ByteArray := prog_11_method_4_code
def yX9_byteAt : MethodName := ⟨RX9, "byteAt", "(I)I"⟩
abbrev cX9_pairAt : ByteArray := prog_11_method_5_code
def yX9_pairAt : MethodName := ⟨RX9, "pairAt", "(I)I"⟩
abbrev cX9_checkOf : ByteArray := prog_11_method_6_code
def yX9_checkOf : MethodName := ⟨RX9, "checkOf", "(I)I"⟩
def RX10 : String := "OnePane$Town"
def TX10 : u_T := fun k => match k with
  | 0 => ("OnePane$Town", "column", "[I", true)
  | 1 => ("OnePane$Town", "row", "[I", true)
  | 2 => ("OnePane$Town", "tired", "[I", true)
  | 3 => ("OnePane$Town", "kept", "[I", true)
  | 4 => ("OnePane$Town", "keptCount", "I", false)
  | 5 => ("OnePane$Town", "hour", "I", false)
  | 6 => ("OnePane$Town", "cracked", "J", false)
  | _ => ("OnePane$Town", "resting", "I", false)
def tyX10 : Nat → FieldType := fun k => match k with
  | 0 => .array .int
  | 1 => .array .int
  | 2 => .array .int
  | 3 => .array .int
  | 4 => .int
  | 5 => .int
  | 6 => .long
  | _ => .int
abbrev wsX100 : List Cond := u_ws RX10 TX10 8
theorem nmX10 : ∀ a, a < 8 → ∀ b, b < 8 → a ≠ b → (TX10 a).2.1 ≠ (TX10 b).2.1 := by decide +kernel
theorem tyX10_ok : ∀ k, k < 8 → parseFieldDescriptor (TX10 k).2.2.1 = some (tyX10 k) := by decide +kernel
abbrev cX10_init : ByteArray := prog_12_method_1_code
def yX10_init : MethodName := ⟨RX10, "<init>", "()V"⟩
abbrev cX10_begin : ByteArray := prog_12_method_2_code
def yX10_begin : MethodName := ⟨RX10, "begin", "(LOnePane$Plan;)V"⟩
abbrev cX10_takeLife : ByteArray := prog_12_method_3_code
def yX10_takeLife : MethodName := ⟨RX10, "takeLife", "(LOnePane$Town;)V"⟩
abbrev cX10_takeAll : ByteArray := prog_12_method_4_code
def yX10_takeAll : MethodName := ⟨RX10, "takeAll", "(LOnePane$Town;)V"⟩
abbrev cX10_isCracked : ByteArray := prog_12_method_5_code
def yX10_isCracked : MethodName := ⟨RX10, "isCracked", "(I)Z"⟩
abbrev cX10_standing : ByteArray := prog_12_method_6_code
def yX10_standing : MethodName := ⟨RX10, "standing", "(LOnePane$Plan;I)I"⟩
abbrev cX10_tiredTogether : ByteArray := prog_12_method_7_code
def yX10_tiredTogether : MethodName := ⟨RX10, "tiredTogether", "(I)I"⟩
abbrev cX10_between : ByteArray := prog_12_method_8_code
def yX10_between : MethodName := ⟨RX10, "between", "(III)I"⟩
abbrev cX10_keep : ByteArray := prog_12_method_9_code
def yX10_keep : MethodName := ⟨RX10, "keep", "(LOnePane$Plan;IJ)V"⟩
abbrev cX10_keepOne : ByteArray := prog_12_method_10_code
def yX10_keepOne : MethodName := ⟨RX10, "keepOne", "(I)V"⟩
abbrev cX10_readImage : ByteArray := prog_12_method_11_code
def yX10_readImage : MethodName := ⟨RX10, "readImage", "(LOnePane$Plan;LOnePane$Tape;)Z"⟩
abbrev cX10_readPerson : ByteArray := prog_12_method_12_code
def yX10_readPerson : MethodName := ⟨RX10, "readPerson", "(LOnePane$Plan;LOnePane$Tape;II)Z"⟩
def RX11 : String := "OnePane"
def TX11 : u_T := fun k => match k with
  | 0 => ("OnePane", "tape", "LOnePane$Tape;", true)
  | 1 => ("OnePane", "written", "LOnePane$Tape;", true)
  | 2 => ("OnePane", "question", "LOnePane$Program;", true)
  | 3 => ("OnePane", "plan", "LOnePane$Plan;", false)
  | 4 => ("OnePane", "draft", "LOnePane$Plan;", false)
  | 5 => ("OnePane", "reader", "LOnePane$Reader;", true)
  | 6 => ("OnePane", "grammar", "LOnePane$Grammar;", true)
  | 7 => ("OnePane", "statements", "LOnePane$Statements;", true)
  | 8 => ("OnePane", "town", "LOnePane$Town;", true)
  | 9 => ("OnePane", "ahead", "LOnePane$Town;", true)
  | 10 => ("OnePane", "past", "LOnePane$Past;", true)
  | 11 => ("OnePane", "sets", "LOnePane$Sets;", true)
  | 12 => ("OnePane", "reckoner", "LOnePane$Reckoner;", true)
  | 13 => ("OnePane", "refused", "[I", true)
  | 14 => ("OnePane", "draws", "I", false)
  | 15 => ("OnePane", "latestFault", "I", false)
  | _ => ("OnePane", "latestPlace", "I", false)
def tyX11 : Nat → FieldType := fun k => match k with
  | 0 => .object "OnePane$Tape"
  | 1 => .object "OnePane$Tape"
  | 2 => .object "OnePane$Program"
  | 3 => .object "OnePane$Plan"
  | 4 => .object "OnePane$Plan"
  | 5 => .object "OnePane$Reader"
  | 6 => .object "OnePane$Grammar"
  | 7 => .object "OnePane$Statements"
  | 8 => .object "OnePane$Town"
  | 9 => .object "OnePane$Town"
  | 10 => .object "OnePane$Past"
  | 11 => .object "OnePane$Sets"
  | 12 => .object "OnePane$Reckoner"
  | 13 => .array .int
  | 14 => .int
  | 15 => .int
  | _ => .int
abbrev wsX110 : List Cond := u_ws RX11 TX11 17
theorem nmX11 : ∀ a, a < 17 → ∀ b, b < 17 → a ≠ b → (TX11 a).2.1 ≠ (TX11 b).2.1 := by decide +kernel
theorem tyX11_ok : ∀ k, k < 17 → parseFieldDescriptor (TX11 k).2.2.1 = some (tyX11 k) := by decide +kernel
abbrev cX11_init : ByteArray := prog_1_method_1_code
def yX11_init : MethodName := ⟨RX11, "<init>", "()V"⟩
abbrev cX11_feed : ByteArray := prog_1_method_2_code
def yX11_feed : MethodName := ⟨RX11, "feed", "(IIIII)I"⟩
abbrev cX11_end : ByteArray := prog_1_method_3_code
def yX11_end : MethodName := ⟨RX11, "end", "(I)Z"⟩
abbrev cX11_pane : ByteArray := prog_1_method_4_code
def yX11_pane : MethodName := ⟨RX11, "pane", "()I"⟩
abbrev cX11_fault : ByteArray := prog_1_method_5_code
def yX11_fault : MethodName := ⟨RX11, "fault", "(I)I"⟩
abbrev cX11_has : ByteArray := prog_1_method_6_code
def yX11_has : MethodName := ⟨RX11, "has", "(I)I"⟩
abbrev cX11_letter : ByteArray := prog_1_method_7_code
def yX11_letter : MethodName := ⟨RX11, "letter", "(II)I"⟩
abbrev cX11_cell : ByteArray := prog_1_method_8_code
def yX11_cell : MethodName := ⟨RX11, "cell", "(III)I"⟩
abbrev cX11_slack : ByteArray := prog_1_method_9_code
def yX11_slack : MethodName := ⟨RX11, "slack", "(II)J"⟩
abbrev cX11_person : ByteArray := prog_1_method_10_code
def yX11_person : MethodName := ⟨RX11, "person", "(II)I"⟩
abbrev cX11_lifts : ByteArray := prog_1_method_11_code
def yX11_lifts : MethodName := ⟨RX11, "lifts", "(III)I"⟩
abbrev cX11_kept : ByteArray := prog_1_method_12_code
def yX11_kept : MethodName := ⟨RX11, "kept", "(II)I"⟩
abbrev cX11_later : ByteArray := prog_1_method_13_code
def yX11_later : MethodName := ⟨RX11, "later", "(II)I"⟩
abbrev cX11_next : ByteArray := prog_1_method_14_code
def yX11_next : MethodName := ⟨RX11, "next", "()I"⟩
abbrev cX11_lasts : ByteArray := prog_1_method_15_code
def yX11_lasts : MethodName := ⟨RX11, "lasts", "(I)I"⟩
abbrev cX11_free : ByteArray := prog_1_method_16_code
def yX11_free : MethodName := ⟨RX11, "free", "()I"⟩
abbrev cX11_needed : ByteArray := prog_1_method_17_code
def yX11_needed : MethodName := ⟨RX11, "needed", "()I"⟩
abbrev cX11_stand : ByteArray := prog_1_method_18_code
def yX11_stand : MethodName := ⟨RX11, "stand", "(II)I"⟩
abbrev cX11_weak : ByteArray := prog_1_method_19_code
def yX11_weak : MethodName := ⟨RX11, "weak", "(I)I"⟩
abbrev cX11_mends : ByteArray := prog_1_method_20_code
def yX11_mends : MethodName := ⟨RX11, "mends", "(II)I"⟩
abbrev cX11_sound : ByteArray := prog_1_method_21_code
def yX11_sound : MethodName := ⟨RX11, "sound", "()I"⟩
abbrev cX11_who : ByteArray := prog_1_method_22_code
def yX11_who : MethodName := ⟨RX11, "who", "(I)I"⟩
abbrev cX11_knock : ByteArray := prog_1_method_23_code
def yX11_knock : MethodName := ⟨RX11, "knock", "(I)I"⟩
abbrev cX11_rest : ByteArray := prog_1_method_24_code
def yX11_rest : MethodName := ⟨RX11, "rest", "(II)Z"⟩
abbrev cX11_go : ByteArray := prog_1_method_25_code
def yX11_go : MethodName := ⟨RX11, "go", "(III)Z"⟩
abbrev cX11_mend : ByteArray := prog_1_method_26_code
def yX11_mend : MethodName := ⟨RX11, "mend", "(II)Z"⟩
abbrev cX11_hours : ByteArray := prog_1_method_27_code
def yX11_hours : MethodName := ⟨RX11, "hours", "(I)I"⟩
abbrev cX11_chance : ByteArray := prog_1_method_28_code
def yX11_chance : MethodName := ⟨RX11, "chance", "(I)I"⟩
abbrev cX11_undo : ByteArray := prog_1_method_29_code
def yX11_undo : MethodName := ⟨RX11, "undo", "()Z"⟩
abbrev cX11_seed : ByteArray := prog_1_method_30_code
def yX11_seed : MethodName := ⟨RX11, "seed", "(I)Z"⟩
abbrev cX11_ask : ByteArray := prog_1_method_31_code
def yX11_ask : MethodName := ⟨RX11, "ask", "()J"⟩
abbrev cX11_image : ByteArray := prog_1_method_32_code
def yX11_image : MethodName := ⟨RX11, "image", "()I"⟩
abbrev cX11_octet : ByteArray := prog_1_method_33_code
def yX11_octet : MethodName := ⟨RX11, "octet", "(I)I"⟩
abbrev cX11_on : ByteArray := prog_1_method_34_code
def yX11_on : MethodName := ⟨RX11, "on", "()Z"⟩
abbrev cX11_status : ByteArray := prog_1_method_35_code
def yX11_status : MethodName := ⟨RX11, "status", "(I)I"⟩
abbrev cX11_refusal : ByteArray := prog_1_method_36_code
def yX11_refusal : MethodName := ⟨RX11, "refusal", "(I)I"⟩
abbrev cX11_denial : ByteArray := prog_1_method_37_code
def yX11_denial : MethodName := ⟨RX11, "denial", "(I)Z"⟩
abbrev cX11_rememberFault : ByteArray := prog_1_method_38_code
def yX11_rememberFault : MethodName := ⟨RX11, "rememberFault", "()V"⟩
abbrev cX11_holdersNow : ByteArray := prog_1_method_39_code
def yX11_holdersNow : MethodName := ⟨RX11, "holdersNow", "()I"⟩
abbrev cX11_balanceNow : ByteArray := prog_1_method_40_code
def yX11_balanceNow : MethodName := ⟨RX11, "balanceNow", "()I"⟩
abbrev cX11_isAhead : ByteArray := prog_1_method_41_code
def yX11_isAhead : MethodName := ⟨RX11, "isAhead", "(III)Z"⟩
abbrev cX11_lookAhead : ByteArray := prog_1_method_42_code
def yX11_lookAhead : MethodName := ⟨RX11, "lookAhead", "(I)V"⟩
abbrev cX11_staysWhole : ByteArray := prog_1_method_43_code
def yX11_staysWhole : MethodName := ⟨RX11, "staysWhole", "(II)Z"⟩
abbrev cX11_crackedWithMended : ByteArray := prog_1_method_44_code
def yX11_crackedWithMended : MethodName := ⟨RX11, "crackedWithMended", "(II)I"⟩
abbrev cX11_packed : ByteArray := prog_1_method_45_code
def yX11_packed : MethodName := ⟨RX11, "packed", "(II)I"⟩
abbrev cX11_tellFound : ByteArray := prog_1_method_46_code
def yX11_tellFound : MethodName := ⟨RX11, "tellFound", "(II)I"⟩
abbrev cX11_draw : ByteArray := prog_1_method_47_code
def yX11_draw : MethodName := ⟨RX11, "draw", "(I)I"⟩
abbrev cX11_answerOf : ByteArray := prog_1_method_48_code
def yX11_answerOf : MethodName := ⟨RX11, "answerOf", "(II)I"⟩
abbrev cX11_firstFor : ByteArray := prog_1_method_49_code
def yX11_firstFor : MethodName := ⟨RX11, "firstFor", "(I)I"⟩
abbrev cX11_lastFor : ByteArray := prog_1_method_50_code
def yX11_lastFor : MethodName := ⟨RX11, "lastFor", "(I)I"⟩
abbrev cX11_howOften : ByteArray := prog_1_method_51_code
def yX11_howOften : MethodName := ⟨RX11, "howOften", "(I)I"⟩
abbrev cX11_total : ByteArray := prog_1_method_52_code
def yX11_total : MethodName := ⟨RX11, "total", "(I)J"⟩
abbrev cX11_most : ByteArray := prog_1_method_53_code
def yX11_most : MethodName := ⟨RX11, "most", "(I)I"⟩
abbrev cX11_least : ByteArray := prog_1_method_54_code
def yX11_least : MethodName := ⟨RX11, "least", "(I)I"⟩
def RX12 : String := "OnePaneModel"
def TX12 : u_T := fun k => match k with
  | 0 => ("OnePaneModel", "tape", "[I", true)
  | 1 => ("OnePaneModel", "taped", "I", false)
  | 2 => ("OnePaneModel", "at", "I", false)
  | 3 => ("OnePaneModel", "end", "I", false)
  | 4 => ("OnePaneModel", "ended", "I", false)
  | 5 => ("OnePaneModel", "bad", "I", false)
  | 6 => ("OnePaneModel", "badPlace", "I", false)
  | 7 => ("OnePaneModel", "fault", "I", false)
  | 8 => ("OnePaneModel", "faultPlace", "I", false)
  | 9 => ("OnePaneModel", "refused", "[I", true)
  | 10 => ("OnePaneModel", "numberPlace", "I", false)
  | 11 => ("OnePaneModel", "paneWord", "[C", true)
  | 12 => ("OnePaneModel", "byWord", "[C", true)
  | 13 => ("OnePaneModel", "toughWord", "[C", true)
  | 14 => ("OnePaneModel", "heavyWord", "[C", true)
  | 15 => ("OnePaneModel", "poleWord", "[C", true)
  | 16 => ("OnePaneModel", "atWord", "[C", true)
  | 17 => ("OnePaneModel", "liftsWord", "[C", true)
  | 18 => ("OnePaneModel", "addsWord", "[C", true)
  | 19 => ("OnePaneModel", "holdsWord", "[C", true)
  | 20 => ("OnePaneModel", "fadesWord", "[C", true)
  | 21 => ("OnePaneModel", "stoneWord", "[C", true)
  | 22 => ("OnePaneModel", "hailWord", "[C", true)
  | 23 => ("OnePaneModel", "hourWord", "[C", true)
  | 24 => ("OnePaneModel", "cracksWord", "[C", true)
  | 25 => ("OnePaneModel", "weightWord", "[C", true)
  | 26 => ("OnePaneModel", "tiredWord", "[C", true)
  | 27 => ("OnePaneModel", "nearWord", "[C", true)
  | 28 => ("OnePaneModel", "numberWord", "[C", true)
  | 29 => ("OnePaneModel", "columnWord", "[C", true)
  | 30 => ("OnePaneModel", "rowWord", "[C", true)
  | 31 => ("OnePaneModel", "farWord", "[C", true)
  | 32 => ("OnePaneModel", "orWord", "[C", true)
  | 33 => ("OnePaneModel", "andWord", "[C", true)
  | 34 => ("OnePaneModel", "notWord", "[C", true)
  | 35 => ("OnePaneModel", "allWord", "[C", true)
  | 36 => ("OnePaneModel", "minWord", "[C", true)
  | 37 => ("OnePaneModel", "maxWord", "[C", true)
  | 38 => ("OnePaneModel", "namePlace", "I", false)
  | 39 => ("OnePaneModel", "side", "[I", true)
  | 40 => ("OnePaneModel", "many", "[I", true)
  | 41 => ("OnePaneModel", "names", "[J", true)
  | 42 => ("OnePaneModel", "weights", "[I", true)
  | 43 => ("OnePaneModel", "people", "[I", true)
  | 44 => ("OnePaneModel", "settings", "[I", true)
  | 45 => ("OnePaneModel", "codeFrom", "[I", true)
  | 46 => ("OnePaneModel", "codeEnd", "[I", true)
  | 47 => ("OnePaneModel", "codes", "[I", true)
  | 48 => ("OnePaneModel", "coded", "I", false)
  | 49 => ("OnePaneModel", "statements", "I", false)
  | 50 => ("OnePaneModel", "isPane", "Z", false)
  | 51 => ("OnePaneModel", "textKind", "I", false)
  | 52 => ("OnePaneModel", "now", "[I", true)
  | 53 => ("OnePaneModel", "aside", "[I", true)
  | 54 => ("OnePaneModel", "stronger", "I", false)
  | 55 => ("OnePaneModel", "askWeight", "I", false)
  | 56 => ("OnePaneModel", "askHolds", "I", false)
  | 57 => ("OnePaneModel", "loads", "[I", true)
  | 58 => ("OnePaneModel", "hailed", "I", false)
  | 59 => ("OnePaneModel", "isThought", "Z", false)
  | 60 => ("OnePaneModel", "crackMany", "I", false)
  | 61 => ("OnePaneModel", "isCracking", "[Z", true)
  | 62 => ("OnePaneModel", "standCracks", "I", false)
  | 63 => ("OnePaneModel", "standSlack", "I", false)
  | 64 => ("OnePaneModel", "rowMany", "I", false)
  | 65 => ("OnePaneModel", "rows", "[I", true)
  | 66 => ("OnePaneModel", "sets", "[I", true)
  | 67 => ("OnePaneModel", "setMany", "I", false)
  | 68 => ("OnePaneModel", "counts", "[I", true)
  | 69 => ("OnePaneModel", "kept0", "[I", true)
  | 70 => ("OnePaneModel", "undoable", "I", false)
  | 71 => ("OnePaneModel", "newest", "I", false)
  | 72 => ("OnePaneModel", "seeded", "J", false)
  | 73 => ("OnePaneModel", "firstAsked", "[C", true)
  | 74 => ("OnePaneModel", "lastAsked", "[C", true)
  | 75 => ("OnePaneModel", "oftenAsked", "[C", true)
  | 76 => ("OnePaneModel", "totalAsked", "[C", true)
  | 77 => ("OnePaneModel", "mostAsked", "[C", true)
  | 78 => ("OnePaneModel", "leastAsked", "[C", true)
  | 79 => ("OnePaneModel", "notAsked", "[C", true)
  | 80 => ("OnePaneModel", "andAsked", "[C", true)
  | 81 => ("OnePaneModel", "orAsked", "[C", true)
  | 82 => ("OnePaneModel", "allAsked", "[C", true)
  | 83 => ("OnePaneModel", "minAsked", "[C", true)
  | 84 => ("OnePaneModel", "maxAsked", "[C", true)
  | 85 => ("OnePaneModel", "hourAsked", "[C", true)
  | 86 => ("OnePaneModel", "cracksAsked", "[C", true)
  | 87 => ("OnePaneModel", "weightAsked", "[C", true)
  | 88 => ("OnePaneModel", "liftsAsked", "[C", true)
  | 89 => ("OnePaneModel", "tiredAsked", "[C", true)
  | 90 => ("OnePaneModel", "nearAsked", "[C", true)
  | 91 => ("OnePaneModel", "numberAsked", "[C", true)
  | 92 => ("OnePaneModel", "columnAsked", "[C", true)
  | 93 => ("OnePaneModel", "rowAsked", "[C", true)
  | 94 => ("OnePaneModel", "holdsAsked", "[C", true)
  | 95 => ("OnePaneModel", "farAsked", "[C", true)
  | 96 => ("OnePaneModel", "qCodes", "[I", true)
  | 97 => ("OnePaneModel", "qCoded", "I", false)
  | 98 => ("OnePaneModel", "qWait", "[I", true)
  | 99 => ("OnePaneModel", "qWaits", "I", false)
  | 100 => ("OnePaneModel", "qOpened", "I", false)
  | 101 => ("OnePaneModel", "qBase", "I", false)
  | 102 => ("OnePaneModel", "qPile", "[J", true)
  | 103 => ("OnePaneModel", "qPiled", "I", false)
  | 104 => ("OnePaneModel", "qAnswer", "J", false)
  | 105 => ("OnePaneModel", "qIsNew", "Z", false)
  | 106 => ("OnePaneModel", "octet", "[I", true)
  | _ => ("OnePaneModel", "octets", "I", false)
def tyX12 : Nat → FieldType := fun k => match k with
  | 0 => .array .int
  | 1 => .int
  | 2 => .int
  | 3 => .int
  | 4 => .int
  | 5 => .int
  | 6 => .int
  | 7 => .int
  | 8 => .int
  | 9 => .array .int
  | 10 => .int
  | 11 => .array .char
  | 12 => .array .char
  | 13 => .array .char
  | 14 => .array .char
  | 15 => .array .char
  | 16 => .array .char
  | 17 => .array .char
  | 18 => .array .char
  | 19 => .array .char
  | 20 => .array .char
  | 21 => .array .char
  | 22 => .array .char
  | 23 => .array .char
  | 24 => .array .char
  | 25 => .array .char
  | 26 => .array .char
  | 27 => .array .char
  | 28 => .array .char
  | 29 => .array .char
  | 30 => .array .char
  | 31 => .array .char
  | 32 => .array .char
  | 33 => .array .char
  | 34 => .array .char
  | 35 => .array .char
  | 36 => .array .char
  | 37 => .array .char
  | 38 => .int
  | 39 => .array .int
  | 40 => .array .int
  | 41 => .array .long
  | 42 => .array .int
  | 43 => .array .int
  | 44 => .array .int
  | 45 => .array .int
  | 46 => .array .int
  | 47 => .array .int
  | 48 => .int
  | 49 => .int
  | 50 => .boolean
  | 51 => .int
  | 52 => .array .int
  | 53 => .array .int
  | 54 => .int
  | 55 => .int
  | 56 => .int
  | 57 => .array .int
  | 58 => .int
  | 59 => .boolean
  | 60 => .int
  | 61 => .array .boolean
  | 62 => .int
  | 63 => .int
  | 64 => .int
  | 65 => .array .int
  | 66 => .array .int
  | 67 => .int
  | 68 => .array .int
  | 69 => .array .int
  | 70 => .int
  | 71 => .int
  | 72 => .long
  | 73 => .array .char
  | 74 => .array .char
  | 75 => .array .char
  | 76 => .array .char
  | 77 => .array .char
  | 78 => .array .char
  | 79 => .array .char
  | 80 => .array .char
  | 81 => .array .char
  | 82 => .array .char
  | 83 => .array .char
  | 84 => .array .char
  | 85 => .array .char
  | 86 => .array .char
  | 87 => .array .char
  | 88 => .array .char
  | 89 => .array .char
  | 90 => .array .char
  | 91 => .array .char
  | 92 => .array .char
  | 93 => .array .char
  | 94 => .array .char
  | 95 => .array .char
  | 96 => .array .int
  | 97 => .int
  | 98 => .array .int
  | 99 => .int
  | 100 => .int
  | 101 => .int
  | 102 => .array .long
  | 103 => .int
  | 104 => .long
  | 105 => .boolean
  | 106 => .array .int
  | _ => .int
abbrev wsX120 : List Cond := u_ws RX12 TX12 108
theorem nmX12 : ∀ a, a < 108 → ∀ b, b < 108 → a ≠ b → (TX12 a).2.1 ≠ (TX12 b).2.1 := by decide +kernel
theorem tyX12_ok : ∀ k, k < 108 → parseFieldDescriptor (TX12 k).2.2.1 = some (tyX12 k) := by decide +kernel
abbrev cX12_init : ByteArray := prog_14_method_1_code
def yX12_init : MethodName := ⟨RX12, "<init>", "()V"⟩
abbrev cX12_isIn : ByteArray := prog_14_method_2_code
def yX12_isIn : MethodName := ⟨RX12, "isIn", "(JJJ)Z"⟩
abbrev cX12_feed : ByteArray := prog_14_method_3_code
def yX12_feed : MethodName := ⟨RX12, "feed", "(IIIII)I"⟩
abbrev cX12_end : ByteArray := prog_14_method_4_code
def yX12_end : MethodName := ⟨RX12, "end", "(I)Z"⟩
abbrev cX12_fail : ByteArray := prog_14_method_5_code
def yX12_fail : MethodName := ⟨RX12, "fail", "(II)V"⟩
abbrev cX12_isLetter : ByteArray := prog_14_method_6_code
def yX12_isLetter : MethodName := ⟨RX12, "isLetter", "(I)Z"⟩
abbrev cX12_isDigit : ByteArray := prog_14_method_7_code
def yX12_isDigit : MethodName := ⟨RX12, "isDigit", "(I)Z"⟩
abbrev cX12_look : ByteArray := prog_14_method_8_code
def yX12_look : MethodName := ⟨RX12, "look", "()I"⟩
abbrev cX12_isHere : ByteArray := prog_14_method_9_code
def yX12_isHere : MethodName := ⟨RX12, "isHere", "([C)Z"⟩
abbrev cX12_takes : ByteArray := prog_14_method_10_code
def yX12_takes : MethodName := ⟨RX12, "takes", "([C)Z"⟩
abbrev cX12_asks : ByteArray := prog_14_method_11_code
def yX12_asks : MethodName := ⟨RX12, "asks", "([C)V"⟩
abbrev cX12_takesSign : ByteArray := prog_14_method_12_code
def yX12_takesSign : MethodName := ⟨RX12, "takesSign", "(I)Z"⟩
abbrev cX12_asksSign : ByteArray := prog_14_method_13_code
def yX12_asksSign : MethodName := ⟨RX12, "asksSign", "(I)V"⟩
abbrev cX12_number : ByteArray := prog_14_method_14_code
def yX12_number : MethodName := ⟨RX12, "number", "(II)I"⟩
abbrev cX12_isOwnHere : ByteArray := prog_14_method_15_code
def yX12_isOwnHere : MethodName := ⟨RX12, "isOwnHere", "()Z"⟩
abbrev cX12_name : ByteArray := prog_14_method_16_code
def yX12_name : MethodName := ⟨RX12, "name", "()J"⟩
abbrev cX12_isAllowed : ByteArray := prog_14_method_17_code
def yX12_isAllowed : MethodName := ⟨RX12, "isAllowed", "(I)Z"⟩
abbrev cX12_paneTold : ByteArray := prog_14_method_18_code
def yX12_paneTold : MethodName := ⟨RX12, "paneTold", "()V"⟩
abbrev cX12_cellTold : ByteArray := prog_14_method_19_code
def yX12_cellTold : MethodName := ⟨RX12, "cellTold", "()I"⟩
abbrev cX12_heavyTold : ByteArray := prog_14_method_20_code
def yX12_heavyTold : MethodName := ⟨RX12, "heavyTold", "()V"⟩
abbrev cX12_poleTold : ByteArray := prog_14_method_21_code
def yX12_poleTold : MethodName := ⟨RX12, "poleTold", "(I)V"⟩
abbrev cX12_codesTold : ByteArray := prog_14_method_22_code
def yX12_codesTold : MethodName := ⟨RX12, "codesTold", "(II)V"⟩
abbrev cX12_statementTold : ByteArray := prog_14_method_23_code
def yX12_statementTold : MethodName := ⟨RX12, "statementTold", "()V"⟩
abbrev cX12_pane : ByteArray := prog_14_method_24_code
def yX12_pane : MethodName := ⟨RX12, "pane", "()I"⟩
abbrev cX12_stands : ByteArray := prog_14_method_25_code
def yX12_stands : MethodName := ⟨RX12, "stands", "()V"⟩
abbrev cX12_fault : ByteArray := prog_14_method_26_code
def yX12_fault : MethodName := ⟨RX12, "fault", "(I)I"⟩
abbrev cX12_peopleMany : ByteArray := prog_14_method_27_code
def yX12_peopleMany : MethodName := ⟨RX12, "peopleMany", "()I"⟩
abbrev cX12_isPerson : ByteArray := prog_14_method_28_code
def yX12_isPerson : MethodName := ⟨RX12, "isPerson", "(I)Z"⟩
abbrev cX12_cellMany : ByteArray := prog_14_method_29_code
def yX12_cellMany : MethodName := ⟨RX12, "cellMany", "()I"⟩
abbrev cX12_cellOf : ByteArray := prog_14_method_30_code
def yX12_cellOf : MethodName := ⟨RX12, "cellOf", "(I)I"⟩
abbrev cX12_cellAt : ByteArray := prog_14_method_31_code
def yX12_cellAt : MethodName := ⟨RX12, "cellAt", "(II)I"⟩
abbrev cX12_isCracked : ByteArray := prog_14_method_32_code
def yX12_isCracked : MethodName := ⟨RX12, "isCracked", "(I)Z"⟩
abbrev cX12_crackedMany : ByteArray := prog_14_method_33_code
def yX12_crackedMany : MethodName := ⟨RX12, "crackedMany", "()I"⟩
abbrev cX12_placeOf : ByteArray := prog_14_method_34_code
def yX12_placeOf : MethodName := ⟨RX12, "placeOf", "(I)I"⟩
abbrev cX12_tiredOf : ByteArray := prog_14_method_35_code
def yX12_tiredOf : MethodName := ⟨RX12, "tiredOf", "(I)I"⟩
abbrev cX12_isAtRest : ByteArray := prog_14_method_36_code
def yX12_isAtRest : MethodName := ⟨RX12, "isAtRest", "(I)Z"⟩
abbrev cX12_strengthOf : ByteArray := prog_14_method_37_code
def yX12_strengthOf : MethodName := ⟨RX12, "strengthOf", "(I)I"⟩
abbrev cX12_apart : ByteArray := prog_14_method_38_code
def yX12_apart : MethodName := ⟨RX12, "apart", "(II)I"⟩
abbrev cX12_nearOf : ByteArray := prog_14_method_39_code
def yX12_nearOf : MethodName := ⟨RX12, "nearOf", "(I)I"⟩
abbrev cX12_standsAt : ByteArray := prog_14_method_40_code
def yX12_standsAt : MethodName := ⟨RX12, "standsAt", "(I)I"⟩
abbrev cX12_codesTell : ByteArray := prog_14_method_41_code
def yX12_codesTell : MethodName := ⟨RX12, "codesTell", "(II)J"⟩
abbrev cX12_holders : ByteArray := prog_14_method_42_code
def yX12_holders : MethodName := ⟨RX12, "holders", "()I"⟩
abbrev cX12_liftOf : ByteArray := prog_14_method_43_code
def yX12_liftOf : MethodName := ⟨RX12, "liftOf", "(III)I"⟩
abbrev cX12_liftBy : ByteArray := prog_14_method_44_code
def yX12_liftBy : MethodName := ⟨RX12, "liftBy", "(II)I"⟩
abbrev cX12_addsOf : ByteArray := prog_14_method_45_code
def yX12_addsOf : MethodName := ⟨RX12, "addsOf", "(I)I"⟩
abbrev cX12_laysLoads : ByteArray := prog_14_method_46_code
def yX12_laysLoads : MethodName := ⟨RX12, "laysLoads", "()V"⟩
abbrev cX12_slackBy : ByteArray := prog_14_method_47_code
def yX12_slackBy : MethodName := ⟨RX12, "slackBy", "(II)I"⟩
abbrev cX12_cracksBy : ByteArray := prog_14_method_48_code
def yX12_cracksBy : MethodName := ⟨RX12, "cracksBy", "(I)I"⟩
abbrev cX12_isKept : ByteArray := prog_14_method_49_code
def yX12_isKept : MethodName := ⟨RX12, "isKept", "(I)V"⟩
abbrev cX12_hourGoes : ByteArray := prog_14_method_50_code
def yX12_hourGoes : MethodName := ⟨RX12, "hourGoes", "()V"⟩
abbrev cX12_hoursGo : ByteArray := prog_14_method_51_code
def yX12_hoursGo : MethodName := ⟨RX12, "hoursGo", "(I)V"⟩
abbrev cX12_putsAside : ByteArray := prog_14_method_52_code
def yX12_putsAside : MethodName := ⟨RX12, "putsAside", "()V"⟩
abbrev cX12_triesAnew : ByteArray := prog_14_method_53_code
def yX12_triesAnew : MethodName := ⟨RX12, "triesAnew", "()V"⟩
abbrev cX12_takesBack : ByteArray := prog_14_method_54_code
def yX12_takesBack : MethodName := ⟨RX12, "takesBack", "()V"⟩
abbrev cX12_isAhead : ByteArray := prog_14_method_55_code
def yX12_isAhead : MethodName := ⟨RX12, "isAhead", "(III)Z"⟩
abbrev cX12_bits : ByteArray := prog_14_method_56_code
def yX12_bits : MethodName := ⟨RX12, "bits", "(I)I"⟩
abbrev cX12_awake : ByteArray := prog_14_method_57_code
def yX12_awake : MethodName := ⟨RX12, "awake", "()I"⟩
abbrev cX12_has : ByteArray := prog_14_method_58_code
def yX12_has : MethodName := ⟨RX12, "has", "(I)I"⟩
abbrev cX12_letter : ByteArray := prog_14_method_59_code
def yX12_letter : MethodName := ⟨RX12, "letter", "(II)I"⟩
abbrev cX12_cell : ByteArray := prog_14_method_60_code
def yX12_cell : MethodName := ⟨RX12, "cell", "(III)I"⟩
abbrev cX12_slack : ByteArray := prog_14_method_61_code
def yX12_slack : MethodName := ⟨RX12, "slack", "(II)J"⟩
abbrev cX12_person : ByteArray := prog_14_method_62_code
def yX12_person : MethodName := ⟨RX12, "person", "(II)I"⟩
abbrev cX12_lifts : ByteArray := prog_14_method_63_code
def yX12_lifts : MethodName := ⟨RX12, "lifts", "(III)I"⟩
abbrev cX12_kept : ByteArray := prog_14_method_64_code
def yX12_kept : MethodName := ⟨RX12, "kept", "(II)I"⟩
abbrev cX12_tiredAll : ByteArray := prog_14_method_65_code
def yX12_tiredAll : MethodName := ⟨RX12, "tiredAll", "()I"⟩
abbrev cX12_later : ByteArray := prog_14_method_66_code
def yX12_later : MethodName := ⟨RX12, "later", "(II)I"⟩
abbrev cX12_next : ByteArray := prog_14_method_67_code
def yX12_next : MethodName := ⟨RX12, "next", "()I"⟩
abbrev cX12_lasts : ByteArray := prog_14_method_68_code
def yX12_lasts : MethodName := ⟨RX12, "lasts", "(I)I"⟩
abbrev cX12_free : ByteArray := prog_14_method_69_code
def yX12_free : MethodName := ⟨RX12, "free", "()I"⟩
abbrev cX12_needed : ByteArray := prog_14_method_70_code
def yX12_needed : MethodName := ⟨RX12, "needed", "()I"⟩
abbrev cX12_standsTry : ByteArray := prog_14_method_71_code
def yX12_standsTry : MethodName := ⟨RX12, "standsTry", "(III)V"⟩
abbrev cX12_stand : ByteArray := prog_14_method_72_code
def yX12_stand : MethodName := ⟨RX12, "stand", "(II)I"⟩
abbrev cX12_weak : ByteArray := prog_14_method_73_code
def yX12_weak : MethodName := ⟨RX12, "weak", "(I)I"⟩
abbrev cX12_mends : ByteArray := prog_14_method_74_code
def yX12_mends : MethodName := ⟨RX12, "mends", "(II)I"⟩
abbrev cX12_refuses : ByteArray := prog_14_method_75_code
def yX12_refuses : MethodName := ⟨RX12, "refuses", "(I)I"⟩
abbrev cX12_sound : ByteArray := prog_14_method_76_code
def yX12_sound : MethodName := ⟨RX12, "sound", "()I"⟩
abbrev cX12_isAsHeard : ByteArray := prog_14_method_77_code
def yX12_isAsHeard : MethodName := ⟨RX12, "isAsHeard", "(I)Z"⟩
abbrev cX12_laysSets : ByteArray := prog_14_method_78_code
def yX12_laysSets : MethodName := ⟨RX12, "laysSets", "()V"⟩
abbrev cX12_who : ByteArray := prog_14_method_79_code
def yX12_who : MethodName := ⟨RX12, "who", "(I)I"⟩
abbrev cX12_mostAlike : ByteArray := prog_14_method_80_code
def yX12_mostAlike : MethodName := ⟨RX12, "mostAlike", "(I)I"⟩
abbrev cX12_knock : ByteArray := prog_14_method_81_code
def yX12_knock : MethodName := ⟨RX12, "knock", "(I)I"⟩
abbrev cX12_keeps : ByteArray := prog_14_method_82_code
def yX12_keeps : MethodName := ⟨RX12, "keeps", "()V"⟩
abbrev cX12_undo : ByteArray := prog_14_method_83_code
def yX12_undo : MethodName := ⟨RX12, "undo", "()Z"⟩
abbrev cX12_isRefused : ByteArray := prog_14_method_84_code
def yX12_isRefused : MethodName := ⟨RX12, "isRefused", "()Z"⟩
abbrev cX12_rest : ByteArray := prog_14_method_85_code
def yX12_rest : MethodName := ⟨RX12, "rest", "(II)Z"⟩
abbrev cX12_go : ByteArray := prog_14_method_86_code
def yX12_go : MethodName := ⟨RX12, "go", "(III)Z"⟩
abbrev cX12_mend : ByteArray := prog_14_method_87_code
def yX12_mend : MethodName := ⟨RX12, "mend", "(II)Z"⟩
abbrev cX12_hours : ByteArray := prog_14_method_88_code
def yX12_hours : MethodName := ⟨RX12, "hours", "(I)I"⟩
abbrev cX12_seed : ByteArray := prog_14_method_89_code
def yX12_seed : MethodName := ⟨RX12, "seed", "(I)Z"⟩
abbrev cX12_drawOf : ByteArray := prog_14_method_90_code
def yX12_drawOf : MethodName := ⟨RX12, "drawOf", "(I)I"⟩
abbrev cX12_chance : ByteArray := prog_14_method_91_code
def yX12_chance : MethodName := ⟨RX12, "chance", "(I)I"⟩
abbrev cX12_qCode : ByteArray := prog_14_method_92_code
def yX12_qCode : MethodName := ⟨RX12, "qCode", "(I)V"⟩
abbrev cX12_qOpens : ByteArray := prog_14_method_93_code
def yX12_qOpens : MethodName := ⟨RX12, "qOpens", "(II)V"⟩
abbrev cX12_qIsOn : ByteArray := prog_14_method_94_code
def yX12_qIsOn : MethodName := ⟨RX12, "qIsOn", "(I)Z"⟩
abbrev cX12_qDrops : ByteArray := prog_14_method_95_code
def yX12_qDrops : MethodName := ⟨RX12, "qDrops", "()V"⟩
abbrev cX12_qIsBracket : ByteArray := prog_14_method_96_code
def yX12_qIsBracket : MethodName := ⟨RX12, "qIsBracket", "(I)Z"⟩
abbrev cX12_qBracket : ByteArray := prog_14_method_97_code
def yX12_qBracket : MethodName := ⟨RX12, "qBracket", "()I"⟩
abbrev cX12_qDropsToBracket : ByteArray := prog_14_method_98_code
def yX12_qDropsToBracket : MethodName := ⟨RX12, "qDropsToBracket", "()V"⟩
abbrev cX12_qWordHere : ByteArray := prog_14_method_99_code
def yX12_qWordHere : MethodName := ⟨RX12, "qWordHere", "()I"⟩
abbrev cX12_qWordOf : ByteArray := prog_14_method_100_code
def yX12_qWordOf : MethodName := ⟨RX12, "qWordOf", "(II)I"⟩
abbrev cX12_qAsksWord : ByteArray := prog_14_method_101_code
def yX12_qAsksWord : MethodName := ⟨RX12, "qAsksWord", "(I)V"⟩
abbrev cX12_qEndsPart : ByteArray := prog_14_method_102_code
def yX12_qEndsPart : MethodName := ⟨RX12, "qEndsPart", "()V"⟩
abbrev cX12_qPartTold : ByteArray := prog_14_method_103_code
def yX12_qPartTold : MethodName := ⟨RX12, "qPartTold", "()V"⟩
abbrev cX12_qGoesOn : ByteArray := prog_14_method_104_code
def yX12_qGoesOn : MethodName := ⟨RX12, "qGoesOn", "()Z"⟩
abbrev cX12_qSums : ByteArray := prog_14_method_105_code
def yX12_qSums : MethodName := ⟨RX12, "qSums", "()V"⟩
abbrev cX12_qFact : ByteArray := prog_14_method_106_code
def yX12_qFact : MethodName := ⟨RX12, "qFact", "()V"⟩
abbrev cX12_qHasSquare : ByteArray := prog_14_method_107_code
def yX12_qHasSquare : MethodName := ⟨RX12, "qHasSquare", "()Z"⟩
abbrev cX12_qDropsNots : ByteArray := prog_14_method_108_code
def yX12_qDropsNots : MethodName := ⟨RX12, "qDropsNots", "()V"⟩
abbrev cX12_qTest : ByteArray := prog_14_method_109_code
def yX12_qTest : MethodName := ⟨RX12, "qTest", "()V"⟩
abbrev cX12_qGoesOnTest : ByteArray := prog_14_method_110_code
def yX12_qGoesOnTest : MethodName := ⟨RX12, "qGoesOnTest", "()Z"⟩
abbrev cX12_qClip : ByteArray := prog_14_method_111_code
def yX12_qClip : MethodName := ⟨RX12, "qClip", "(J)J"⟩
abbrev cX12_qFloor : ByteArray := prog_14_method_112_code
def yX12_qFloor : MethodName := ⟨RX12, "qFloor", "(JJ)J"⟩
abbrev cX12_qPuts : ByteArray := prog_14_method_113_code
def yX12_qPuts : MethodName := ⟨RX12, "qPuts", "(J)V"⟩
abbrev cX12_qJoins : ByteArray := prog_14_method_114_code
def yX12_qJoins : MethodName := ⟨RX12, "qJoins", "(I)V"⟩
abbrev cX12_qPartOf : ByteArray := prog_14_method_115_code
def yX12_qPartOf : MethodName := ⟨RX12, "qPartOf", "(II)J"⟩
abbrev cX12_qOf : ByteArray := prog_14_method_116_code
def yX12_qOf : MethodName := ⟨RX12, "qOf", "(IJI)J"⟩
abbrev cX12_qTold : ByteArray := prog_14_method_117_code
def yX12_qTold : MethodName := ⟨RX12, "qTold", "(I)J"⟩
abbrev cX12_qKind : ByteArray := prog_14_method_118_code
def yX12_qKind : MethodName := ⟨RX12, "qKind", "()I"⟩
abbrev cX12_qTakes : ByteArray := prog_14_method_119_code
def yX12_qTakes : MethodName := ⟨RX12, "qTakes", "(IJI)V"⟩
abbrev cX12_ask : ByteArray := prog_14_method_120_code
def yX12_ask : MethodName := ⟨RX12, "ask", "()J"⟩
abbrev cX12_checked : ByteArray := prog_14_method_121_code
def yX12_checked : MethodName := ⟨RX12, "checked", "([II)I"⟩
abbrev cX12_writes : ByteArray := prog_14_method_122_code
def yX12_writes : MethodName := ⟨RX12, "writes", "(I)V"⟩
abbrev cX12_image : ByteArray := prog_14_method_123_code
def yX12_image : MethodName := ⟨RX12, "image", "()I"⟩
abbrev cX12_octet : ByteArray := prog_14_method_124_code
def yX12_octet : MethodName := ⟨RX12, "octet", "(I)I"⟩
abbrev cX12_isPersonTold : ByteArray := prog_14_method_125_code
def yX12_isPersonTold : MethodName := ⟨RX12, "isPersonTold", "(II)Z"⟩
abbrev cX12_isImage : ByteArray := prog_14_method_126_code
def yX12_isImage : MethodName := ⟨RX12, "isImage", "(I)Z"⟩
abbrev cX12_on : ByteArray := prog_14_method_127_code
def yX12_on : MethodName := ⟨RX12, "on", "()Z"⟩
abbrev cX12_status : ByteArray := prog_14_method_128_code
def yX12_status : MethodName := ⟨RX12, "status", "(I)I"⟩
def RJ6 : String := "java/lang/Integer"
def TJ6 : u_T := fun k => match k with
  | _ => ("", "", "", false)
def tyJ6 : Nat → FieldType := fun k => match k with
  | _ => .int
abbrev wsJ60 : List Cond := u_ws RJ6 TJ6 0
theorem nmJ6 : ∀ a, a < 0 → ∀ b, b < 0 → a ≠ b → (TJ6 a).2.1 ≠ (TJ6 b).2.1 := by decide +kernel
theorem tyJ6_ok : ∀ k, k < 0 → parseFieldDescriptor (TJ6 k).2.2.1 = some (tyJ6 k) := by decide +kernel
abbrev cJ6_bitCount_0f7a4 : ByteArray := prog_15_method_49_code
def yJ6_bitCount_0f7a4 : MethodName := ⟨RJ6, "bitCount", "(I)I"⟩
def RJ13 : String := "java/lang/Long"
def TJ13 : u_T := fun k => match k with
  | _ => ("", "", "", false)
def tyJ13 : Nat → FieldType := fun k => match k with
  | _ => .int
abbrev wsJ130 : List Cond := u_ws RJ13 TJ13 0
theorem nmJ13 : ∀ a, a < 0 → ∀ b, b < 0 → a ≠ b → (TJ13 a).2.1 ≠ (TJ13 b).2.1 := by decide +kernel
theorem tyJ13_ok : ∀ k, k < 0 → parseFieldDescriptor (TJ13 k).2.2.1 = some (tyJ13 k) := by decide +kernel
abbrev cJ13_bitCount_95d88 : ByteArray := prog_16_method_50_code
def yJ13_bitCount_95d88 : MethodName := ⟨RJ13, "bitCount", "(J)I"⟩
def RJ9 : String := "java/lang/Math"
def TJ9 : u_T := fun k => match k with
  | _ => ("", "", "", false)
def tyJ9 : Nat → FieldType := fun k => match k with
  | _ => .int
abbrev wsJ90 : List Cond := u_ws RJ9 TJ9 0
theorem nmJ9 : ∀ a, a < 0 → ∀ b, b < 0 → a ≠ b → (TJ9 a).2.1 ≠ (TJ9 b).2.1 := by decide +kernel
theorem tyJ9_ok : ∀ k, k < 0 → parseFieldDescriptor (TJ9 k).2.2.1 = some (tyJ9 k) := by decide +kernel
abbrev cJ9_floorDiv_7cf53 : ByteArray := prog_17_method_47_code
def yJ9_floorDiv_7cf53 : MethodName := ⟨RJ9, "floorDiv", "(II)I"⟩
abbrev cJ9_abs_0f7a4 : ByteArray := prog_17_method_59_code
def yJ9_abs_0f7a4 : MethodName := ⟨RJ9, "abs", "(I)I"⟩
abbrev cJ9_max_7cf53 : ByteArray := prog_17_method_65_code
def yJ9_max_7cf53 : MethodName := ⟨RJ9, "max", "(II)I"⟩
abbrev cJ9_min_7cf53 : ByteArray := prog_17_method_69_code
def yJ9_min_7cf53 : MethodName := ⟨RJ9, "min", "(II)I"⟩
def RJ0 : String := "java/lang/String"
def TJ0 : u_T := fun k => match k with
  | _ => ("", "", "", false)
def tyJ0 : Nat → FieldType := fun k => match k with
  | _ => .int
abbrev wsJ00 : List Cond := u_ws RJ0 TJ0 0
theorem nmJ0 : ∀ a, a < 0 → ∀ b, b < 0 → a ≠ b → (TJ0 a).2.1 ≠ (TJ0 b).2.1 := by decide +kernel
theorem tyJ0_ok : ∀ k, k < 0 → parseFieldDescriptor (TJ0 k).2.2.1 = some (tyJ0 k) := by decide +kernel
abbrev cJ0_length_8abf5 : ByteArray := prog_18_method_54_code
def yJ0_length_8abf5 : MethodName := ⟨RJ0, "length", "()I"⟩
abbrev cJ0_charAt_5068e : ByteArray := prog_18_method_56_code
def yJ0_charAt_5068e : MethodName := ⟨RJ0, "charAt", "(I)C"⟩
abbrev cJ0_coder_7d493 : ByteArray := prog_18_method_152_code
def yJ0_coder_7d493 : MethodName := ⟨RJ0, "coder", "()B"⟩
abbrev cJ0_isLatin1_aae02 : ByteArray := prog_18_method_154_code
def yJ0_isLatin1_aae02 : MethodName := ⟨RJ0, "isLatin1", "()Z"⟩
abbrev cJ0_checkIndex_df160 : ByteArray := prog_18_method_155_code
def yJ0_checkIndex_df160 : MethodName := ⟨RJ0, "checkIndex", "(II)V"⟩
def RJ1 : String := "java/lang/StringLatin1"
def TJ1 : u_T := fun k => match k with
  | _ => ("", "", "", false)
def tyJ1 : Nat → FieldType := fun k => match k with
  | _ => .int
abbrev wsJ10 : List Cond := u_ws RJ1 TJ1 0
theorem nmJ1 : ∀ a, a < 0 → ∀ b, b < 0 → a ≠ b → (TJ1 a).2.1 ≠ (TJ1 b).2.1 := by decide +kernel
theorem tyJ1_ok : ∀ k, k < 0 → parseFieldDescriptor (TJ1 k).2.2.1 = some (tyJ1 k) := by decide +kernel
abbrev cJ1_charAt_3b067 : ByteArray := prog_19_method_2_code
def yJ1_charAt_3b067 : MethodName := ⟨RJ1, "charAt", "([BI)C"⟩
def RJ2 : String := "java/lang/StringUTF16"
def TJ2 : u_T := fun k => match k with
  | _ => ("", "", "", false)
def tyJ2 : Nat → FieldType := fun k => match k with
  | _ => .int
abbrev wsJ20 : List Cond := u_ws RJ2 TJ2 0
theorem nmJ2 : ∀ a, a < 0 → ∀ b, b < 0 → a ≠ b → (TJ2 a).2.1 ≠ (TJ2 b).2.1 := by decide +kernel
theorem tyJ2_ok : ∀ k, k < 0 → parseFieldDescriptor (TJ2 k).2.2.1 = some (tyJ2 k) := by decide +kernel
abbrev cJ2_getChar_3b067 : ByteArray := prog_20_method_5_code
def yJ2_getChar_3b067 : MethodName := ⟨RJ2, "getChar", "([BI)C"⟩
abbrev cJ2_length_9d52b : ByteArray := prog_20_method_6_code
def yJ2_length_9d52b : MethodName := ⟨RJ2, "length", "([B)I"⟩
abbrev cJ2_charAt_3b067 : ByteArray := prog_20_method_83_code
def yJ2_charAt_3b067 : MethodName := ⟨RJ2, "charAt", "([BI)C"⟩
abbrev cJ2_checkIndex_2214a : ByteArray := prog_20_method_91_code
def yJ2_checkIndex_2214a : MethodName := ⟨RJ2, "checkIndex", "(I[B)V"⟩
def RJ10 : String := "java/lang/System"
def TJ10 : u_T := fun k => match k with
  | _ => ("", "", "", false)
def tyJ10 : Nat → FieldType := fun k => match k with
  | _ => .int
abbrev wsJ100 : List Cond := u_ws RJ10 TJ10 0
theorem nmJ10 : ∀ a, a < 0 → ∀ b, b < 0 → a ≠ b → (TJ10 a).2.1 ≠ (TJ10 b).2.1 := by decide +kernel
theorem tyJ10_ok : ∀ k, k < 0 → parseFieldDescriptor (TJ10 k).2.2.1 = some (tyJ10 k) := by decide +kernel
def RJ3 : String := "jdk/internal/util/Preconditions"
def TJ3 : u_T := fun k => match k with
  | _ => ("", "", "", false)
def tyJ3 : Nat → FieldType := fun k => match k with
  | _ => .int
abbrev wsJ30 : List Cond := u_ws RJ3 TJ3 0
theorem nmJ3 : ∀ a, a < 0 → ∀ b, b < 0 → a ≠ b → (TJ3 a).2.1 ≠ (TJ3 b).2.1 := by decide +kernel
theorem tyJ3_ok : ∀ k, k < 0 → parseFieldDescriptor (TJ3 k).2.2.1 = some (tyJ3 k) := by decide +kernel
abbrev cJ3_checkIndex_8e157 : ByteArray := prog_22_method_11_code
def yJ3_checkIndex_8e157 : MethodName := ⟨RJ3, "checkIndex", "(IILjava/util/function/BiFunction;)I"⟩
def RL : String := "OnePaneLaw"
abbrev cL_law : ByteArray := code
def yL_law : MethodName := ⟨RL, "law", "([I)Z"⟩
def wsL_law_r1 : List Cond := [Cond.classLink RL 7 RX11, Cond.instantiable RX11 17, Cond.initialized RX11, Cond.classLink RL 10 RX12, Cond.instantiable RX12 108, Cond.initialized RX12, Cond.methodLink RL 9 yX11_init, Cond.instanceMethod yX11_init, Cond.code yX11_init cX11_init 1 none, Cond.methodLink RX11 1 objectInit, Cond.instanceMethod objectInit, Cond.code objectInit ⟨#[0xb1]⟩ 1 none, Cond.classLink RX11 7 RX9, Cond.instantiable RX9 2, Cond.initialized RX9, Cond.fieldLink RX11 14 "OnePane" "tape" "LOnePane$Tape;", Cond.fieldLink RX11 18 "OnePane" "written" "LOnePane$Tape;", Cond.classLink RX11 21 RX4, Cond.instantiable RX4 2, Cond.initialized RX4, Cond.fieldLink RX11 24 "OnePane" "question" "LOnePane$Program;", Cond.classLink RX11 28 RX3, Cond.instantiable RX3 17, Cond.initialized RX3]
def wsL_law_r2 : List Cond := [Cond.fieldLink RX11 31 "OnePane" "plan" "LOnePane$Plan;", Cond.fieldLink RX11 35 "OnePane" "draft" "LOnePane$Plan;", Cond.classLink RX11 38 RX5, Cond.instantiable RX5 9, Cond.initialized RX5, Cond.fieldLink RX11 41 "OnePane" "reader" "LOnePane$Reader;", Cond.classLink RX11 45 RX1, Cond.instantiable RX1 3, Cond.initialized RX1, Cond.fieldLink RX11 50 "OnePane" "grammar" "LOnePane$Grammar;", Cond.classLink RX11 54 RX8, Cond.instantiable RX8 3, Cond.initialized RX8, Cond.fieldLink RX11 59 "OnePane" "statements" "LOnePane$Statements;", Cond.classLink RX11 63 RX10, Cond.instantiable RX10 8, Cond.initialized RX10, Cond.fieldLink RX11 66 "OnePane" "town" "LOnePane$Town;", Cond.fieldLink RX11 70 "OnePane" "ahead" "LOnePane$Town;", Cond.classLink RX11 73 RX2, Cond.instantiable RX2 3, Cond.initialized RX2, Cond.fieldLink RX11 76 "OnePane" "past" "LOnePane$Past;", Cond.classLink RX11 80 RX7]
def wsL_law_r3 : List Cond := [Cond.instantiable RX7 7, Cond.initialized RX7, Cond.fieldLink RX11 83 "OnePane" "sets" "LOnePane$Sets;", Cond.classLink RX11 87 RX6, Cond.instantiable RX6 14, Cond.initialized RX6, Cond.fieldLink RX11 92 "OnePane" "reckoner" "LOnePane$Reckoner;", Cond.arrayClass .int, Cond.fieldLink RX11 96 "OnePane" "refused" "[I", Cond.fieldLink RX11 100 "OnePane" "draws" "I", Cond.fieldLink RX11 104 "OnePane" "latestFault" "I", Cond.fieldLink RX11 107 "OnePane" "latestPlace" "I", Cond.methodLink RX11 11 yX9_init, Cond.instanceMethod yX9_init, Cond.code yX9_init cX9_init 2 none, Cond.methodLink RX9 3 objectInit, Cond.fieldLink RX9 9 "OnePane$Tape" "length" "I", Cond.arrayClass .byte, Cond.fieldLink RX9 15 "OnePane$Tape" "bytes" "[B", Cond.instanceMethod yX4_init, Cond.code yX4_init cX4_init 1 none, Cond.methodLink RX4 3 objectInit, Cond.fieldLink RX4 9 "OnePane$Program" "code" "[I", Cond.fieldLink RX4 15 "OnePane$Program" "length" "I"]
def wsL_law_r4 : List Cond := [Cond.instanceMethod yX3_init, Cond.code yX3_init cX3_init 1 none, Cond.methodLink RX3 3 objectInit, Cond.fieldLink RX3 9 "OnePane$Plan" "weight" "[I", Cond.fieldLink RX3 15 "OnePane$Plan" "name" "[I", Cond.fieldLink RX3 18 "OnePane$Plan" "homeColumn" "[I", Cond.fieldLink RX3 21 "OnePane$Plan" "homeRow" "[I", Cond.fieldLink RX3 24 "OnePane$Plan" "strength" "[I", Cond.classLink RX3 27 RX4, Cond.fieldLink RX3 30 "OnePane$Plan" "adds" "LOnePane$Program;", Cond.fieldLink RX3 34 "OnePane$Plan" "holds" "LOnePane$Program;", Cond.fieldLink RX3 37 "OnePane$Plan" "toldAdds" "Z", Cond.fieldLink RX3 41 "OnePane$Plan" "toldHolds" "Z", Cond.fieldLink RX3 44 "OnePane$Plan" "addsByHour" "Z", Cond.fieldLink RX3 47 "OnePane$Plan" "columns" "I", Cond.fieldLink RX3 51 "OnePane$Plan" "rows" "I", Cond.fieldLink RX3 54 "OnePane$Plan" "people" "I", Cond.fieldLink RX3 57 "OnePane$Plan" "tough" "I", Cond.fieldLink RX3 60 "OnePane$Plan" "fades" "I", Cond.fieldLink RX3 63 "OnePane$Plan" "stone" "I", Cond.fieldLink RX3 66 "OnePane$Plan" "hail" "I", Cond.methodLink RX11 40 yX5_init, Cond.instanceMethod yX5_init, Cond.code yX5_init cX5_init 5 none]
def wsL_law_r5 : List Cond := [Cond.methodLink RX5 3 objectInit, Cond.fieldLink RX5 9 "OnePane$Reader" "table" "[I", Cond.fieldLink RX5 15 "OnePane$Reader" "kinds" "[I", Cond.fieldLink RX5 18 "OnePane$Reader" "places" "[I", Cond.fieldLink RX5 21 "OnePane$Reader" "values" "[I", Cond.fieldLink RX5 24 "OnePane$Reader" "words" "[I", Cond.fieldLink RX5 27 "OnePane$Reader" "count" "I", Cond.fieldLink RX5 31 "OnePane$Reader" "at" "I", Cond.fieldLink RX5 34 "OnePane$Reader" "fault" "I", Cond.fieldLink RX5 37 "OnePane$Reader" "faultPlace" "I", Cond.methodLink RX5 42 yJ0_length_8abf5, Cond.instanceMethod yJ0_length_8abf5, Cond.selects RJ0 yJ0_length_8abf5 yJ0_length_8abf5, Cond.initialized RJ0, Cond.code yJ0_length_8abf5 cJ0_length_8abf5 1 (some .int), Cond.fieldLink RJ0 9 "java/lang/String" "value" "[B", Cond.methodLink RJ0 335 yJ0_coder_7d493, Cond.instanceMethod yJ0_coder_7d493, Cond.selects RJ0 yJ0_coder_7d493 yJ0_coder_7d493, Cond.code yJ0_coder_7d493 cJ0_coder_7d493 1 (some .byte), Cond.fieldLink RJ0 38 "java/lang/String" "COMPACT_STRINGS" "Z", Cond.fieldLink RJ0 15 "java/lang/String" "coder" "B", Cond.methodLink RX5 48 yJ0_charAt_5068e, Cond.instanceMethod yJ0_charAt_5068e]
def wsL_law_r6 : List Cond := [Cond.selects RJ0 yJ0_charAt_5068e yJ0_charAt_5068e, Cond.code yJ0_charAt_5068e cJ0_charAt_5068e 2 (some .char), Cond.methodLink RJ0 492 yJ0_isLatin1_aae02, Cond.instanceMethod yJ0_isLatin1_aae02, Cond.selects RJ0 yJ0_isLatin1_aae02 yJ0_isLatin1_aae02, Cond.code yJ0_isLatin1_aae02 cJ0_isLatin1_aae02 1 (some .boolean), Cond.methodLink RJ0 495 yJ1_charAt_3b067, Cond.static yJ1_charAt_3b067, Cond.initialized RJ1, Cond.code yJ1_charAt_3b067 cJ1_charAt_3b067 2 (some .char), Cond.methodLink RJ1 9 yJ0_checkIndex_df160, Cond.static yJ0_checkIndex_df160, Cond.code yJ0_checkIndex_df160 cJ0_checkIndex_df160 2 none, Cond.fieldLink RJ0 1053 "jdk/internal/util/Preconditions" "SIOOBE_FORMATTER" "Ljava/util/function/BiFunction;", Cond.methodLink RJ0 1059 yJ3_checkIndex_8e157, Cond.static yJ3_checkIndex_8e157, Cond.initialized RJ3, Cond.code yJ3_checkIndex_8e157 cJ3_checkIndex_8e157 3 (some .int), Cond.methodLink RJ0 498 yJ2_charAt_3b067, Cond.static yJ2_charAt_3b067, Cond.initialized RJ2, Cond.code yJ2_charAt_3b067 cJ2_charAt_3b067 2 (some .char), Cond.methodLink RJ2 67 yJ2_checkIndex_2214a, Cond.static yJ2_checkIndex_2214a]
def wsL_law_r7 : List Cond := [Cond.code yJ2_checkIndex_2214a cJ2_checkIndex_2214a 2 none, Cond.methodLink RJ2 48 yJ2_length_9d52b, Cond.static yJ2_length_9d52b, Cond.code yJ2_length_9d52b cJ2_length_9d52b 1 (some .int), Cond.methodLink RJ2 414 yJ0_checkIndex_df160, Cond.methodLink RJ2 71 yJ2_getChar_3b067, Cond.static yJ2_getChar_3b067, Cond.code yJ2_getChar_3b067 cJ2_getChar_3b067 2 (some .char), Cond.fieldLink RJ2 44 "java/lang/StringUTF16" "$assertionsDisabled" "Z", Cond.fieldLink RJ2 59 "java/lang/StringUTF16" "HI_BYTE_SHIFT" "I", Cond.fieldLink RJ2 63 "java/lang/StringUTF16" "LO_BYTE_SHIFT" "I", Cond.methodLink RX11 47 yX1_init, Cond.instanceMethod yX1_init, Cond.code yX1_init cX1_init 3 none, Cond.methodLink RX1 3 objectInit, Cond.fieldLink RX1 9 "OnePane$Grammar" "realm" "I", Cond.fieldLink RX1 15 "OnePane$Grammar" "reader" "LOnePane$Reader;", Cond.fieldLink RX1 19 "OnePane$Grammar" "program" "LOnePane$Program;", Cond.methodLink RX11 56 yX8_init, Cond.instanceMethod yX8_init, Cond.code yX8_init cX8_init 4 none, Cond.methodLink RX8 3 objectInit, Cond.fieldLink RX8 9 "OnePane$Statements" "reader" "LOnePane$Reader;", Cond.fieldLink RX8 15 "OnePane$Statements" "grammar" "LOnePane$Grammar;"]
def wsL_law_r8 : List Cond := [Cond.fieldLink RX8 19 "OnePane$Statements" "plan" "LOnePane$Plan;", Cond.instanceMethod yX10_init, Cond.code yX10_init cX10_init 1 none, Cond.methodLink RX10 3 objectInit, Cond.fieldLink RX10 9 "OnePane$Town" "column" "[I", Cond.fieldLink RX10 15 "OnePane$Town" "row" "[I", Cond.fieldLink RX10 18 "OnePane$Town" "tired" "[I", Cond.fieldLink RX10 21 "OnePane$Town" "kept" "[I", Cond.fieldLink RX10 24 "OnePane$Town" "keptCount" "I", Cond.fieldLink RX10 28 "OnePane$Town" "hour" "I", Cond.fieldLink RX10 31 "OnePane$Town" "cracked" "J", Cond.fieldLink RX10 35 "OnePane$Town" "resting" "I", Cond.methodLink RX11 75 yX2_init, Cond.instanceMethod yX2_init, Cond.code yX2_init cX2_init 2 none, Cond.methodLink RX2 3 objectInit, Cond.classLink RX2 9 RX10, Cond.fieldLink RX2 11 "OnePane$Past" "towns" "[LOnePane$Town;", Cond.fieldLink RX2 17 "OnePane$Past" "top" "I", Cond.fieldLink RX2 21 "OnePane$Past" "count" "I", Cond.instanceMethod yX7_init, Cond.code yX7_init cX7_init 1 none, Cond.methodLink RX7 3 objectInit, Cond.arrayClass .boolean]
def wsL_law_r9 : List Cond := [Cond.fieldLink RX7 9 "OnePane$Sets" "left" "[Z", Cond.fieldLink RX7 15 "OnePane$Sets" "lifted" "[I", Cond.fieldLink RX7 19 "OnePane$Sets" "often" "[I", Cond.fieldLink RX7 22 "OnePane$Sets" "soundCell" "[I", Cond.fieldLink RX7 25 "OnePane$Sets" "soundSlack" "[I", Cond.fieldLink RX7 28 "OnePane$Sets" "sounds" "I", Cond.fieldLink RX7 32 "OnePane$Sets" "size" "I", Cond.methodLink RX11 89 yX6_init, Cond.instanceMethod yX6_init, Cond.code yX6_init cX6_init 3 none, Cond.methodLink RX6 3 objectInit, Cond.classLink RX6 9 RX0, Cond.instantiable RX0 4, Cond.initialized RX0, Cond.fieldLink RX6 12 "OnePane$Reckoner" "abacus" "LOnePane$Abacus;", Cond.fieldLink RX6 18 "OnePane$Reckoner" "lift" "[I", Cond.fieldLink RX6 22 "OnePane$Reckoner" "near" "[I", Cond.fieldLink RX6 25 "OnePane$Reckoner" "lifted" "[I", Cond.fieldLink RX6 28 "OnePane$Reckoner" "load" "[I", Cond.fieldLink RX6 31 "OnePane$Reckoner" "slack" "[I", Cond.fieldLink RX6 34 "OnePane$Reckoner" "stronger" "I", Cond.fieldLink RX6 38 "OnePane$Reckoner" "liftedBy" "I", Cond.fieldLink RX6 41 "OnePane$Reckoner" "loadedHour" "I", Cond.fieldLink RX6 44 "OnePane$Reckoner" "loadedCracks" "J"]
def wsL_law_r10 : List Cond := [Cond.fieldLink RX6 48 "OnePane$Reckoner" "triedCount" "I", Cond.fieldLink RX6 51 "OnePane$Reckoner" "triedLeast" "I", Cond.fieldLink RX6 54 "OnePane$Reckoner" "plan" "LOnePane$Plan;", Cond.fieldLink RX6 58 "OnePane$Reckoner" "town" "LOnePane$Town;", Cond.methodLink RX6 11 yX0_init, Cond.instanceMethod yX0_init, Cond.code yX0_init cX0_init 1 none, Cond.methodLink RX0 3 objectInit, Cond.fieldLink RX0 9 "OnePane$Abacus" "values" "[I", Cond.fieldLink RX0 15 "OnePane$Abacus" "stack" "[I", Cond.fieldLink RX0 18 "OnePane$Abacus" "far" "[I", Cond.fieldLink RX0 21 "OnePane$Abacus" "people" "I", Cond.methodLink RL 12 yX12_init, Cond.instanceMethod yX12_init, Cond.code yX12_init cX12_init 1 none, Cond.methodLink RX12 1 objectInit, Cond.fieldLink RX12 7 "OnePaneModel" "tape" "[I", Cond.fieldLink RX12 13 "OnePaneModel" "faultPlace" "I", Cond.fieldLink RX12 17 "OnePaneModel" "refused" "[I", Cond.arrayClass .char, Cond.fieldLink RX12 20 "OnePaneModel" "paneWord" "[C", Cond.fieldLink RX12 24 "OnePaneModel" "byWord" "[C", Cond.fieldLink RX12 27 "OnePaneModel" "toughWord" "[C", Cond.fieldLink RX12 30 "OnePaneModel" "heavyWord" "[C"]
def wsL_law_r11 : List Cond := [Cond.fieldLink RX12 33 "OnePaneModel" "poleWord" "[C", Cond.fieldLink RX12 36 "OnePaneModel" "atWord" "[C", Cond.fieldLink RX12 39 "OnePaneModel" "liftsWord" "[C", Cond.fieldLink RX12 42 "OnePaneModel" "addsWord" "[C", Cond.fieldLink RX12 45 "OnePaneModel" "holdsWord" "[C", Cond.fieldLink RX12 48 "OnePaneModel" "fadesWord" "[C", Cond.fieldLink RX12 51 "OnePaneModel" "stoneWord" "[C", Cond.fieldLink RX12 54 "OnePaneModel" "hailWord" "[C", Cond.fieldLink RX12 57 "OnePaneModel" "hourWord" "[C", Cond.fieldLink RX12 60 "OnePaneModel" "cracksWord" "[C", Cond.fieldLink RX12 63 "OnePaneModel" "weightWord" "[C", Cond.fieldLink RX12 66 "OnePaneModel" "tiredWord" "[C", Cond.fieldLink RX12 69 "OnePaneModel" "nearWord" "[C", Cond.fieldLink RX12 72 "OnePaneModel" "numberWord" "[C", Cond.fieldLink RX12 75 "OnePaneModel" "columnWord" "[C", Cond.fieldLink RX12 78 "OnePaneModel" "rowWord" "[C", Cond.fieldLink RX12 81 "OnePaneModel" "farWord" "[C", Cond.fieldLink RX12 84 "OnePaneModel" "orWord" "[C", Cond.fieldLink RX12 87 "OnePaneModel" "andWord" "[C", Cond.fieldLink RX12 90 "OnePaneModel" "notWord" "[C", Cond.fieldLink RX12 93 "OnePaneModel" "allWord" "[C", Cond.fieldLink RX12 96 "OnePaneModel" "minWord" "[C", Cond.fieldLink RX12 99 "OnePaneModel" "maxWord" "[C", Cond.fieldLink RX12 102 "OnePaneModel" "side" "[I"]
def wsL_law_r12 : List Cond := [Cond.fieldLink RX12 105 "OnePaneModel" "many" "[I", Cond.arrayClass .long, Cond.fieldLink RX12 108 "OnePaneModel" "names" "[J", Cond.fieldLink RX12 112 "OnePaneModel" "weights" "[I", Cond.fieldLink RX12 115 "OnePaneModel" "people" "[I", Cond.fieldLink RX12 118 "OnePaneModel" "settings" "[I", Cond.fieldLink RX12 121 "OnePaneModel" "codeFrom" "[I", Cond.fieldLink RX12 124 "OnePaneModel" "codeEnd" "[I", Cond.fieldLink RX12 127 "OnePaneModel" "codes" "[I", Cond.fieldLink RX12 130 "OnePaneModel" "now" "[I", Cond.fieldLink RX12 133 "OnePaneModel" "aside" "[I", Cond.fieldLink RX12 136 "OnePaneModel" "loads" "[I", Cond.fieldLink RX12 139 "OnePaneModel" "hailed" "I", Cond.fieldLink RX12 142 "OnePaneModel" "isCracking" "[Z", Cond.fieldLink RX12 146 "OnePaneModel" "rows" "[I", Cond.fieldLink RX12 149 "OnePaneModel" "sets" "[I", Cond.fieldLink RX12 152 "OnePaneModel" "counts" "[I", Cond.fieldLink RX12 155 "OnePaneModel" "kept0" "[I", Cond.fieldLink RX12 158 "OnePaneModel" "seeded" "J", Cond.fieldLink RX12 162 "OnePaneModel" "firstAsked" "[C", Cond.fieldLink RX12 165 "OnePaneModel" "lastAsked" "[C", Cond.fieldLink RX12 168 "OnePaneModel" "oftenAsked" "[C", Cond.fieldLink RX12 171 "OnePaneModel" "totalAsked" "[C", Cond.fieldLink RX12 174 "OnePaneModel" "mostAsked" "[C"]
def wsL_law_r13 : List Cond := [Cond.fieldLink RX12 177 "OnePaneModel" "leastAsked" "[C", Cond.fieldLink RX12 180 "OnePaneModel" "notAsked" "[C", Cond.fieldLink RX12 183 "OnePaneModel" "andAsked" "[C", Cond.fieldLink RX12 186 "OnePaneModel" "orAsked" "[C", Cond.fieldLink RX12 189 "OnePaneModel" "allAsked" "[C", Cond.fieldLink RX12 192 "OnePaneModel" "minAsked" "[C", Cond.fieldLink RX12 195 "OnePaneModel" "maxAsked" "[C", Cond.fieldLink RX12 198 "OnePaneModel" "hourAsked" "[C", Cond.fieldLink RX12 201 "OnePaneModel" "cracksAsked" "[C", Cond.fieldLink RX12 204 "OnePaneModel" "weightAsked" "[C", Cond.fieldLink RX12 207 "OnePaneModel" "liftsAsked" "[C", Cond.fieldLink RX12 210 "OnePaneModel" "tiredAsked" "[C", Cond.fieldLink RX12 213 "OnePaneModel" "nearAsked" "[C", Cond.fieldLink RX12 216 "OnePaneModel" "numberAsked" "[C", Cond.fieldLink RX12 219 "OnePaneModel" "columnAsked" "[C", Cond.fieldLink RX12 222 "OnePaneModel" "rowAsked" "[C", Cond.fieldLink RX12 225 "OnePaneModel" "holdsAsked" "[C", Cond.fieldLink RX12 228 "OnePaneModel" "farAsked" "[C", Cond.fieldLink RX12 231 "OnePaneModel" "qCodes" "[I", Cond.fieldLink RX12 234 "OnePaneModel" "qWait" "[I", Cond.fieldLink RX12 237 "OnePaneModel" "qPile" "[J", Cond.fieldLink RX12 240 "OnePaneModel" "octet" "[I", Cond.methodLink RL 13 yX11_feed, Cond.instanceMethod yX11_feed]
def wsL_law_r14 : List Cond := [Cond.selects RX11 yX11_feed yX11_feed, Cond.code yX11_feed cX11_feed 6 (some .int), Cond.fieldLink RX11 110 "OnePane$Tape" "length" "I", Cond.methodLink RX11 113 yX11_refusal, Cond.instanceMethod yX11_refusal, Cond.selects RX11 yX11_refusal yX11_refusal, Cond.code yX11_refusal cX11_refusal 2 (some .int), Cond.methodLink RX11 117 yX9_addNumber, Cond.instanceMethod yX9_addNumber, Cond.selects RX9 yX9_addNumber yX9_addNumber, Cond.code yX9_addNumber cX9_addNumber 2 none, Cond.methodLink RX9 19 yX9_addByte, Cond.instanceMethod yX9_addByte, Cond.selects RX9 yX9_addByte yX9_addByte, Cond.code yX9_addByte cX9_addByte 2 none, Cond.methodLink RL 17 yX12_feed, Cond.instanceMethod yX12_feed, Cond.selects RX12 yX12_feed yX12_feed, Cond.code yX12_feed cX12_feed 8 (some .int), Cond.fieldLink RX12 243 "OnePaneModel" "taped" "I", Cond.methodLink RL 18 yX11_end, Cond.instanceMethod yX11_end, Cond.selects RX11 yX11_end yX11_end, Cond.code yX11_end cX11_end 2 (some .boolean)]
def wsL_law_r15 : List Cond := [Cond.methodLink RX11 120 yX11_denial, Cond.instanceMethod yX11_denial, Cond.selects RX11 yX11_denial yX11_denial, Cond.code yX11_denial cX11_denial 2 (some .boolean), Cond.methodLink RL 22 yX12_end, Cond.instanceMethod yX12_end, Cond.selects RX12 yX12_end yX12_end, Cond.code yX12_end cX12_end 2 (some .boolean), Cond.methodLink RL 23 yX11_pane, Cond.instanceMethod yX11_pane, Cond.selects RX11 yX11_pane yX11_pane, Cond.code yX11_pane cX11_pane 3 (some .int), Cond.fieldLink RX11 135 "OnePane$Past" "count" "I", Cond.fieldLink RX11 138 "OnePane$Sets" "sounds" "I", Cond.methodLink RX11 124 yX8_readInto, Cond.instanceMethod yX8_readInto, Cond.selects RX8 yX8_readInto yX8_readInto, Cond.code yX8_readInto cX8_readInto 4 (some .int), Cond.methodLink RX8 23 yX3_clear, Cond.instanceMethod yX3_clear, Cond.selects RX3 yX3_clear yX3_clear, Cond.code yX3_clear cX3_clear 2 none, Cond.methodLink RX3 69 yX4_setStep, Cond.instanceMethod yX4_setStep]
def wsL_law_r16 : List Cond := [Cond.selects RX4 yX4_setStep yX4_setStep, Cond.code yX4_setStep cX4_setStep 2 none, Cond.methodLink RX4 23 yX4_addStep, Cond.instanceMethod yX4_addStep, Cond.selects RX4 yX4_addStep yX4_addStep, Cond.code yX4_addStep cX4_addStep 2 none, Cond.methodLink RX4 19 yX4_addNumber, Cond.instanceMethod yX4_addNumber, Cond.selects RX4 yX4_addNumber yX4_addNumber, Cond.code yX4_addNumber cX4_addNumber 2 none, Cond.methodLink RX8 28 yX5_open, Cond.instanceMethod yX5_open, Cond.selects RX5 yX5_open yX5_open, Cond.code yX5_open cX5_open 5 none, Cond.fieldLink RX5 55 "OnePane$Tape" "length" "I", Cond.methodLink RX5 59 yX9_byteAt, Cond.instanceMethod yX9_byteAt, Cond.selects RX9 yX9_byteAt yX9_byteAt, Cond.code yX9_byteAt cX9_byteAt 2 (some .int), Cond.methodLink RX5 63 yX5_isLetter, Cond.static yX5_isLetter, Cond.code yX5_isLetter cX5_isLetter 1 (some .boolean), Cond.methodLink RX5 67 yX5_cutWord, Cond.instanceMethod yX5_cutWord]
def wsL_law_r17 : List Cond := [Cond.selects RX5 yX5_cutWord yX5_cutWord, Cond.code yX5_cutWord cX5_cutWord 6 (some .int), Cond.methodLink RX5 71 yX5_isDigit, Cond.static yX5_isDigit, Cond.code yX5_isDigit cX5_isDigit 1 (some .boolean), Cond.methodLink RX5 77 yX5_addToken, Cond.instanceMethod yX5_addToken, Cond.selects RX5 yX5_addToken yX5_addToken, Cond.code yX5_addToken cX5_addToken 5 none, Cond.methodLink RX5 81 yX5_knownWord, Cond.instanceMethod yX5_knownWord, Cond.selects RX5 yX5_knownWord yX5_knownWord, Cond.code yX5_knownWord cX5_knownWord 3 (some .int), Cond.methodLink RX5 74 yX5_cutNumber, Cond.instanceMethod yX5_cutNumber, Cond.selects RX5 yX5_cutNumber yX5_cutNumber, Cond.code yX5_cutNumber cX5_cutNumber 6 (some .int), Cond.methodLink RX8 34 yX5_hasMore, Cond.instanceMethod yX5_hasMore, Cond.selects RX5 yX5_hasMore yX5_hasMore, Cond.code yX5_hasMore cX5_hasMore 1 (some .boolean), Cond.methodLink RX8 38 yX8_readPane, Cond.instanceMethod yX8_readPane, Cond.selects RX8 yX8_readPane yX8_readPane]
def wsL_law_r18 : List Cond := [Cond.code yX8_readPane cX8_readPane 3 none, Cond.fieldLink RX8 66 "OnePane$Plan" "tough" "I", Cond.methodLink RX8 56 yX5_takeWord, Cond.instanceMethod yX5_takeWord, Cond.selects RX5 yX5_takeWord yX5_takeWord, Cond.code yX5_takeWord cX5_takeWord 2 none, Cond.methodLink RX5 84 yX5_wordHere, Cond.instanceMethod yX5_wordHere, Cond.selects RX5 yX5_wordHere yX5_wordHere, Cond.code yX5_wordHere cX5_wordHere 1 (some .int), Cond.methodLink RX5 87 yX5_step, Cond.instanceMethod yX5_step, Cond.selects RX5 yX5_step yX5_step, Cond.code yX5_step cX5_step 1 none, Cond.methodLink RX5 90 yX5_refuse, Cond.instanceMethod yX5_refuse, Cond.selects RX5 yX5_refuse yX5_refuse, Cond.code yX5_refuse cX5_refuse 3 none, Cond.methodLink RX8 59 yX5_takeNumber, Cond.instanceMethod yX5_takeNumber, Cond.selects RX5 yX5_takeNumber yX5_takeNumber, Cond.code yX5_takeNumber cX5_takeNumber 5 (some .int), Cond.methodLink RX5 97 yX5_kindHere, Cond.instanceMethod yX5_kindHere]
def wsL_law_r19 : List Cond := [Cond.selects RX5 yX5_kindHere yX5_kindHere, Cond.code yX5_kindHere cX5_kindHere 1 (some .int), Cond.methodLink RX8 63 yX3_setSides, Cond.instanceMethod yX3_setSides, Cond.selects RX3 yX3_setSides yX3_setSides, Cond.code yX3_setSides cX3_setSides 3 none, Cond.methodLink RX8 41 yX8_readStatement, Cond.instanceMethod yX8_readStatement, Cond.selects RX8 yX8_readStatement yX8_readStatement, Cond.code yX8_readStatement cX8_readStatement 1 none, Cond.fieldLink RX8 88 "OnePane$Plan" "fades" "I", Cond.fieldLink RX8 91 "OnePane$Plan" "stone" "I", Cond.fieldLink RX8 94 "OnePane$Plan" "hail" "I", Cond.methodLink RX8 70 yX5_wordHere, Cond.methodLink RX8 73 yX8_readHeavy, Cond.instanceMethod yX8_readHeavy, Cond.selects RX8 yX8_readHeavy yX8_readHeavy, Cond.code yX8_readHeavy cX8_readHeavy 4 none, Cond.fieldLink RX8 97 "OnePane$Plan" "columns" "I", Cond.fieldLink RX8 100 "OnePane$Plan" "rows" "I", Cond.fieldLink RX8 103 "OnePane$Plan" "weight" "[I", Cond.methodLink RX8 85 yX5_step, Cond.methodLink RX8 107 yX3_cellAt, Cond.instanceMethod yX3_cellAt]
def wsL_law_r20 : List Cond := [Cond.selects RX3 yX3_cellAt yX3_cellAt, Cond.code yX3_cellAt cX3_cellAt 3 (some .int), Cond.methodLink RX8 76 yX8_readPole, Cond.instanceMethod yX8_readPole, Cond.selects RX8 yX8_readPole yX8_readPole, Cond.code yX8_readPole cX8_readPole 6 none, Cond.fieldLink RX8 110 "OnePane$Plan" "people" "I", Cond.methodLink RX8 48 yX5_placeHere, Cond.instanceMethod yX5_placeHere, Cond.selects RX5 yX5_placeHere yX5_placeHere, Cond.code yX5_placeHere cX5_placeHere 1 (some .int), Cond.methodLink RX8 52 yX5_refuse, Cond.methodLink RX8 113 yX8_takeName, Cond.instanceMethod yX8_takeName, Cond.selects RX8 yX8_takeName yX8_takeName, Cond.code yX8_takeName cX8_takeName 4 (some .int), Cond.fieldLink RX8 127 "OnePane$Reader" "values" "[I", Cond.fieldLink RX8 130 "OnePane$Reader" "at" "I", Cond.methodLink RX8 124 yX5_kindHere, Cond.methodLink RX8 133 yX3_isNamed, Cond.instanceMethod yX3_isNamed, Cond.selects RX3 yX3_isNamed yX3_isNamed, Cond.code yX3_isNamed cX3_isNamed 3 (some .boolean), Cond.methodLink RX8 116 yX3_isHome]
def wsL_law_r21 : List Cond := [Cond.instanceMethod yX3_isHome, Cond.selects RX3 yX3_isHome yX3_isHome, Cond.code yX3_isHome cX3_isHome 4 (some .boolean), Cond.methodLink RX8 120 yX3_addPerson, Cond.instanceMethod yX3_addPerson, Cond.selects RX3 yX3_addPerson yX3_addPerson, Cond.code yX3_addPerson cX3_addPerson 5 none, Cond.methodLink RX8 79 yX8_readAdds, Cond.instanceMethod yX8_readAdds, Cond.selects RX8 yX8_readAdds yX8_readAdds, Cond.code yX8_readAdds cX8_readAdds 1 none, Cond.fieldLink RX8 137 "OnePane$Plan" "toldAdds" "Z", Cond.fieldLink RX8 141 "OnePane$Plan" "adds" "LOnePane$Program;", Cond.fieldLink RX8 156 "OnePane$Plan" "addsByHour" "Z", Cond.methodLink RX8 145 yX1_readSum, Cond.instanceMethod yX1_readSum, Cond.selects RX1 yX1_readSum yX1_readSum, Cond.code yX1_readSum cX1_readSum 3 none, Cond.fieldLink RX1 23 "OnePane$Program" "length" "I", Cond.methodLink RX1 28 yX1_sum, Cond.instanceMethod yX1_sum, Cond.selects RX1 yX1_sum yX1_sum, Cond.code yX1_sum cX1_sum 4 none, Cond.methodLink RX1 88 yX1_product]
def wsL_law_r22 : List Cond := [Cond.instanceMethod yX1_product, Cond.selects RX1 yX1_product yX1_product, Cond.methodLink RX1 79 yX5_signHere, Cond.instanceMethod yX5_signHere, Cond.selects RX5 yX5_signHere yX5_signHere, Cond.code yX5_signHere cX5_signHere 1 (some .int), Cond.methodLink RX1 45 yX5_step, Cond.methodLink RX1 69 yX4_addStep, Cond.code yX1_pair cX1_pair 2 none, Cond.methodLink RX1 55 yX5_placeHere, Cond.methodLink RX1 58 yX5_refuse, Cond.methodLink RX1 75 yX1_opens, Cond.instanceMethod yX1_opens, Cond.selects RX1 yX1_opens yX1_opens, Cond.code yX1_opens cX1_opens 2 (some .boolean), Cond.methodLink RX1 82 yX5_takeSign, Cond.instanceMethod yX5_takeSign, Cond.selects RX5 yX5_takeSign yX5_takeSign, Cond.code yX5_takeSign cX5_takeSign 2 none, Cond.methodLink RX5 94 yX5_signHere, Cond.code yX1_part cX1_part 4 none, Cond.methodLink RX1 41 yX5_wordHere, Cond.methodLink RX1 94 yX5_kindHere, Cond.methodLink RX1 97 yX5_takeNumber]
def wsL_law_r23 : List Cond := [Cond.methodLink RX1 101 yX4_addNumber, Cond.methodLink RX1 104 yX1_pair, Cond.instanceMethod yX1_pair, Cond.selects RX1 yX1_pair yX1_pair, Cond.methodLink RX1 91 yX1_part, Cond.instanceMethod yX1_part, Cond.selects RX1 yX1_part yX1_part, Cond.methodLink RX1 107 yX1_isValue, Cond.instanceMethod yX1_isValue, Cond.selects RX1 yX1_isValue yX1_isValue, Cond.code yX1_isValue cX1_isValue 2 (some .boolean), Cond.code yX1_product cX1_product 4 none, Cond.methodLink RX8 151 yX4_hasStep, Cond.instanceMethod yX4_hasStep, Cond.selects RX4 yX4_hasStep yX4_hasStep, Cond.code yX4_hasStep cX4_hasStep 3 (some .boolean), Cond.methodLink RX8 82 yX8_readHolds, Cond.instanceMethod yX8_readHolds, Cond.selects RX8 yX8_readHolds yX8_readHolds, Cond.code yX8_readHolds cX8_readHolds 1 none, Cond.fieldLink RX8 159 "OnePane$Plan" "toldHolds" "Z", Cond.fieldLink RX8 162 "OnePane$Plan" "holds" "LOnePane$Program;", Cond.methodLink RX8 165 yX1_readTest, Cond.instanceMethod yX1_readTest]
def wsL_law_r24 : List Cond := [Cond.selects RX1 yX1_readTest yX1_readTest, Cond.code yX1_readTest cX1_readTest 3 none, Cond.methodLink RX1 32 yX1_test, Cond.instanceMethod yX1_test, Cond.selects RX1 yX1_test yX1_test, Cond.code yX1_test cX1_test 3 none, Cond.methodLink RX1 66 yX1_both, Cond.instanceMethod yX1_both, Cond.selects RX1 yX1_both yX1_both, Cond.code yX1_both cX1_both 3 none, Cond.methodLink RX1 72 yX1_fact, Cond.instanceMethod yX1_fact, Cond.selects RX1 yX1_fact yX1_fact, Cond.code yX1_fact cX1_fact 2 none, Cond.methodLink RX1 85 yX1_comparison, Cond.instanceMethod yX1_comparison, Cond.selects RX1 yX1_comparison yX1_comparison, Cond.code yX1_comparison cX1_comparison 3 none, Cond.methodLink RX8 44 yX5_takeSign, Cond.methodLink RX11 128 yX11_rememberFault, Cond.instanceMethod yX11_rememberFault, Cond.selects RX11 yX11_rememberFault yX11_rememberFault, Cond.code yX11_rememberFault cX11_rememberFault 1 none, Cond.fieldLink RX11 369 "OnePane$Reader" "fault" "I"]
def wsL_law_r25 : List Cond := [Cond.fieldLink RX11 372 "OnePane$Reader" "faultPlace" "I", Cond.methodLink RX11 131 yX10_begin, Cond.instanceMethod yX10_begin, Cond.selects RX10 yX10_begin yX10_begin, Cond.code yX10_begin cX10_begin 3 none, Cond.fieldLink RX10 38 "OnePane$Plan" "people" "I", Cond.fieldLink RX10 43 "OnePane$Plan" "homeColumn" "[I", Cond.fieldLink RX10 46 "OnePane$Plan" "homeRow" "[I", Cond.methodLink RL 27 yX12_pane, Cond.instanceMethod yX12_pane, Cond.selects RX12 yX12_pane yX12_pane, Cond.code yX12_pane cX12_pane 2 (some .int), Cond.fieldLink RX12 255 "OnePaneModel" "end" "I", Cond.fieldLink RX12 252 "OnePaneModel" "at" "I", Cond.fieldLink RX12 266 "OnePaneModel" "ended" "I", Cond.fieldLink RX12 246 "OnePaneModel" "bad" "I", Cond.fieldLink RX12 249 "OnePaneModel" "badPlace" "I", Cond.fieldLink RX12 348 "OnePaneModel" "coded" "I", Cond.fieldLink RX12 351 "OnePaneModel" "statements" "I", Cond.fieldLink RX12 369 "OnePaneModel" "fault" "I", Cond.methodLink RX12 363 yX12_paneTold, Cond.instanceMethod yX12_paneTold, Cond.selects RX12 yX12_paneTold yX12_paneTold, Cond.code yX12_paneTold cX12_paneTold 1 none]
def wsL_law_r26 : List Cond := [Cond.methodLink RX12 311 yX12_asks, Cond.instanceMethod yX12_asks, Cond.selects RX12 yX12_asks yX12_asks, Cond.code yX12_asks cX12_asks 2 none, Cond.methodLink RX12 273 yX12_takes, Cond.instanceMethod yX12_takes, Cond.selects RX12 yX12_takes yX12_takes, Cond.code yX12_takes cX12_takes 2 (some .boolean), Cond.methodLink RX12 269 yX12_isHere, Cond.instanceMethod yX12_isHere, Cond.selects RX12 yX12_isHere yX12_isHere, Cond.code yX12_isHere cX12_isHere 4 (some .boolean), Cond.methodLink RX12 258 yX12_look, Cond.instanceMethod yX12_look, Cond.selects RX12 yX12_look yX12_look, Cond.code yX12_look cX12_look 1 (some .int), Cond.methodLink RX12 262 yX12_isLetter, Cond.static yX12_isLetter, Cond.code yX12_isLetter cX12_isLetter 1 (some .boolean), Cond.methodLink RX12 276 yX12_fail, Cond.instanceMethod yX12_fail, Cond.selects RX12 yX12_fail yX12_fail, Cond.code yX12_fail cX12_fail 3 none, Cond.methodLink RX12 315 yX12_number]
def wsL_law_r27 : List Cond := [Cond.instanceMethod yX12_number, Cond.selects RX12 yX12_number yX12_number, Cond.code yX12_number cX12_number 5 (some .int), Cond.fieldLink RX12 286 "OnePaneModel" "numberPlace" "I", Cond.methodLink RX12 283 yX12_isDigit, Cond.static yX12_isDigit, Cond.code yX12_isDigit cX12_isDigit 1 (some .boolean), Cond.methodLink RX12 289 yX12_isIn, Cond.static yX12_isIn, Cond.code yX12_isIn cX12_isIn 6 (some .boolean), Cond.methodLink RX12 319 yX12_asksSign, Cond.instanceMethod yX12_asksSign, Cond.selects RX12 yX12_asksSign yX12_asksSign, Cond.code yX12_asksSign cX12_asksSign 2 none, Cond.methodLink RX12 280 yX12_takesSign, Cond.instanceMethod yX12_takesSign, Cond.selects RX12 yX12_takesSign yX12_takesSign, Cond.code yX12_takesSign cX12_takesSign 2 (some .boolean), Cond.methodLink RX12 366 yX12_statementTold, Cond.instanceMethod yX12_statementTold, Cond.selects RX12 yX12_statementTold yX12_statementTold, Cond.code yX12_statementTold cX12_statementTold 2 none, Cond.methodLink RX12 354 yX12_heavyTold, Cond.instanceMethod yX12_heavyTold]
def wsL_law_r28 : List Cond := [Cond.selects RX12 yX12_heavyTold yX12_heavyTold, Cond.code yX12_heavyTold cX12_heavyTold 3 none, Cond.methodLink RX12 323 yX12_cellTold, Cond.instanceMethod yX12_cellTold, Cond.selects RX12 yX12_cellTold yX12_cellTold, Cond.code yX12_cellTold cX12_cellTold 3 (some .int), Cond.methodLink RX12 357 yX12_poleTold, Cond.instanceMethod yX12_poleTold, Cond.selects RX12 yX12_poleTold yX12_poleTold, Cond.code yX12_poleTold cX12_poleTold 6 none, Cond.fieldLink RX12 297 "OnePaneModel" "namePlace" "I", Cond.methodLink RX12 326 yX12_name, Cond.instanceMethod yX12_name, Cond.selects RX12 yX12_name yX12_name, Cond.code yX12_name cX12_name 3 (some .long), Cond.constantLong RX12 300 (27), Cond.constantLong RX12 302 (97), Cond.methodLink RX12 293 yX12_isOwnHere, Cond.instanceMethod yX12_isOwnHere, Cond.selects RX12 yX12_isOwnHere yX12_isOwnHere, Cond.code yX12_isOwnHere cX12_isOwnHere 2 (some .boolean), Cond.methodLink RX12 360 yX12_codesTold, Cond.instanceMethod yX12_codesTold, Cond.selects RX12 yX12_codesTold yX12_codesTold]
def wsL_law_r29 : List Cond := [Cond.code yX12_codesTold cX12_codesTold 4 none, Cond.fieldLink RX12 304 "OnePaneModel" "textKind" "I", Cond.fieldLink RX12 330 "OnePaneModel" "qCoded" "I", Cond.fieldLink RX12 333 "OnePaneModel" "qWaits" "I", Cond.fieldLink RX12 336 "OnePaneModel" "qOpened" "I", Cond.fieldLink RX12 339 "OnePaneModel" "qBase" "I", Cond.methodLink RX12 342 yX12_qTest, Cond.instanceMethod yX12_qTest, Cond.selects RX12 yX12_qTest yX12_qTest, Cond.code yX12_qTest cX12_qTest 3 none, Cond.methodLink RX12 576 yX12_qOpens, Cond.instanceMethod yX12_qOpens, Cond.selects RX12 yX12_qOpens yX12_qOpens, Cond.code yX12_qOpens cX12_qOpens 3 none, Cond.methodLink RX12 600 yX12_qFact, Cond.instanceMethod yX12_qFact, Cond.selects RX12 yX12_qFact yX12_qFact, Cond.code yX12_qFact cX12_qFact 2 none, Cond.methodLink RX12 558 yX12_qCode, Cond.instanceMethod yX12_qCode, Cond.selects RX12 yX12_qCode yX12_qCode, Cond.code yX12_qCode cX12_qCode 2 none, Cond.methodLink RX12 345 yX12_qSums, Cond.instanceMethod yX12_qSums]
def wsL_law_r30 : List Cond := [Cond.selects RX12 yX12_qSums yX12_qSums, Cond.code yX12_qSums cX12_qSums 3 none, Cond.methodLink RX12 594 yX12_qPartTold, Cond.instanceMethod yX12_qPartTold, Cond.selects RX12 yX12_qPartTold yX12_qPartTold, Cond.code yX12_qPartTold cX12_qPartTold 6 none, Cond.methodLink RX12 573 yX12_qWordOf, Cond.instanceMethod yX12_qWordOf, Cond.selects RX12 yX12_qWordOf yX12_qWordOf, Cond.code yX12_qWordOf cX12_qWordOf 4 (some .int), Cond.methodLink RX12 567 yX12_qWordHere, Cond.instanceMethod yX12_qWordHere, Cond.selects RX12 yX12_qWordHere yX12_qWordHere, Cond.code yX12_qWordHere cX12_qWordHere 1 (some .int), Cond.methodLink RX12 570 yX12_isAllowed, Cond.instanceMethod yX12_isAllowed, Cond.selects RX12 yX12_isAllowed yX12_isAllowed, Cond.code yX12_isAllowed cX12_isAllowed 2 (some .boolean), Cond.constantLong RX12 307 (3), Cond.constantLong RX12 309 (5), Cond.methodLink RX12 579 yX12_qAsksWord, Cond.instanceMethod yX12_qAsksWord, Cond.selects RX12 yX12_qAsksWord yX12_qAsksWord, Cond.code yX12_qAsksWord cX12_qAsksWord 2 none]
def wsL_law_r31 : List Cond := [Cond.methodLink RX12 582 yX12_qEndsPart, Cond.instanceMethod yX12_qEndsPart, Cond.selects RX12 yX12_qEndsPart yX12_qEndsPart, Cond.code yX12_qEndsPart cX12_qEndsPart 1 none, Cond.methodLink RX12 564 yX12_qDrops, Cond.instanceMethod yX12_qDrops, Cond.selects RX12 yX12_qDrops yX12_qDrops, Cond.code yX12_qDrops cX12_qDrops 1 none, Cond.methodLink RX12 597 yX12_qGoesOn, Cond.instanceMethod yX12_qGoesOn, Cond.selects RX12 yX12_qGoesOn yX12_qGoesOn, Cond.code yX12_qGoesOn cX12_qGoesOn 2 (some .boolean), Cond.methodLink RX12 585 yX12_qBracket, Cond.instanceMethod yX12_qBracket, Cond.selects RX12 yX12_qBracket yX12_qBracket, Cond.code yX12_qBracket cX12_qBracket 2 (some .int), Cond.methodLink RX12 561 yX12_qIsBracket, Cond.static yX12_qIsBracket, Cond.code yX12_qIsBracket cX12_qIsBracket 1 (some .boolean), Cond.methodLink RX12 588 yX12_qDropsToBracket, Cond.instanceMethod yX12_qDropsToBracket, Cond.selects RX12 yX12_qDropsToBracket yX12_qDropsToBracket, Cond.code yX12_qDropsToBracket cX12_qDropsToBracket 1 none, Cond.methodLink RX12 591 yX12_qIsOn]
def wsL_law_r32 : List Cond := [Cond.instanceMethod yX12_qIsOn, Cond.selects RX12 yX12_qIsOn yX12_qIsOn, Cond.code yX12_qIsOn cX12_qIsOn 2 (some .boolean), Cond.methodLink RX12 603 yX12_qDropsNots, Cond.instanceMethod yX12_qDropsNots, Cond.selects RX12 yX12_qDropsNots yX12_qDropsNots, Cond.code yX12_qDropsNots cX12_qDropsNots 1 none, Cond.methodLink RX12 606 yX12_qGoesOnTest, Cond.instanceMethod yX12_qGoesOnTest, Cond.selects RX12 yX12_qGoesOnTest yX12_qGoesOnTest, Cond.code yX12_qGoesOnTest cX12_qGoesOnTest 1 (some .boolean), Cond.methodLink RX12 609 yX12_qHasSquare, Cond.instanceMethod yX12_qHasSquare, Cond.selects RX12 yX12_qHasSquare yX12_qHasSquare, Cond.code yX12_qHasSquare cX12_qHasSquare 2 (some .boolean), Cond.methodLink RX12 372 yX12_stands, Cond.instanceMethod yX12_stands, Cond.selects RX12 yX12_stands yX12_stands, Cond.code yX12_stands cX12_stands 2 none, Cond.fieldLink RX12 375 "OnePaneModel" "isPane" "Z", Cond.fieldLink RX12 379 "OnePaneModel" "undoable" "I", Cond.fieldLink RX12 382 "OnePaneModel" "rowMany" "I", Cond.methodLink RL 28 yX11_fault, Cond.instanceMethod yX11_fault]
def wsL_law_r33 : List Cond := [Cond.selects RX11 yX11_fault yX11_fault, Cond.code yX11_fault cX11_fault 2 (some .int), Cond.methodLink RL 32 yX12_fault, Cond.instanceMethod yX12_fault, Cond.selects RX12 yX12_fault yX12_fault, Cond.code yX12_fault cX12_fault 2 (some .int), Cond.methodLink RL 33 yX11_has, Cond.instanceMethod yX11_has, Cond.selects RX11 yX11_has yX11_has, Cond.code yX11_has cX11_has 2 (some .int), Cond.fieldLink RX11 141 "OnePane$Plan" "columns" "I", Cond.fieldLink RX11 144 "OnePane$Plan" "rows" "I", Cond.fieldLink RX11 147 "OnePane$Plan" "people" "I", Cond.fieldLink RX11 150 "OnePane$Town" "hour" "I", Cond.fieldLink RX11 153 "OnePane$Town" "cracked" "J", Cond.fieldLink RX11 171 "OnePane$Town" "resting" "I", Cond.fieldLink RX11 174 "OnePane$Town" "keptCount" "I", Cond.methodLink RX11 157 yJ13_bitCount_95d88, Cond.static yJ13_bitCount_95d88, Cond.initialized RJ13, Cond.code yJ13_bitCount_95d88 cJ13_bitCount_95d88 2 (some .int), Cond.constantLong RJ13 314 (6148914691236517205), Cond.constantLong RJ13 316 (3689348814741910323), Cond.constantLong RJ13 318 (1085102592571150095)]
def wsL_law_r34 : List Cond := [Cond.methodLink RX11 163 yX11_holdersNow, Cond.instanceMethod yX11_holdersNow, Cond.selects RX11 yX11_holdersNow yX11_holdersNow, Cond.code yX11_holdersNow cX11_holdersNow 1 (some .int), Cond.methodLink RX11 227 yX6_look, Cond.instanceMethod yX6_look, Cond.selects RX6 yX6_look yX6_look, Cond.code yX6_look cX6_look 5 none, Cond.fieldLink RX6 62 "OnePane$Plan" "people" "I", Cond.methodLink RX6 67 yX6_countNear, Cond.instanceMethod yX6_countNear, Cond.selects RX6 yX6_countNear yX6_countNear, Cond.code yX6_countNear cX6_countNear 4 (some .int), Cond.fieldLink RX6 75 "OnePane$Town" "column" "[I", Cond.fieldLink RX6 80 "OnePane$Town" "row" "[I", Cond.methodLink RX6 83 yX10_between, Cond.instanceMethod yX10_between, Cond.selects RX10 yX10_between yX10_between, Cond.code yX10_between cX10_between 4 (some .int), Cond.methodLink RX10 63 Lib.Math.abs.name, Cond.static Lib.Math.abs.name, Cond.initialized "java/lang/Math", Cond.code Lib.Math.abs.name Lib.Math.abs.code 1 (some .int), Cond.methodLink RX6 71 yX6_measureLift]
def wsL_law_r35 : List Cond := [Cond.instanceMethod yX6_measureLift, Cond.selects RX6 yX6_measureLift yX6_measureLift, Cond.code yX6_measureLift cX6_measureLift 4 none, Cond.fieldLink RX6 87 "OnePane$Plan" "rows" "I", Cond.fieldLink RX6 90 "OnePane$Plan" "columns" "I", Cond.methodLink RX6 93 yX3_cellAt, Cond.methodLink RX6 97 yX6_liftOver, Cond.instanceMethod yX6_liftOver, Cond.selects RX6 yX6_liftOver yX6_liftOver, Cond.code yX6_liftOver cX6_liftOver 3 (some .int), Cond.fieldLink RX6 100 "OnePane$Plan" "strength" "[I", Cond.fieldLink RX6 103 "OnePane$Plan" "fades" "I", Cond.methodLink RX6 106 Lib.Math.max.name, Cond.static Lib.Math.max.name, Cond.code Lib.Math.max.name Lib.Math.max.code 2 (some .int), Cond.methodLink RX11 248 yX6_holders, Cond.instanceMethod yX6_holders, Cond.selects RX6 yX6_holders yX6_holders, Cond.code yX6_holders cX6_holders 3 (some .int), Cond.fieldLink RX6 139 "OnePane$Town" "resting" "I", Cond.fieldLink RX6 142 "OnePane$Plan" "holds" "LOnePane$Program;", Cond.methodLink RX6 136 yX6_showTime, Cond.instanceMethod yX6_showTime, Cond.selects RX6 yX6_showTime yX6_showTime]
def wsL_law_r36 : List Cond := [Cond.code yX6_showTime cX6_showTime 1 none, Cond.fieldLink RX6 111 "OnePane$Abacus" "values" "[I", Cond.fieldLink RX6 114 "OnePane$Town" "hour" "I", Cond.fieldLink RX6 117 "OnePane$Town" "cracked" "J", Cond.methodLink RX6 120 yJ13_bitCount_95d88, Cond.methodLink RX6 129 yX6_showPerson, Cond.instanceMethod yX6_showPerson, Cond.selects RX6 yX6_showPerson yX6_showPerson, Cond.code yX6_showPerson cX6_showPerson 2 none, Cond.fieldLink RX6 126 "OnePane$Town" "tired" "[I", Cond.methodLink RX6 146 yX0_run, Cond.instanceMethod yX0_run, Cond.selects RX0 yX0_run yX0_run, Cond.code yX0_run cX0_run 6 (some .int), Cond.fieldLink RX0 25 "OnePane$Program" "length" "I", Cond.fieldLink RX0 30 "OnePane$Program" "code" "[I", Cond.methodLink RX0 33 yX0_takesTwo, Cond.static yX0_takesTwo, Cond.code yX0_takesTwo cX0_takesTwo 1 (some .boolean), Cond.methodLink RX0 37 yX0_joined, Cond.static yX0_joined, Cond.code yX0_joined cX0_joined 3 (some .int), Cond.methodLink RX0 45 Lib.Math.min.name, Cond.static Lib.Math.min.name]
def wsL_law_r37 : List Cond := [Cond.code Lib.Math.min.name Lib.Math.min.code 2 (some .int), Cond.methodLink RX0 51 Lib.Math.max.name, Cond.methodLink RX0 54 yX0_limited, Cond.static yX0_limited, Cond.code yX0_limited cX0_limited 2 (some .int), Cond.constantLong RX0 61 (1000000), Cond.constant RX0 63 (1000000), Cond.constantLong RX0 64 (-1000000), Cond.constant RX0 66 (-1000000), Cond.methodLink RX0 58 yJ9_floorDiv_7cf53, Cond.static yJ9_floorDiv_7cf53, Cond.initialized RJ9, Cond.code yJ9_floorDiv_7cf53 cJ9_floorDiv_7cf53 3 (some .int), Cond.methodLink RX0 41 yX0_farTo, Cond.instanceMethod yX0_farTo, Cond.selects RX0 yX0_farTo yX0_farTo, Cond.code yX0_farTo cX0_farTo 2 (some .int), Cond.methodLink RX11 167 yJ6_bitCount_0f7a4, Cond.static yJ6_bitCount_0f7a4, Cond.initialized RJ6, Cond.code yJ6_bitCount_0f7a4 cJ6_bitCount_0f7a4 1 (some .int), Cond.constant RJ6 265 (1431655765), Cond.constant RJ6 266 (858993459), Cond.constant RJ6 267 (252645135)]
def wsL_law_r38 : List Cond := [Cond.methodLink RL 36 yX12_has, Cond.instanceMethod yX12_has, Cond.selects RX12 yX12_has yX12_has, Cond.code yX12_has cX12_has 2 (some .int), Cond.methodLink RX12 385 yX12_peopleMany, Cond.instanceMethod yX12_peopleMany, Cond.selects RX12 yX12_peopleMany yX12_peopleMany, Cond.code yX12_peopleMany cX12_peopleMany 1 (some .int), Cond.methodLink RX12 466 yX12_crackedMany, Cond.instanceMethod yX12_crackedMany, Cond.selects RX12 yX12_crackedMany yX12_crackedMany, Cond.code yX12_crackedMany cX12_crackedMany 3 (some .int), Cond.methodLink RX12 451 yX12_holders, Cond.instanceMethod yX12_holders, Cond.selects RX12 yX12_holders yX12_holders, Cond.code yX12_holders cX12_holders 3 (some .int), Cond.methodLink RX12 412 yX12_isAtRest, Cond.instanceMethod yX12_isAtRest, Cond.selects RX12 yX12_isAtRest yX12_isAtRest, Cond.code yX12_isAtRest cX12_isAtRest 2 (some .boolean), Cond.methodLink RX12 415 yX12_codesTell, Cond.instanceMethod yX12_codesTell, Cond.selects RX12 yX12_codesTell yX12_codesTell, Cond.code yX12_codesTell cX12_codesTell 5 (some .long)]
def wsL_law_r39 : List Cond := [Cond.fieldLink RX12 398 "OnePaneModel" "qPiled" "I", Cond.methodLink RX12 401 yX12_qPuts, Cond.instanceMethod yX12_qPuts, Cond.selects RX12 yX12_qPuts yX12_qPuts, Cond.code yX12_qPuts cX12_qPuts 3 none, Cond.methodLink RX12 405 yX12_qPartOf, Cond.instanceMethod yX12_qPartOf, Cond.selects RX12 yX12_qPartOf yX12_qPartOf, Cond.code yX12_qPartOf cX12_qPartOf 3 (some .long), Cond.fieldLink RX12 425 "OnePaneModel" "askWeight" "I", Cond.fieldLink RX12 627 "OnePaneModel" "askHolds" "I", Cond.methodLink RX12 418 yX12_strengthOf, Cond.instanceMethod yX12_strengthOf, Cond.selects RX12 yX12_strengthOf yX12_strengthOf, Cond.code yX12_strengthOf cX12_strengthOf 2 (some .int), Cond.fieldLink RX12 388 "OnePaneModel" "stronger" "I", Cond.methodLink RX12 486 yX12_tiredOf, Cond.instanceMethod yX12_tiredOf, Cond.selects RX12 yX12_tiredOf yX12_tiredOf, Cond.code yX12_tiredOf cX12_tiredOf 2 (some .int), Cond.methodLink RX12 624 yX12_nearOf, Cond.instanceMethod yX12_nearOf, Cond.selects RX12 yX12_nearOf yX12_nearOf, Cond.code yX12_nearOf cX12_nearOf 4 (some .int)]
def wsL_law_r40 : List Cond := [Cond.methodLink RX12 391 yX12_placeOf, Cond.instanceMethod yX12_placeOf, Cond.selects RX12 yX12_placeOf yX12_placeOf, Cond.code yX12_placeOf cX12_placeOf 2 (some .int), Cond.methodLink RX12 395 yX12_apart, Cond.static yX12_apart, Cond.code yX12_apart cX12_apart 4 (some .int), Cond.methodLink RX12 409 yX12_qJoins, Cond.instanceMethod yX12_qJoins, Cond.selects RX12 yX12_qJoins yX12_qJoins, Cond.code yX12_qJoins cX12_qJoins 6 none, Cond.methodLink RX12 616 yX12_qClip, Cond.static yX12_qClip, Cond.code yX12_qClip cX12_qClip 2 (some .long), Cond.constantLong RX12 612 (1000000), Cond.constantLong RX12 614 (-1000000), Cond.methodLink RX12 620 yX12_qFloor, Cond.static yX12_qFloor, Cond.code yX12_qFloor cX12_qFloor 6 (some .long), Cond.methodLink RX12 469 yX12_bits, Cond.static yX12_bits, Cond.code yX12_bits cX12_bits 3 (some .int), Cond.methodLink RX12 472 yX12_awake, Cond.instanceMethod yX12_awake]
def wsL_law_r41 : List Cond := [Cond.selects RX12 yX12_awake yX12_awake, Cond.code yX12_awake cX12_awake 3 (some .int), Cond.methodLink RL 37 yX11_letter, Cond.instanceMethod yX11_letter, Cond.selects RX11 yX11_letter yX11_letter, Cond.code yX11_letter cX11_letter 3 (some .int), Cond.fieldLink RX11 180 "OnePane$Plan" "name" "[I", Cond.fieldLink RX11 183 "OnePane" "LETTER_WORTH" "[I", Cond.methodLink RX11 177 yX3_hasPerson, Cond.instanceMethod yX3_hasPerson, Cond.selects RX3 yX3_hasPerson yX3_hasPerson, Cond.code yX3_hasPerson cX3_hasPerson 2 (some .boolean), Cond.methodLink RL 41 yX12_letter, Cond.instanceMethod yX12_letter, Cond.selects RX12 yX12_letter yX12_letter, Cond.code yX12_letter cX12_letter 8 (some .int), Cond.methodLink RX12 475 yX12_isPerson, Cond.instanceMethod yX12_isPerson, Cond.selects RX12 yX12_isPerson yX12_isPerson, Cond.code yX12_isPerson cX12_isPerson 2 (some .boolean), Cond.methodLink RL 42 yX11_cell, Cond.instanceMethod yX11_cell, Cond.selects RX11 yX11_cell yX11_cell, Cond.code yX11_cell cX11_cell 5 (some .int)]
def wsL_law_r42 : List Cond := [Cond.fieldLink RX11 194 "OnePane$Plan" "weight" "[I", Cond.fieldLink RX11 203 "OnePane$Reckoner" "load" "[I", Cond.methodLink RX11 186 yX3_hasCell, Cond.instanceMethod yX3_hasCell, Cond.selects RX3 yX3_hasCell yX3_hasCell, Cond.code yX3_hasCell cX3_hasCell 3 (some .boolean), Cond.methodLink RX11 190 yX3_cellAt, Cond.methodLink RX11 197 yX10_isCracked, Cond.instanceMethod yX10_isCracked, Cond.selects RX10 yX10_isCracked yX10_isCracked, Cond.code yX10_isCracked cX10_isCracked 2 (some .boolean), Cond.methodLink RX11 200 yX11_balanceNow, Cond.instanceMethod yX11_balanceNow, Cond.selects RX11 yX11_balanceNow yX11_balanceNow, Cond.code yX11_balanceNow cX11_balanceNow 2 (some .int), Cond.methodLink RX11 273 yX6_balance, Cond.instanceMethod yX6_balance, Cond.selects RX6 yX6_balance yX6_balance, Cond.code yX6_balance cX6_balance 3 none, Cond.fieldLink RX6 164 "OnePane$Plan" "tough" "I", Cond.methodLink RX6 150 yX6_hasLoads, Cond.instanceMethod yX6_hasLoads, Cond.selects RX6 yX6_hasLoads yX6_hasLoads, Cond.code yX6_hasLoads cX6_hasLoads 2 (some .boolean)]
def wsL_law_r43 : List Cond := [Cond.fieldLink RX6 167 "OnePane$Plan" "addsByHour" "Z", Cond.methodLink RX6 154 yX6_measureLoads, Cond.instanceMethod yX6_measureLoads, Cond.selects RX6 yX6_measureLoads yX6_measureLoads, Cond.code yX6_measureLoads cX6_measureLoads 6 none, Cond.fieldLink RX6 171 "OnePane$Plan" "weight" "[I", Cond.fieldLink RX6 178 "OnePane$Plan" "adds" "LOnePane$Program;", Cond.methodLink RX6 160 yX3_cells, Cond.instanceMethod yX3_cells, Cond.selects RX3 yX3_cells yX3_cells, Cond.code yX3_cells cX3_cells 1 (some .int), Cond.methodLink RX6 174 yX10_isCracked, Cond.methodLink RX6 181 yX6_loadNeighbours, Cond.instanceMethod yX6_loadNeighbours, Cond.selects RX6 yX6_loadNeighbours yX6_loadNeighbours, Cond.code yX6_loadNeighbours cX6_loadNeighbours 5 none, Cond.methodLink RX6 185 Lib.Math.min.name, Cond.methodLink RX6 188 yX6_addLoad, Cond.instanceMethod yX6_addLoad, Cond.selects RX6 yX6_addLoad yX6_addLoad, Cond.code yX6_addLoad cX6_addLoad 4 none, Cond.methodLink RX6 191 yX3_hasCell, Cond.methodLink RX6 157 yX6_measureLifted, Cond.instanceMethod yX6_measureLifted]
def wsL_law_r44 : List Cond := [Cond.selects RX6 yX6_measureLifted yX6_measureLifted, Cond.code yX6_measureLifted cX6_measureLifted 4 none, Cond.methodLink RX11 206 yX10_standing, Cond.instanceMethod yX10_standing, Cond.selects RX10 yX10_standing yX10_standing, Cond.code yX10_standing cX10_standing 4 (some .int), Cond.methodLink RX10 59 yX3_cellAt, Cond.methodLink RL 46 yX12_cell, Cond.instanceMethod yX12_cell, Cond.selects RX12 yX12_cell yX12_cell, Cond.code yX12_cell cX12_cell 5 (some .int), Cond.methodLink RX12 478 yX12_cellAt, Cond.instanceMethod yX12_cellAt, Cond.selects RX12 yX12_cellAt yX12_cellAt, Cond.code yX12_cellAt cX12_cellAt 3 (some .int), Cond.methodLink RX12 454 yX12_laysLoads, Cond.instanceMethod yX12_laysLoads, Cond.selects RX12 yX12_laysLoads yX12_laysLoads, Cond.code yX12_laysLoads cX12_laysLoads 6 none, Cond.methodLink RX12 430 yX12_cellMany, Cond.instanceMethod yX12_cellMany, Cond.selects RX12 yX12_cellMany yX12_cellMany, Cond.code yX12_cellMany cX12_cellMany 1 (some .int), Cond.methodLink RX12 433 yX12_cellOf]
def wsL_law_r45 : List Cond := [Cond.instanceMethod yX12_cellOf, Cond.selects RX12 yX12_cellOf yX12_cellOf, Cond.code yX12_cellOf cX12_cellOf 2 (some .int), Cond.methodLink RX12 436 yX12_isCracked, Cond.instanceMethod yX12_isCracked, Cond.selects RX12 yX12_isCracked yX12_isCracked, Cond.code yX12_isCracked cX12_isCracked 2 (some .boolean), Cond.methodLink RX12 439 yX12_addsOf, Cond.instanceMethod yX12_addsOf, Cond.selects RX12 yX12_addsOf yX12_addsOf, Cond.code yX12_addsOf cX12_addsOf 4 (some .int), Cond.constantLong RX12 428 (999), Cond.methodLink RX12 481 yX12_standsAt, Cond.instanceMethod yX12_standsAt, Cond.selects RX12 yX12_standsAt yX12_standsAt, Cond.code yX12_standsAt cX12_standsAt 3 (some .int), Cond.methodLink RL 47 yX11_slack, Cond.instanceMethod yX11_slack, Cond.selects RX11 yX11_slack yX11_slack, Cond.code yX11_slack cX11_slack 3 (some .long), Cond.constantLong RX11 210 (-1000000000000000), Cond.fieldLink RX11 212 "OnePane$Reckoner" "slack" "[I", Cond.methodLink RL 51 yX12_slack, Cond.instanceMethod yX12_slack]
def wsL_law_r46 : List Cond := [Cond.selects RX12 yX12_slack yX12_slack, Cond.code yX12_slack cX12_slack 4 (some .long), Cond.constantLong RX12 484 (-1000000000000000), Cond.methodLink RX12 445 yX12_slackBy, Cond.instanceMethod yX12_slackBy, Cond.selects RX12 yX12_slackBy yX12_slackBy, Cond.code yX12_slackBy cX12_slackBy 3 (some .int), Cond.methodLink RX12 442 yX12_liftBy, Cond.instanceMethod yX12_liftBy, Cond.selects RX12 yX12_liftBy yX12_liftBy, Cond.code yX12_liftBy cX12_liftBy 5 (some .int), Cond.methodLink RX12 421 yX12_liftOf, Cond.instanceMethod yX12_liftOf, Cond.selects RX12 yX12_liftOf yX12_liftOf, Cond.code yX12_liftOf cX12_liftOf 5 (some .int), Cond.methodLink RL 52 yX11_person, Cond.instanceMethod yX11_person, Cond.selects RX11 yX11_person yX11_person, Cond.code yX11_person cX11_person 3 (some .int), Cond.fieldLink RX11 215 "OnePane$Town" "column" "[I", Cond.fieldLink RX11 218 "OnePane$Town" "row" "[I", Cond.fieldLink RX11 221 "OnePane$Plan" "strength" "[I", Cond.fieldLink RX11 224 "OnePane$Town" "tired" "[I", Cond.methodLink RL 55 yX12_person]
def wsL_law_r47 : List Cond := [Cond.instanceMethod yX12_person, Cond.selects RX12 yX12_person yX12_person, Cond.code yX12_person cX12_person 3 (some .int), Cond.methodLink RL 56 yX11_lifts, Cond.instanceMethod yX11_lifts, Cond.selects RX11 yX11_lifts yX11_lifts, Cond.code yX11_lifts cX11_lifts 4 (some .int), Cond.fieldLink RX11 231 "OnePane$Reckoner" "lift" "[I", Cond.methodLink RL 59 yX12_lifts, Cond.instanceMethod yX12_lifts, Cond.selects RX12 yX12_lifts yX12_lifts, Cond.code yX12_lifts cX12_lifts 5 (some .int), Cond.methodLink RL 60 yX11_kept, Cond.instanceMethod yX11_kept, Cond.selects RX11 yX11_kept yX11_kept, Cond.code yX11_kept cX11_kept 4 (some .int), Cond.fieldLink RX11 234 "OnePane$Town" "kept" "[I", Cond.methodLink RL 63 yX12_kept, Cond.instanceMethod yX12_kept, Cond.selects RX12 yX12_kept yX12_kept, Cond.code yX12_kept cX12_kept 3 (some .int), Cond.constantLong RX12 489 (2), Cond.methodLink RL 64 yX11_later, Cond.instanceMethod yX11_later]
def wsL_law_r48 : List Cond := [Cond.selects RX11 yX11_later yX11_later, Cond.code yX11_later cX11_later 4 (some .int), Cond.methodLink RX11 237 yX11_isAhead, Cond.instanceMethod yX11_isAhead, Cond.selects RX11 yX11_isAhead yX11_isAhead, Cond.code yX11_isAhead cX11_isAhead 4 (some .boolean), Cond.methodLink RX11 265 yX3_isTold, Cond.instanceMethod yX3_isTold, Cond.selects RX3 yX3_isTold yX3_isTold, Cond.code yX3_isTold cX3_isTold 1 (some .boolean), Cond.methodLink RX11 241 yX11_lookAhead, Cond.instanceMethod yX11_lookAhead, Cond.selects RX11 yX11_lookAhead yX11_lookAhead, Cond.code yX11_lookAhead cX11_lookAhead 2 none, Cond.methodLink RX11 366 yX10_takeLife, Cond.instanceMethod yX10_takeLife, Cond.selects RX10 yX10_takeLife yX10_takeLife, Cond.code yX10_takeLife cX10_takeLife 3 none, Cond.methodLink RX11 244 yX6_passHour, Cond.instanceMethod yX6_passHour, Cond.selects RX6 yX6_passHour yX6_passHour, Cond.code yX6_passHour cX6_passHour 5 (some .long), Cond.fieldLink RX6 201 "OnePane$Plan" "stone" "I", Cond.methodLink RX6 195 yX6_holders]
def wsL_law_r49 : List Cond := [Cond.methodLink RX6 198 yX6_balance, Cond.methodLink RX6 204 yX6_cracking, Cond.instanceMethod yX6_cracking, Cond.selects RX6 yX6_cracking yX6_cracking, Cond.code yX6_cracking cX6_cracking 4 (some .long), Cond.methodLink RX6 208 yX6_tire, Cond.instanceMethod yX6_tire, Cond.selects RX6 yX6_tire yX6_tire, Cond.code yX6_tire cX6_tire 3 none, Cond.methodLink RX11 251 yX10_tiredTogether, Cond.instanceMethod yX10_tiredTogether, Cond.selects RX10 yX10_tiredTogether yX10_tiredTogether, Cond.code yX10_tiredTogether cX10_tiredTogether 4 (some .int), Cond.methodLink RL 67 yX12_later, Cond.instanceMethod yX12_later, Cond.selects RX12 yX12_later yX12_later, Cond.code yX12_later cX12_later 4 (some .int), Cond.methodLink RX12 491 yX12_isAhead, Cond.instanceMethod yX12_isAhead, Cond.selects RX12 yX12_isAhead yX12_isAhead, Cond.code yX12_isAhead cX12_isAhead 4 (some .boolean), Cond.methodLink RX12 495 yX12_putsAside, Cond.instanceMethod yX12_putsAside, Cond.selects RX12 yX12_putsAside yX12_putsAside]
def wsL_law_r50 : List Cond := [Cond.code yX12_putsAside cX12_putsAside 2 none, Cond.fieldLink RX12 448 "OnePaneModel" "isThought" "Z", Cond.fieldLink RX12 457 "OnePaneModel" "crackMany" "I", Cond.methodLink RX12 498 yX12_hoursGo, Cond.instanceMethod yX12_hoursGo, Cond.selects RX12 yX12_hoursGo yX12_hoursGo, Cond.code yX12_hoursGo cX12_hoursGo 3 none, Cond.methodLink RX12 463 yX12_hourGoes, Cond.instanceMethod yX12_hourGoes, Cond.selects RX12 yX12_hourGoes yX12_hourGoes, Cond.code yX12_hourGoes cX12_hourGoes 4 none, Cond.methodLink RX12 460 yX12_isKept, Cond.instanceMethod yX12_isKept, Cond.selects RX12 yX12_isKept yX12_isKept, Cond.code yX12_isKept cX12_isKept 3 none, Cond.methodLink RX12 501 yX12_tiredAll, Cond.instanceMethod yX12_tiredAll, Cond.selects RX12 yX12_tiredAll yX12_tiredAll, Cond.code yX12_tiredAll cX12_tiredAll 3 (some .int), Cond.methodLink RX12 504 yX12_takesBack, Cond.instanceMethod yX12_takesBack, Cond.selects RX12 yX12_takesBack yX12_takesBack, Cond.code yX12_takesBack cX12_takesBack 2 none, Cond.methodLink RL 68 yX11_next]
def wsL_law_r51 : List Cond := [Cond.instanceMethod yX11_next, Cond.selects RX11 yX11_next yX11_next, Cond.code yX11_next cX11_next 3 (some .int), Cond.methodLink RX11 254 Lib.Math.min.name, Cond.methodLink RL 71 yX12_next, Cond.instanceMethod yX12_next, Cond.selects RX12 yX12_next yX12_next, Cond.code yX12_next cX12_next 3 (some .int), Cond.methodLink RL 72 yX11_lasts, Cond.instanceMethod yX11_lasts, Cond.selects RX11 yX11_lasts yX11_lasts, Cond.code yX11_lasts cX11_lasts 3 (some .int), Cond.methodLink RX11 259 yX11_staysWhole, Cond.instanceMethod yX11_staysWhole, Cond.selects RX11 yX11_staysWhole yX11_staysWhole, Cond.code yX11_staysWhole cX11_staysWhole 4 (some .boolean), Cond.methodLink RL 75 yX12_lasts, Cond.instanceMethod yX12_lasts, Cond.selects RX12 yX12_lasts yX12_lasts, Cond.code yX12_lasts cX12_lasts 5 (some .int), Cond.methodLink RX12 507 yX12_triesAnew, Cond.instanceMethod yX12_triesAnew, Cond.selects RX12 yX12_triesAnew yX12_triesAnew, Cond.code yX12_triesAnew cX12_triesAnew 2 none]
def wsL_law_r52 : List Cond := [Cond.methodLink RL 76 yX11_free, Cond.instanceMethod yX11_free, Cond.selects RX11 yX11_free yX11_free, Cond.code yX11_free cX11_free 1 (some .int), Cond.methodLink RX11 262 yX6_freeOf, Cond.instanceMethod yX6_freeOf, Cond.selects RX6 yX6_freeOf yX6_freeOf, Cond.code yX6_freeOf cX6_freeOf 4 (some .int), Cond.methodLink RX6 211 yX6_isMissed, Cond.instanceMethod yX6_isMissed, Cond.selects RX6 yX6_isMissed yX6_isMissed, Cond.code yX6_isMissed cX6_isMissed 3 (some .boolean), Cond.methodLink RL 79 yX12_free, Cond.instanceMethod yX12_free, Cond.selects RX12 yX12_free yX12_free, Cond.code yX12_free cX12_free 5 (some .int), Cond.methodLink RX12 510 yX12_cracksBy, Cond.instanceMethod yX12_cracksBy, Cond.selects RX12 yX12_cracksBy yX12_cracksBy, Cond.code yX12_cracksBy cX12_cracksBy 4 (some .int), Cond.methodLink RL 80 yX11_needed, Cond.instanceMethod yX11_needed, Cond.selects RX11 yX11_needed yX11_needed, Cond.code yX11_needed cX11_needed 1 (some .int)]
def wsL_law_r53 : List Cond := [Cond.methodLink RX11 269 yX7_fewest, Cond.instanceMethod yX7_fewest, Cond.selects RX7 yX7_fewest yX7_fewest, Cond.code yX7_fewest cX7_fewest 5 (some .int), Cond.fieldLink RX7 57 "OnePane$Reckoner" "plan" "LOnePane$Plan;", Cond.fieldLink RX7 90 "OnePane$Reckoner" "load" "[I", Cond.fieldLink RX7 87 "OnePane$Plan" "tough" "I", Cond.fieldLink RX7 71 "OnePane$Reckoner" "town" "LOnePane$Town;", Cond.methodLink RX7 83 yX7_keepAwake, Cond.instanceMethod yX7_keepAwake, Cond.selects RX7 yX7_keepAwake yX7_keepAwake, Cond.code yX7_keepAwake cX7_keepAwake 3 none, Cond.fieldLink RX7 63 "OnePane$Plan" "people" "I", Cond.methodLink RX7 66 Lib.Math.min.name, Cond.fieldLink RX7 75 "OnePane$Town" "resting" "I", Cond.methodLink RX7 97 yX3_cells, Cond.methodLink RX7 101 yX10_isCracked, Cond.methodLink RX7 93 yX7_measureLifted, Cond.instanceMethod yX7_measureLifted, Cond.selects RX7 yX7_measureLifted yX7_measureLifted, Cond.code yX7_measureLifted cX7_measureLifted 7 none, Cond.fieldLink RX7 80 "OnePane$Reckoner" "lift" "[I", Cond.methodLink RX7 105 yJ6_bitCount_0f7a4, Cond.methodLink RL 83 yX12_needed]
def wsL_law_r54 : List Cond := [Cond.instanceMethod yX12_needed, Cond.selects RX12 yX12_needed yX12_needed, Cond.code yX12_needed cX12_needed 4 (some .int), Cond.methodLink RL 84 yX11_stand, Cond.instanceMethod yX11_stand, Cond.selects RX11 yX11_stand yX11_stand, Cond.code yX11_stand cX11_stand 4 (some .int), Cond.methodLink RX11 276 yX6_bestPlace, Cond.instanceMethod yX6_bestPlace, Cond.selects RX6 yX6_bestPlace yX6_bestPlace, Cond.code yX6_bestPlace cX6_bestPlace 8 (some .int), Cond.methodLink RX6 214 yX10_standing, Cond.methodLink RX6 218 yX6_tryPlace, Cond.instanceMethod yX6_tryPlace, Cond.selects RX6 yX6_tryPlace yX6_tryPlace, Cond.code yX6_tryPlace cX6_tryPlace 9 none, Cond.constant RX6 224 (1000000), Cond.methodLink RX6 225 Lib.Math.abs.name, Cond.static yX11_packed, Cond.code yX11_packed cX11_packed 2 (some .int), Cond.methodLink RX11 279 yX11_tellFound, Cond.instanceMethod yX11_tellFound, Cond.selects RX11 yX11_tellFound yX11_tellFound, Cond.code yX11_tellFound cX11_tellFound 3 (some .int)]
def wsL_law_r55 : List Cond := [Cond.methodLink RL 87 yX12_stand, Cond.instanceMethod yX12_stand, Cond.selects RX12 yX12_stand yX12_stand, Cond.code yX12_stand cX12_stand 10 (some .int), Cond.fieldLink RX12 513 "OnePaneModel" "standCracks" "I", Cond.fieldLink RX12 516 "OnePaneModel" "standSlack" "I", Cond.methodLink RX12 519 yX12_standsTry, Cond.instanceMethod yX12_standsTry, Cond.selects RX12 yX12_standsTry yX12_standsTry, Cond.code yX12_standsTry cX12_standsTry 8 none, Cond.methodLink RL 88 yX11_weak, Cond.instanceMethod yX11_weak, Cond.selects RX11 yX11_weak yX11_weak, Cond.code yX11_weak cX11_weak 2 (some .int), Cond.methodLink RX11 282 yX6_weakest, Cond.instanceMethod yX6_weakest, Cond.selects RX6 yX6_weakest yX6_weakest, Cond.code yX6_weakest cX6_weakest 3 (some .int), Cond.methodLink RL 91 yX12_weak, Cond.instanceMethod yX12_weak, Cond.selects RX12 yX12_weak yX12_weak, Cond.code yX12_weak cX12_weak 6 (some .int), Cond.methodLink RL 92 yX11_mends, Cond.instanceMethod yX11_mends]
def wsL_law_r56 : List Cond := [Cond.selects RX11 yX11_mends yX11_mends, Cond.code yX11_mends cX11_mends 6 (some .int), Cond.methodLink RX11 285 yX3_cells, Cond.methodLink RX11 288 yX11_crackedWithMended, Cond.instanceMethod yX11_crackedWithMended, Cond.selects RX11 yX11_crackedWithMended yX11_crackedWithMended, Cond.code yX11_crackedWithMended cX11_crackedWithMended 4 (some .int), Cond.constantLong RX11 375 (-1), Cond.methodLink RX11 291 yX11_packed, Cond.methodLink RL 95 yX12_mends, Cond.instanceMethod yX12_mends, Cond.selects RX12 yX12_mends yX12_mends, Cond.code yX12_mends cX12_mends 8 (some .int), Cond.methodLink RL 96 yX11_sound, Cond.instanceMethod yX11_sound, Cond.selects RX11 yX11_sound yX11_sound, Cond.code yX11_sound cX11_sound 2 (some .int), Cond.methodLink RX11 294 yX7_takeSounds, Cond.instanceMethod yX7_takeSounds, Cond.selects RX7 yX7_takeSounds yX7_takeSounds, Cond.code yX7_takeSounds cX7_takeSounds 6 (some .boolean), Cond.fieldLink RX7 35 "OnePane$Tape" "length" "I", Cond.methodLink RX7 40 yX9_byteAt, Cond.methodLink RX7 44 yX3_hasCell]
def wsL_law_r57 : List Cond := [Cond.methodLink RX7 50 yX3_cellAt, Cond.methodLink RX7 54 yX9_pairAt, Cond.instanceMethod yX9_pairAt, Cond.selects RX9 yX9_pairAt yX9_pairAt, Cond.code yX9_pairAt cX9_pairAt 2 (some .int), Cond.methodLink RX9 23 yX9_byteAt, Cond.methodLink RL 99 yX12_sound, Cond.instanceMethod yX12_sound, Cond.selects RX12 yX12_sound yX12_sound, Cond.code yX12_sound cX12_sound 4 (some .int), Cond.methodLink RX12 523 yX12_refuses, Cond.instanceMethod yX12_refuses, Cond.selects RX12 yX12_refuses yX12_refuses, Cond.code yX12_refuses cX12_refuses 2 (some .int), Cond.methodLink RL 100 yX11_who, Cond.instanceMethod yX11_who, Cond.selects RX11 yX11_who yX11_who, Cond.code yX11_who cX11_who 2 (some .int), Cond.methodLink RX11 298 yX7_keepSounded, Cond.instanceMethod yX7_keepSounded, Cond.selects RX7 yX7_keepSounded yX7_keepSounded, Cond.code yX7_keepSounded cX7_keepSounded 6 none, Cond.methodLink RX11 302 yX7_howMany, Cond.instanceMethod yX7_howMany]
def wsL_law_r58 : List Cond := [Cond.selects RX7 yX7_howMany yX7_howMany, Cond.code yX7_howMany cX7_howMany 3 (some .int), Cond.methodLink RX11 305 yX7_inAll, Cond.instanceMethod yX7_inAll, Cond.selects RX7 yX7_inAll yX7_inAll, Cond.code yX7_inAll cX7_inAll 3 (some .int), Cond.methodLink RX11 308 yX7_inSome, Cond.instanceMethod yX7_inSome, Cond.selects RX7 yX7_inSome yX7_inSome, Cond.code yX7_inSome cX7_inSome 3 (some .int), Cond.methodLink RL 103 yX12_who, Cond.instanceMethod yX12_who, Cond.selects RX12 yX12_who yX12_who, Cond.code yX12_who cX12_who 5 (some .int), Cond.fieldLink RX12 526 "OnePaneModel" "setMany" "I", Cond.methodLink RX12 532 yX12_laysSets, Cond.instanceMethod yX12_laysSets, Cond.selects RX12 yX12_laysSets yX12_laysSets, Cond.code yX12_laysSets cX12_laysSets 3 none, Cond.methodLink RX12 529 yX12_isAsHeard, Cond.instanceMethod yX12_isAsHeard, Cond.selects RX12 yX12_isAsHeard yX12_isAsHeard, Cond.code yX12_isAsHeard cX12_isAsHeard 3 (some .boolean), Cond.methodLink RL 104 yX11_knock]
def wsL_law_r59 : List Cond := [Cond.instanceMethod yX11_knock, Cond.selects RX11 yX11_knock yX11_knock, Cond.code yX11_knock cX11_knock 2 (some .int), Cond.methodLink RX11 311 yX7_bestKnock, Cond.instanceMethod yX7_bestKnock, Cond.selects RX7 yX7_bestKnock yX7_bestKnock, Cond.code yX7_bestKnock cX7_bestKnock 5 (some .int), Cond.methodLink RX7 110 yX7_howMany, Cond.methodLink RX7 113 yX7_mostAlike, Cond.instanceMethod yX7_mostAlike, Cond.selects RX7 yX7_mostAlike yX7_mostAlike, Cond.code yX7_mostAlike cX7_mostAlike 6 (some .int), Cond.methodLink RX7 120 Lib.Math.max.name, Cond.methodLink RL 107 yX12_knock, Cond.instanceMethod yX12_knock, Cond.selects RX12 yX12_knock yX12_knock, Cond.code yX12_knock cX12_knock 7 (some .int), Cond.methodLink RX12 535 yX12_mostAlike, Cond.instanceMethod yX12_mostAlike, Cond.selects RX12 yX12_mostAlike yX12_mostAlike, Cond.code yX12_mostAlike cX12_mostAlike 5 (some .int), Cond.methodLink RL 108 yX11_rest, Cond.instanceMethod yX11_rest, Cond.selects RX11 yX11_rest yX11_rest]
def wsL_law_r60 : List Cond := [Cond.code yX11_rest cX11_rest 3 (some .boolean), Cond.methodLink RX11 314 yX2_push, Cond.instanceMethod yX2_push, Cond.selects RX2 yX2_push yX2_push, Cond.code yX2_push cX2_push 2 none, Cond.methodLink RX2 29 Lib.Math.min.name, Cond.methodLink RX2 25 yX10_takeAll, Cond.instanceMethod yX10_takeAll, Cond.selects RX10 yX10_takeAll yX10_takeAll, Cond.code yX10_takeAll cX10_takeAll 2 none, Cond.methodLink RX10 53 arraycopyName, Cond.native arraycopyName, Cond.static arraycopyName, Cond.initialized "java/lang/System", Cond.methodLink RX10 49 yX10_takeLife, Cond.methodLink RL 112 yX12_rest, Cond.instanceMethod yX12_rest, Cond.selects RX12 yX12_rest yX12_rest, Cond.code yX12_rest cX12_rest 3 (some .boolean), Cond.methodLink RX12 541 yX12_isRefused, Cond.instanceMethod yX12_isRefused, Cond.selects RX12 yX12_isRefused yX12_isRefused, Cond.code yX12_isRefused cX12_isRefused 1 (some .boolean), Cond.methodLink RX12 544 yX12_keeps]
def wsL_law_r61 : List Cond := [Cond.instanceMethod yX12_keeps, Cond.selects RX12 yX12_keeps yX12_keeps, Cond.code yX12_keeps cX12_keeps 2 none, Cond.fieldLink RX12 538 "OnePaneModel" "newest" "I", Cond.methodLink RL 113 yX11_go, Cond.instanceMethod yX11_go, Cond.selects RX11 yX11_go yX11_go, Cond.code yX11_go cX11_go 4 (some .boolean), Cond.methodLink RL 117 yX12_go, Cond.instanceMethod yX12_go, Cond.selects RX12 yX12_go yX12_go, Cond.code yX12_go cX12_go 5 (some .boolean), Cond.methodLink RL 118 yX11_mend, Cond.instanceMethod yX11_mend, Cond.selects RX11 yX11_mend yX11_mend, Cond.code yX11_mend cX11_mend 3 (some .boolean), Cond.methodLink RL 121 yX12_mend, Cond.instanceMethod yX12_mend, Cond.selects RX12 yX12_mend yX12_mend, Cond.code yX12_mend cX12_mend 4 (some .boolean), Cond.methodLink RL 122 yX11_hours, Cond.instanceMethod yX11_hours, Cond.selects RX11 yX11_hours yX11_hours, Cond.code yX11_hours cX11_hours 7 (some .int)]
def wsL_law_r62 : List Cond := [Cond.methodLink RX11 318 yX10_keep, Cond.instanceMethod yX10_keep, Cond.selects RX10 yX10_keep yX10_keep, Cond.code yX10_keep cX10_keep 7 none, Cond.fieldLink RX10 69 "OnePane$Plan" "rows" "I", Cond.fieldLink RX10 72 "OnePane$Plan" "columns" "I", Cond.methodLink RX10 75 yX10_keepOne, Cond.instanceMethod yX10_keepOne, Cond.selects RX10 yX10_keepOne yX10_keepOne, Cond.code yX10_keepOne cX10_keepOne 2 none, Cond.methodLink RL 125 yX12_hours, Cond.instanceMethod yX12_hours, Cond.selects RX12 yX12_hours yX12_hours, Cond.code yX12_hours cX12_hours 2 (some .int), Cond.methodLink RL 126 yX11_chance, Cond.instanceMethod yX11_chance, Cond.selects RX11 yX11_chance yX11_chance, Cond.code yX11_chance cX11_chance 6 (some .int), Cond.fieldLink RX11 325 "OnePane$Plan" "hail" "I", Cond.methodLink RX11 322 yX11_draw, Cond.instanceMethod yX11_draw, Cond.selects RX11 yX11_draw yX11_draw, Cond.code yX11_draw cX11_draw 2 (some .int), Cond.constantLong RX11 377 (1103515245)]
def wsL_law_r63 : List Cond := [Cond.constantLong RX11 379 (12345), Cond.constantLong RX11 381 (2147483647), Cond.methodLink RL 129 yX12_chance, Cond.instanceMethod yX12_chance, Cond.selects RX12 yX12_chance yX12_chance, Cond.code yX12_chance cX12_chance 4 (some .int), Cond.methodLink RX12 555 yX12_drawOf, Cond.instanceMethod yX12_drawOf, Cond.selects RX12 yX12_drawOf yX12_drawOf, Cond.code yX12_drawOf cX12_drawOf 2 (some .int), Cond.constantLong RX12 547 (1103515245), Cond.constantLong RX12 549 (12345), Cond.constantLong RX12 551 (2147483648), Cond.constantLong RX12 553 (64), Cond.methodLink RL 130 yX11_undo, Cond.instanceMethod yX11_undo, Cond.selects RX11 yX11_undo yX11_undo, Cond.code yX11_undo cX11_undo 1 (some .boolean), Cond.methodLink RX11 328 yX2_pop, Cond.instanceMethod yX2_pop, Cond.selects RX2 yX2_pop yX2_pop, Cond.code yX2_pop cX2_pop 2 (some .boolean), Cond.methodLink RL 134 yX12_undo, Cond.instanceMethod yX12_undo]
def wsL_law_r64 : List Cond := [Cond.selects RX12 yX12_undo yX12_undo, Cond.code yX12_undo cX12_undo 2 (some .boolean), Cond.methodLink RL 135 yX11_seed, Cond.instanceMethod yX11_seed, Cond.selects RX11 yX11_seed yX11_seed, Cond.code yX11_seed cX11_seed 2 (some .boolean), Cond.methodLink RL 138 yX12_seed, Cond.instanceMethod yX12_seed, Cond.selects RX12 yX12_seed yX12_seed, Cond.code yX12_seed cX12_seed 2 (some .boolean), Cond.methodLink RL 139 yX11_ask, Cond.instanceMethod yX11_ask, Cond.selects RX11 yX11_ask yX11_ask, Cond.code yX11_ask cX11_ask 3 (some .long), Cond.methodLink RX11 332 yX1_readQuestion, Cond.instanceMethod yX1_readQuestion, Cond.selects RX1 yX1_readQuestion yX1_readQuestion, Cond.code yX1_readQuestion cX1_readQuestion 4 (some .int), Cond.methodLink RX1 35 yX5_open, Cond.methodLink RX1 48 yX1_readTest, Cond.methodLink RX1 52 yX1_readSum, Cond.methodLink RX1 62 yX5_hasMore, Cond.methodLink RX11 336 yX11_firstFor, Cond.instanceMethod yX11_firstFor]
def wsL_law_r65 : List Cond := [Cond.selects RX11 yX11_firstFor yX11_firstFor, Cond.code yX11_firstFor cX11_firstFor 3 (some .int), Cond.methodLink RX11 397 yX11_answerOf, Cond.instanceMethod yX11_answerOf, Cond.selects RX11 yX11_answerOf yX11_answerOf, Cond.code yX11_answerOf cX11_answerOf 3 (some .int), Cond.fieldLink RX11 387 "OnePane$Reckoner" "abacus" "LOnePane$Abacus;", Cond.methodLink RX11 383 yX6_showAsked, Cond.instanceMethod yX6_showAsked, Cond.selects RX6 yX6_showAsked yX6_showAsked, Cond.code yX6_showAsked cX6_showAsked 4 none, Cond.fieldLink RX6 132 "OnePane$Abacus" "people" "I", Cond.fieldLink RX6 133 "OnePane$Abacus" "far" "[I", Cond.methodLink RX11 391 yX0_run, Cond.methodLink RX11 339 yX11_lastFor, Cond.instanceMethod yX11_lastFor, Cond.selects RX11 yX11_lastFor yX11_lastFor, Cond.code yX11_lastFor cX11_lastFor 3 (some .int), Cond.methodLink RX11 342 yX11_howOften, Cond.instanceMethod yX11_howOften, Cond.selects RX11 yX11_howOften yX11_howOften, Cond.code yX11_howOften cX11_howOften 4 (some .int), Cond.methodLink RX11 345 yX11_total, Cond.instanceMethod yX11_total]
def wsL_law_r66 : List Cond := [Cond.selects RX11 yX11_total yX11_total, Cond.code yX11_total cX11_total 5 (some .long), Cond.methodLink RX11 348 yX11_most, Cond.instanceMethod yX11_most, Cond.selects RX11 yX11_most yX11_most, Cond.code yX11_most cX11_most 5 (some .int), Cond.methodLink RX11 400 Lib.Math.max.name, Cond.methodLink RX11 351 yX11_least, Cond.instanceMethod yX11_least, Cond.selects RX11 yX11_least yX11_least, Cond.code yX11_least cX11_least 5 (some .int), Cond.methodLink RL 143 yX12_ask, Cond.instanceMethod yX12_ask, Cond.selects RX12 yX12_ask yX12_ask, Cond.code yX12_ask cX12_ask 3 (some .long), Cond.constantLong RX12 637 (-1), Cond.fieldLink RX12 634 "OnePaneModel" "qAnswer" "J", Cond.fieldLink RX12 639 "OnePaneModel" "qIsNew" "Z", Cond.methodLink RX12 642 yX12_qKind, Cond.instanceMethod yX12_qKind, Cond.selects RX12 yX12_qKind yX12_qKind, Cond.code yX12_qKind cX12_qKind 2 (some .int), Cond.methodLink RX12 645 yX12_qTold, Cond.instanceMethod yX12_qTold]
def wsL_law_r67 : List Cond := [Cond.selects RX12 yX12_qTold yX12_qTold, Cond.code yX12_qTold cX12_qTold 4 (some .long), Cond.methodLink RX12 630 yX12_qOf, Cond.instanceMethod yX12_qOf, Cond.selects RX12 yX12_qOf yX12_qOf, Cond.code yX12_qOf cX12_qOf 5 (some .long), Cond.methodLink RX12 649 yX12_qTakes, Cond.instanceMethod yX12_qTakes, Cond.selects RX12 yX12_qTakes yX12_qTakes, Cond.code yX12_qTakes cX12_qTakes 6 none, Cond.methodLink RL 144 yX11_image, Cond.instanceMethod yX11_image, Cond.selects RX11 yX11_image yX11_image, Cond.code yX11_image cX11_image 2 (some .int), Cond.methodLink RX11 354 yX9_addByte, Cond.methodLink RX11 357 yX9_checkOf, Cond.instanceMethod yX9_checkOf, Cond.selects RX9 yX9_checkOf yX9_checkOf, Cond.code yX9_checkOf cX9_checkOf 4 (some .int), Cond.methodLink RL 147 yX12_image, Cond.instanceMethod yX12_image, Cond.selects RX12 yX12_image yX12_image, Cond.code yX12_image cX12_image 2 (some .int), Cond.fieldLink RX12 653 "OnePaneModel" "octets" "I"]
def wsL_law_r68 : List Cond := [Cond.methodLink RX12 656 yX12_writes, Cond.instanceMethod yX12_writes, Cond.selects RX12 yX12_writes yX12_writes, Cond.code yX12_writes cX12_writes 2 none, Cond.methodLink RX12 659 yX12_checked, Cond.static yX12_checked, Cond.code yX12_checked cX12_checked 4 (some .int), Cond.methodLink RL 148 yX11_octet, Cond.instanceMethod yX11_octet, Cond.selects RX11 yX11_octet yX11_octet, Cond.code yX11_octet cX11_octet 2 (some .int), Cond.methodLink RX11 360 yX9_byteAt, Cond.methodLink RL 151 yX12_octet, Cond.instanceMethod yX12_octet, Cond.selects RX12 yX12_octet yX12_octet, Cond.code yX12_octet cX12_octet 2 (some .int), Cond.methodLink RL 152 yX11_on, Cond.instanceMethod yX11_on, Cond.selects RX11 yX11_on yX11_on, Cond.code yX11_on cX11_on 2 (some .boolean), Cond.methodLink RX11 363 yX10_readImage, Cond.instanceMethod yX10_readImage, Cond.selects RX10 yX10_readImage yX10_readImage, Cond.code yX10_readImage cX10_readImage 8 (some .boolean)]
def wsL_law_r69 : List Cond := [Cond.fieldLink RX10 83 "OnePane$Tape" "length" "I", Cond.methodLink RX10 79 yX3_cells, Cond.methodLink RX10 88 yX9_byteAt, Cond.methodLink RX10 91 yX9_checkOf, Cond.methodLink RX10 94 yX9_pairAt, Cond.methodLink RX10 97 yX10_readPerson, Cond.instanceMethod yX10_readPerson, Cond.selects RX10 yX10_readPerson yX10_readPerson, Cond.code yX10_readPerson cX10_readPerson 7 (some .boolean), Cond.methodLink RX10 101 yX10_between, Cond.methodLink RX10 105 yX3_hasCell, Cond.methodLink RL 155 yX12_on, Cond.instanceMethod yX12_on, Cond.selects RX12 yX12_on yX12_on, Cond.code yX12_on cX12_on 5 (some .boolean), Cond.methodLink RX12 667 yX12_isImage, Cond.instanceMethod yX12_isImage, Cond.selects RX12 yX12_isImage yX12_isImage, Cond.code yX12_isImage cX12_isImage 4 (some .boolean), Cond.methodLink RX12 663 yX12_isPersonTold, Cond.instanceMethod yX12_isPersonTold, Cond.selects RX12 yX12_isPersonTold yX12_isPersonTold, Cond.code yX12_isPersonTold cX12_isPersonTold 5 (some .boolean), Cond.methodLink RL 156 yX11_status]
def wsL_law_r70 : List Cond := [Cond.instanceMethod yX11_status, Cond.selects RX11 yX11_status yX11_status, Cond.code yX11_status cX11_status 2 (some .int), Cond.methodLink RL 159 yX12_status, Cond.instanceMethod yX12_status, Cond.selects RX12 yX12_status yX12_status, Cond.code yX12_status cX12_status 2 (some .int)]
def wsL_law : List Cond := (wsL_law_r1 ++ (wsL_law_r2 ++ (wsL_law_r3 ++ (wsL_law_r4 ++ (wsL_law_r5 ++ (wsL_law_r6 ++ (wsL_law_r7 ++ (wsL_law_r8 ++ (wsL_law_r9 ++ (wsL_law_r10 ++ (wsL_law_r11 ++ (wsL_law_r12 ++ (wsL_law_r13 ++ (wsL_law_r14 ++ (wsL_law_r15 ++ (wsL_law_r16 ++ (wsL_law_r17 ++ (wsL_law_r18 ++ (wsL_law_r19 ++ (wsL_law_r20 ++ (wsL_law_r21 ++ (wsL_law_r22 ++ (wsL_law_r23 ++ (wsL_law_r24 ++ (wsL_law_r25 ++ (wsL_law_r26 ++ (wsL_law_r27 ++ (wsL_law_r28 ++ (wsL_law_r29 ++ (wsL_law_r30 ++ (wsL_law_r31 ++ (wsL_law_r32 ++ (wsL_law_r33 ++ (wsL_law_r34 ++ (wsL_law_r35 ++ (wsL_law_r36 ++ (wsL_law_r37 ++ (wsL_law_r38 ++ (wsL_law_r39 ++ (wsL_law_r40 ++ (wsL_law_r41 ++ (wsL_law_r42 ++ (wsL_law_r43 ++ (wsL_law_r44 ++ (wsL_law_r45 ++ (wsL_law_r46 ++ (wsL_law_r47 ++ (wsL_law_r48 ++ (wsL_law_r49 ++ (wsL_law_r50 ++ (wsL_law_r51 ++ (wsL_law_r52 ++ (wsL_law_r53 ++ (wsL_law_r54 ++ (wsL_law_r55 ++ (wsL_law_r56 ++ (wsL_law_r57 ++ (wsL_law_r58 ++ (wsL_law_r59 ++ (wsL_law_r60 ++ (wsL_law_r61 ++ (wsL_law_r62 ++ (wsL_law_r63 ++ (wsL_law_r64 ++ (wsL_law_r65 ++ (wsL_law_r66 ++ (wsL_law_r67 ++ (wsL_law_r68 ++ (wsL_law_r69 ++ wsL_law_r70))))))))))))))))))))))))))))))))))))))))))))))))))))))))))))))))))))) ++ wsX110 ++ wsX120 ++ wsX90 ++ wsX40 ++ wsX30 ++ wsX50 ++ wsX10 ++ wsX80 ++ wsX100 ++ wsX20 ++ wsX70 ++ wsX60 ++ wsX00 ++ ([] : List Cond)
