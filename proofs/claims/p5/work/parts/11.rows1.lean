theorem zI_b8 {x : Int} (h : -128 ≤ x) (h' : x ≤ 127) : (Int8.ofInt x).toInt32 = zI x := by
  rw [← Int32.toInt_inj, Int8.toInt_toInt32, Int8.toInt_ofInt, zI_t (by omega) (by omega)]
  show Int.bmod x 256 = x
  exact Int.bmod_eq_of_le (by omega) (by omega)
theorem zI_s16 {x : Int} (h : -32768 ≤ x) (h' : x ≤ 32767) : (Int16.ofInt x).toInt32 = zI x := by
  rw [← Int32.toInt_inj, Int16.toInt_toInt32, Int16.toInt_ofInt, zI_t (by omega) (by omega)]
  show Int.bmod x 65536 = x
  exact Int.bmod_eq_of_le (by omega) (by omega)
theorem zJ_i {x : Int} (h : -2147483648 ≤ x) (h' : x ≤ 2147483647) : (zI x).toInt64 = zJ x := by
  rw [← Int64.toInt_inj, Int32.toInt_toInt64, zI_t h h', zJ_t (by omega) (by omega)]
theorem zI_j (x : Int) : (zJ x).toInt32 = zI x := by
  unfold zJ zI
  exact Int64.toInt32_ofInt
theorem zt_iconst {X : zCX} {cc : ByteArray} {own : String} {d n cs ss pc pc' : Nat} {σ : zSto} {lv : List (Option Value)} {st : List Value} {x : Int} (hX : zok X cc own d) (hd : decode cc pc = .ok (.iconst x, 1)) (hp : pc + 1 = pc')  (k : zZ X n cs ss σ pc' lv (.int (zI x) :: st)) : zZ X n cs ss σ pc lv (st) := by
  subst hp
  obtain ⟨E, p, l, e, R, s, m, args, below, meth, c, Q, nL⟩ := X
  obtain ⟨hx, hb, -⟩ := hX
  intro H locs ls hG hS hl
  exact lv_iconst hx hb hd rfl (k H locs ls hG hS hl)
theorem zt_bipush {X : zCX} {cc : ByteArray} {own : String} {d n cs ss pc pc' : Nat} {σ : zSto} {lv : List (Option Value)} {st : List Value} {x : Int} (hX : zok X cc own d) (hd : decode cc pc = .ok (.bipush x, 2)) (hp : pc + 2 = pc') (h : -128 ≤ x) (h' : x ≤ 127) (k : zZ X n cs ss σ pc' lv (.int (zI x) :: st)) : zZ X n cs ss σ pc lv (st) := by
  subst hp
  obtain ⟨E, p, l, e, R, s, m, args, below, meth, c, Q, nL⟩ := X
  obtain ⟨hx, hb, -⟩ := hX
  intro H locs ls hG hS hl
  exact lv_bipush hx hb hd (zI_b8 h h') (k H locs ls hG hS hl)
theorem zt_sipush {X : zCX} {cc : ByteArray} {own : String} {d n cs ss pc pc' : Nat} {σ : zSto} {lv : List (Option Value)} {st : List Value} {x : Int} (hX : zok X cc own d) (hd : decode cc pc = .ok (.sipush x, 3)) (hp : pc + 3 = pc') (h : -32768 ≤ x) (h' : x ≤ 32767) (k : zZ X n cs ss σ pc' lv (.int (zI x) :: st)) : zZ X n cs ss σ pc lv (st) := by
  subst hp
  obtain ⟨E, p, l, e, R, s, m, args, below, meth, c, Q, nL⟩ := X
  obtain ⟨hx, hb, -⟩ := hX
  intro H locs ls hG hS hl
  exact lv_sipush hx hb hd (zI_s16 h h') (k H locs ls hG hS hl)
theorem zt_lconst {X : zCX} {cc : ByteArray} {own : String} {d n cs ss pc pc' : Nat} {σ : zSto} {lv : List (Option Value)} {st : List Value} {x : Fin 2} (hX : zok X cc own d) (hd : decode cc pc = .ok (.lconst x, 1)) (hp : pc + 1 = pc') {y : Int} (hv : Int64.ofNat (x : Nat) = zJ y) (k : zZ X n cs ss σ pc' lv (.long (zJ y) :: st)) : zZ X n cs ss σ pc lv (st) := by
  subst hp
  obtain ⟨E, p, l, e, R, s, m, args, below, meth, c, Q, nL⟩ := X
  obtain ⟨hx, hb, -⟩ := hX
  intro H locs ls hG hS hl
  exact lv_lconst hx hb hd hv (k H locs ls hG hS hl)
theorem zt_iload {X : zCX} {cc : ByteArray} {own : String} {d n cs ss pc pc' : Nat} {σ : zSto} {lv : List (Option Value)} {st : List Value} {i : Nat} {x : Int} (hX : zok X cc own d) (hd : decode cc pc = .ok (.iload i, 2)) (hp : pc + 2 = pc') (hg : lv[i]? = some (some (.int (zI x)))) (k : zZ X n cs ss σ pc' lv (.int (zI x) :: st)) : zZ X n cs ss σ pc lv (st) := by
  subst hp
  obtain ⟨E, p, l, e, R, s, m, args, below, meth, c, Q, nL⟩ := X
  obtain ⟨hx, hb, -⟩ := hX
  intro H locs ls hG hS hl
  exact lv_iload hx hb hd (hl.2.2 _ _ hg) (k H locs ls hG hS hl)
theorem zt_iload_n {X : zCX} {cc : ByteArray} {own : String} {d n cs ss pc pc' : Nat} {σ : zSto} {lv : List (Option Value)} {st : List Value} {i : Fin 4} {x : Int} (hX : zok X cc own d) (hd : decode cc pc = .ok (.iload_n i, 1)) (hp : pc + 1 = pc') (hg : lv[(i : Nat)]? = some (some (.int (zI x)))) (k : zZ X n cs ss σ pc' lv (.int (zI x) :: st)) : zZ X n cs ss σ pc lv (st) := by
  subst hp
  obtain ⟨E, p, l, e, R, s, m, args, below, meth, c, Q, nL⟩ := X
  obtain ⟨hx, hb, -⟩ := hX
  intro H locs ls hG hS hl
  exact lv_iload_n hx hb hd rfl (hl.2.2 _ _ hg) (k H locs ls hG hS hl)
theorem zt_istore {X : zCX} {cc : ByteArray} {own : String} {d n cs ss pc pc' : Nat} {σ : zSto} {lv : List (Option Value)} {st : List Value} {i : Nat} {x : Int} {lv' : List (Option Value)} (hX : zok X cc own d) (hd : decode cc pc = .ok (.istore i, 2)) (hp : pc + 2 = pc') {mL : Nat} (hL : X.2.2.2.2.2.2.2.2.2.2.2.2 = mL) (hn : i < mL) (he : zst1 lv i (.int (zI x)) = lv') (k : zZ X n cs ss σ pc' lv' (st)) : zZ X n cs ss σ pc lv (.int (zI x) :: st) := by
  subst hp
  obtain ⟨E, p, l, e, R, s, m, args, below, meth, c, Q, nL⟩ := X
  obtain ⟨hx, hb, -⟩ := hX
  intro H locs ls hG hS hl
  subst he
  exact lv_istore hx hb hd (zlv_has hl) (Nat.lt_of_lt_of_eq hn hL.symm) rfl (fun ls2 h2 => k H locs ls2 hG hS (zst1_ok h2))
theorem zt_istore_n {X : zCX} {cc : ByteArray} {own : String} {d n cs ss pc pc' : Nat} {σ : zSto} {lv : List (Option Value)} {st : List Value} {i : Fin 4} {x : Int} {lv' : List (Option Value)} (hX : zok X cc own d) (hd : decode cc pc = .ok (.istore_n i, 1)) (hp : pc + 1 = pc') {mL : Nat} (hL : X.2.2.2.2.2.2.2.2.2.2.2.2 = mL) (hn : (i : Nat) < mL) (he : zst1 lv (i : Nat) (.int (zI x)) = lv') (k : zZ X n cs ss σ pc' lv' (st)) : zZ X n cs ss σ pc lv (.int (zI x) :: st) := by
  subst hp
  obtain ⟨E, p, l, e, R, s, m, args, below, meth, c, Q, nL⟩ := X
  obtain ⟨hx, hb, -⟩ := hX
  intro H locs ls hG hS hl
  subst he
  exact lv_istore_n hx hb hd rfl (zlv_has hl) (Nat.lt_of_lt_of_eq hn hL.symm) rfl (fun ls2 h2 => k H locs ls2 hG hS (zst1_ok h2))
theorem zt_aload {X : zCX} {cc : ByteArray} {own : String} {d n cs ss pc pc' : Nat} {σ : zSto} {lv : List (Option Value)} {st : List Value} {i : Nat} {x : Nat} (hX : zok X cc own d) (hd : decode cc pc = .ok (.aload i, 2)) (hp : pc + 2 = pc') (hg : lv[i]? = some (some (.ref x))) (k : zZ X n cs ss σ pc' lv (.ref x :: st)) : zZ X n cs ss σ pc lv (st) := by
  subst hp
  obtain ⟨E, p, l, e, R, s, m, args, below, meth, c, Q, nL⟩ := X
  obtain ⟨hx, hb, -⟩ := hX
  intro H locs ls hG hS hl
  exact lv_aload hx hb hd (hl.2.2 _ _ hg) (k H locs ls hG hS hl)
theorem zt_aload_n {X : zCX} {cc : ByteArray} {own : String} {d n cs ss pc pc' : Nat} {σ : zSto} {lv : List (Option Value)} {st : List Value} {i : Fin 4} {x : Nat} (hX : zok X cc own d) (hd : decode cc pc = .ok (.aload_n i, 1)) (hp : pc + 1 = pc') (hg : lv[(i : Nat)]? = some (some (.ref x))) (k : zZ X n cs ss σ pc' lv (.ref x :: st)) : zZ X n cs ss σ pc lv (st) := by
  subst hp
  obtain ⟨E, p, l, e, R, s, m, args, below, meth, c, Q, nL⟩ := X
  obtain ⟨hx, hb, -⟩ := hX
  intro H locs ls hG hS hl
  exact lv_aload_n hx hb hd rfl (hl.2.2 _ _ hg) (k H locs ls hG hS hl)
theorem zt_astore {X : zCX} {cc : ByteArray} {own : String} {d n cs ss pc pc' : Nat} {σ : zSto} {lv : List (Option Value)} {st : List Value} {i : Nat} {x : Nat} {lv' : List (Option Value)} (hX : zok X cc own d) (hd : decode cc pc = .ok (.astore i, 2)) (hp : pc + 2 = pc') {mL : Nat} (hL : X.2.2.2.2.2.2.2.2.2.2.2.2 = mL) (hn : i < mL) (he : zst1 lv i (.ref x) = lv') (k : zZ X n cs ss σ pc' lv' (st)) : zZ X n cs ss σ pc lv (.ref x :: st) := by
  subst hp
  obtain ⟨E, p, l, e, R, s, m, args, below, meth, c, Q, nL⟩ := X
  obtain ⟨hx, hb, -⟩ := hX
  intro H locs ls hG hS hl
  subst he
  exact lv_astore hx hb hd (zlv_has hl) (Nat.lt_of_lt_of_eq hn hL.symm) rfl (fun ls2 h2 => k H locs ls2 hG hS (zst1_ok h2))
theorem zt_astore_n {X : zCX} {cc : ByteArray} {own : String} {d n cs ss pc pc' : Nat} {σ : zSto} {lv : List (Option Value)} {st : List Value} {i : Fin 4} {x : Nat} {lv' : List (Option Value)} (hX : zok X cc own d) (hd : decode cc pc = .ok (.astore_n i, 1)) (hp : pc + 1 = pc') {mL : Nat} (hL : X.2.2.2.2.2.2.2.2.2.2.2.2 = mL) (hn : (i : Nat) < mL) (he : zst1 lv (i : Nat) (.ref x) = lv') (k : zZ X n cs ss σ pc' lv' (st)) : zZ X n cs ss σ pc lv (.ref x :: st) := by
  subst hp
  obtain ⟨E, p, l, e, R, s, m, args, below, meth, c, Q, nL⟩ := X
  obtain ⟨hx, hb, -⟩ := hX
  intro H locs ls hG hS hl
  subst he
  exact lv_astore_n hx hb hd rfl (zlv_has hl) (Nat.lt_of_lt_of_eq hn hL.symm) rfl (fun ls2 h2 => k H locs ls2 hG hS (zst1_ok h2))
theorem zt_lload {X : zCX} {cc : ByteArray} {own : String} {d n cs ss pc pc' : Nat} {σ : zSto} {lv : List (Option Value)} {st : List Value} {i : Nat} {x : Int} (hX : zok X cc own d) (hd : decode cc pc = .ok (.lload i, 2)) (hp : pc + 2 = pc') (hg : lv[i]? = some (some (.long (zJ x)))) (k : zZ X n cs ss σ pc' lv (.long (zJ x) :: st)) : zZ X n cs ss σ pc lv (st) := by
  subst hp
  obtain ⟨E, p, l, e, R, s, m, args, below, meth, c, Q, nL⟩ := X
  obtain ⟨hx, hb, -⟩ := hX
  intro H locs ls hG hS hl
  exact lv_lload hx hb hd (hl.2.2 _ _ hg) (k H locs ls hG hS hl)
theorem zt_lload_n {X : zCX} {cc : ByteArray} {own : String} {d n cs ss pc pc' : Nat} {σ : zSto} {lv : List (Option Value)} {st : List Value} {i : Fin 4} {x : Int} (hX : zok X cc own d) (hd : decode cc pc = .ok (.lload_n i, 1)) (hp : pc + 1 = pc') (hg : lv[(i : Nat)]? = some (some (.long (zJ x)))) (k : zZ X n cs ss σ pc' lv (.long (zJ x) :: st)) : zZ X n cs ss σ pc lv (st) := by
  subst hp
  obtain ⟨E, p, l, e, R, s, m, args, below, meth, c, Q, nL⟩ := X
  obtain ⟨hx, hb, -⟩ := hX
  intro H locs ls hG hS hl
  exact lv_lload_n hx hb hd rfl (hl.2.2 _ _ hg) (k H locs ls hG hS hl)
theorem zt_lstore {X : zCX} {cc : ByteArray} {own : String} {d n cs ss pc pc' : Nat} {σ : zSto} {lv : List (Option Value)} {st : List Value} {i : Nat} {x : Int} {lv' : List (Option Value)} (hX : zok X cc own d) (hd : decode cc pc = .ok (.lstore i, 2)) (hp : pc + 2 = pc') {mL : Nat} (hL : X.2.2.2.2.2.2.2.2.2.2.2.2 = mL) (hn : i + 1 < mL) (he : zst2 lv i (.long (zJ x)) = lv') (k : zZ X n cs ss σ pc' lv' (st)) : zZ X n cs ss σ pc lv (.long (zJ x) :: st) := by
  subst hp
  obtain ⟨E, p, l, e, R, s, m, args, below, meth, c, Q, nL⟩ := X
  obtain ⟨hx, hb, -⟩ := hX
  intro H locs ls hG hS hl
  subst he
  exact lv_lstore hx hb hd (zlv_has hl) (Nat.lt_of_lt_of_eq hn hL.symm) rfl (fun ls2 h2 => k H locs ls2 hG hS (zst2_ok h2))
theorem zt_lstore_n {X : zCX} {cc : ByteArray} {own : String} {d n cs ss pc pc' : Nat} {σ : zSto} {lv : List (Option Value)} {st : List Value} {i : Fin 4} {x : Int} {lv' : List (Option Value)} (hX : zok X cc own d) (hd : decode cc pc = .ok (.lstore_n i, 1)) (hp : pc + 1 = pc') {mL : Nat} (hL : X.2.2.2.2.2.2.2.2.2.2.2.2 = mL) (hn : (i : Nat) + 1 < mL) (he : zst2 lv (i : Nat) (.long (zJ x)) = lv') (k : zZ X n cs ss σ pc' lv' (st)) : zZ X n cs ss σ pc lv (.long (zJ x) :: st) := by
  subst hp
  obtain ⟨E, p, l, e, R, s, m, args, below, meth, c, Q, nL⟩ := X
  obtain ⟨hx, hb, -⟩ := hX
  intro H locs ls hG hS hl
  subst he
  exact lv_lstore_n hx hb hd rfl (zlv_has hl) (Nat.lt_of_lt_of_eq hn hL.symm) rfl (fun ls2 h2 => k H locs ls2 hG hS (zst2_ok h2))
theorem zt_iinc {X : zCX} {cc : ByteArray} {own : String} {d n cs ss pc pc' : Nat} {σ : zSto} {lv : List (Option Value)} {st : List Value} {i : Nat} {x c0 : Int} {lv' : List (Option Value)} (hX : zok X cc own d) (hd : decode cc pc = .ok (.iinc i c0, 3)) (hp : pc + 3 = pc') (hg : lv[i]? = some (some (.int (zI x)))) {mL : Nat} (hL : X.2.2.2.2.2.2.2.2.2.2.2.2 = mL) (hn : i < mL) (he : zst1 lv i (.int (zI (x + c0))) = lv') (k : zZ X n cs ss σ pc' lv' (st)) : zZ X n cs ss σ pc lv (st) := by
  subst hp
  obtain ⟨E, p, l, e, R, s, m, args, below, meth, c, Q, nL⟩ := X
  obtain ⟨hx, hb, -⟩ := hX
  intro H locs ls hG hS hl
  subst he
  obtain ⟨kk, hk⟩ := List.getElem?_of_mem ((zas_mem (q := (i, .int (zI x)))).mpr hg)
  exact lv_iinc (v := zI (x + c0)) hx hb hd (zlv_has hl) (k := kk) hk (zI_add x c0).symm (Nat.lt_of_lt_of_eq hn hL.symm) rfl (fun ls2 h2 => k H locs ls2 hG hS (zst1_ok h2))
theorem zt_iadd {X : zCX} {cc : ByteArray} {own : String} {d n cs ss pc pc' : Nat} {σ : zSto} {lv : List (Option Value)} {st : List Value} {x y : Int} (hX : zok X cc own d) (hd : decode cc pc = .ok (.iadd, 1)) (hp : pc + 1 = pc')  (k : zZ X n cs ss σ pc' lv (.int (zI (x + y)) :: st)) : zZ X n cs ss σ pc lv (.int (zI y) :: .int (zI x) :: st) := by
  subst hp
  obtain ⟨E, p, l, e, R, s, m, args, below, meth, c, Q, nL⟩ := X
  obtain ⟨hx, hb, -⟩ := hX
  intro H locs ls hG hS hl
  refine lv_iadd hx hb hd ?_
  rw [← zI_add]
  exact k H locs ls hG hS hl
theorem zt_isub {X : zCX} {cc : ByteArray} {own : String} {d n cs ss pc pc' : Nat} {σ : zSto} {lv : List (Option Value)} {st : List Value} {x y : Int} (hX : zok X cc own d) (hd : decode cc pc = .ok (.isub, 1)) (hp : pc + 1 = pc')  (k : zZ X n cs ss σ pc' lv (.int (zI (x - y)) :: st)) : zZ X n cs ss σ pc lv (.int (zI y) :: .int (zI x) :: st) := by
  subst hp
  obtain ⟨E, p, l, e, R, s, m, args, below, meth, c, Q, nL⟩ := X
  obtain ⟨hx, hb, -⟩ := hX
  intro H locs ls hG hS hl
  refine lv_isub hx hb hd ?_
  rw [← zI_sub]
  exact k H locs ls hG hS hl
theorem zt_imul {X : zCX} {cc : ByteArray} {own : String} {d n cs ss pc pc' : Nat} {σ : zSto} {lv : List (Option Value)} {st : List Value} {x y : Int} (hX : zok X cc own d) (hd : decode cc pc = .ok (.imul, 1)) (hp : pc + 1 = pc')  (k : zZ X n cs ss σ pc' lv (.int (zI (x * y)) :: st)) : zZ X n cs ss σ pc lv (.int (zI y) :: .int (zI x) :: st) := by
  subst hp
  obtain ⟨E, p, l, e, R, s, m, args, below, meth, c, Q, nL⟩ := X
  obtain ⟨hx, hb, -⟩ := hX
  intro H locs ls hG hS hl
  refine lv_imul hx hb hd ?_
  rw [← zI_mul]
  exact k H locs ls hG hS hl
theorem zt_ladd {X : zCX} {cc : ByteArray} {own : String} {d n cs ss pc pc' : Nat} {σ : zSto} {lv : List (Option Value)} {st : List Value} {x y : Int} (hX : zok X cc own d) (hd : decode cc pc = .ok (.ladd, 1)) (hp : pc + 1 = pc')  (k : zZ X n cs ss σ pc' lv (.long (zJ (x + y)) :: st)) : zZ X n cs ss σ pc lv (.long (zJ y) :: .long (zJ x) :: st) := by
  subst hp
  obtain ⟨E, p, l, e, R, s, m, args, below, meth, c, Q, nL⟩ := X
  obtain ⟨hx, hb, -⟩ := hX
  intro H locs ls hG hS hl
  refine lv_ladd hx hb hd ?_
  rw [← zJ_add]
  exact k H locs ls hG hS hl
theorem zt_lsub {X : zCX} {cc : ByteArray} {own : String} {d n cs ss pc pc' : Nat} {σ : zSto} {lv : List (Option Value)} {st : List Value} {x y : Int} (hX : zok X cc own d) (hd : decode cc pc = .ok (.lsub, 1)) (hp : pc + 1 = pc')  (k : zZ X n cs ss σ pc' lv (.long (zJ (x - y)) :: st)) : zZ X n cs ss σ pc lv (.long (zJ y) :: .long (zJ x) :: st) := by
  subst hp
  obtain ⟨E, p, l, e, R, s, m, args, below, meth, c, Q, nL⟩ := X
  obtain ⟨hx, hb, -⟩ := hX
  intro H locs ls hG hS hl
  refine lv_lsub hx hb hd ?_
  rw [← zJ_sub]
  exact k H locs ls hG hS hl
theorem zt_lmul {X : zCX} {cc : ByteArray} {own : String} {d n cs ss pc pc' : Nat} {σ : zSto} {lv : List (Option Value)} {st : List Value} {x y : Int} (hX : zok X cc own d) (hd : decode cc pc = .ok (.lmul, 1)) (hp : pc + 1 = pc')  (k : zZ X n cs ss σ pc' lv (.long (zJ (x * y)) :: st)) : zZ X n cs ss σ pc lv (.long (zJ y) :: .long (zJ x) :: st) := by
  subst hp
  obtain ⟨E, p, l, e, R, s, m, args, below, meth, c, Q, nL⟩ := X
  obtain ⟨hx, hb, -⟩ := hX
  intro H locs ls hG hS hl
  refine lv_lmul hx hb hd ?_
  rw [← zJ_mul]
  exact k H locs ls hG hS hl
theorem zt_ineg {X : zCX} {cc : ByteArray} {own : String} {d n cs ss pc pc' : Nat} {σ : zSto} {lv : List (Option Value)} {st : List Value} {x : Int} (hX : zok X cc own d) (hd : decode cc pc = .ok (.ineg, 1)) (hp : pc + 1 = pc')  (k : zZ X n cs ss σ pc' lv (.int (zI (-x)) :: st)) : zZ X n cs ss σ pc lv (.int (zI x) :: st) := by
  subst hp
  obtain ⟨E, p, l, e, R, s, m, args, below, meth, c, Q, nL⟩ := X
  obtain ⟨hx, hb, -⟩ := hX
  intro H locs ls hG hS hl
  refine lv_ineg hx hb hd ?_
  rw [← zI_neg]
  exact k H locs ls hG hS hl
theorem zt_iand {X : zCX} {cc : ByteArray} {own : String} {d n cs ss pc pc' : Nat} {σ : zSto} {lv : List (Option Value)} {st : List Value} {x y : Int} (hX : zok X cc own d) (hd : decode cc pc = .ok (.iand, 1)) (hp : pc + 1 = pc')  (k : ∀ r : Int, r = (zI x &&& zI y).toInt → -2147483648 ≤ r → r ≤ 2147483647 → zZ X n cs ss σ pc' lv (.int (zI r) :: st)) : zZ X n cs ss σ pc lv (.int (zI y) :: .int (zI x) :: st) := by
  subst hp
  obtain ⟨E, p, l, e, R, s, m, args, below, meth, c, Q, nL⟩ := X
  obtain ⟨hx, hb, -⟩ := hX
  intro H locs ls hG hS hl
  refine lv_iand hx hb hd ?_
  have h := k _ rfl (zI_lo _) (zI_hi _) H locs ls hG hS hl
  rw [zI_of] at h
  exact h
theorem zt_ior {X : zCX} {cc : ByteArray} {own : String} {d n cs ss pc pc' : Nat} {σ : zSto} {lv : List (Option Value)} {st : List Value} {x y : Int} (hX : zok X cc own d) (hd : decode cc pc = .ok (.ior, 1)) (hp : pc + 1 = pc')  (k : ∀ r : Int, r = (zI x ||| zI y).toInt → -2147483648 ≤ r → r ≤ 2147483647 → zZ X n cs ss σ pc' lv (.int (zI r) :: st)) : zZ X n cs ss σ pc lv (.int (zI y) :: .int (zI x) :: st) := by
  subst hp
  obtain ⟨E, p, l, e, R, s, m, args, below, meth, c, Q, nL⟩ := X
  obtain ⟨hx, hb, -⟩ := hX
  intro H locs ls hG hS hl
  refine lv_ior hx hb hd ?_
  have h := k _ rfl (zI_lo _) (zI_hi _) H locs ls hG hS hl
  rw [zI_of] at h
  exact h
theorem zt_ixor {X : zCX} {cc : ByteArray} {own : String} {d n cs ss pc pc' : Nat} {σ : zSto} {lv : List (Option Value)} {st : List Value} {x y : Int} (hX : zok X cc own d) (hd : decode cc pc = .ok (.ixor, 1)) (hp : pc + 1 = pc')  (k : ∀ r : Int, r = (zI x ^^^ zI y).toInt → -2147483648 ≤ r → r ≤ 2147483647 → zZ X n cs ss σ pc' lv (.int (zI r) :: st)) : zZ X n cs ss σ pc lv (.int (zI y) :: .int (zI x) :: st) := by
  subst hp
  obtain ⟨E, p, l, e, R, s, m, args, below, meth, c, Q, nL⟩ := X
  obtain ⟨hx, hb, -⟩ := hX
  intro H locs ls hG hS hl
  refine lv_ixor hx hb hd ?_
  have h := k _ rfl (zI_lo _) (zI_hi _) H locs ls hG hS hl
  rw [zI_of] at h
  exact h
theorem zt_ishl {X : zCX} {cc : ByteArray} {own : String} {d n cs ss pc pc' : Nat} {σ : zSto} {lv : List (Option Value)} {st : List Value} {x y : Int} (hX : zok X cc own d) (hd : decode cc pc = .ok (.ishl, 1)) (hp : pc + 1 = pc')  (k : ∀ r : Int, r = (zI x <<< (zI y &&& 31)).toInt → -2147483648 ≤ r → r ≤ 2147483647 → zZ X n cs ss σ pc' lv (.int (zI r) :: st)) : zZ X n cs ss σ pc lv (.int (zI y) :: .int (zI x) :: st) := by
  subst hp
  obtain ⟨E, p, l, e, R, s, m, args, below, meth, c, Q, nL⟩ := X
  obtain ⟨hx, hb, -⟩ := hX
  intro H locs ls hG hS hl
  refine lv_ishl hx hb hd ?_
  have h := k _ rfl (zI_lo _) (zI_hi _) H locs ls hG hS hl
  rw [zI_of] at h
  exact h
theorem zt_ishr {X : zCX} {cc : ByteArray} {own : String} {d n cs ss pc pc' : Nat} {σ : zSto} {lv : List (Option Value)} {st : List Value} {x y : Int} (hX : zok X cc own d) (hd : decode cc pc = .ok (.ishr, 1)) (hp : pc + 1 = pc')  (k : ∀ r : Int, r = (zI x >>> (zI y &&& 31)).toInt → -2147483648 ≤ r → r ≤ 2147483647 → zZ X n cs ss σ pc' lv (.int (zI r) :: st)) : zZ X n cs ss σ pc lv (.int (zI y) :: .int (zI x) :: st) := by
  subst hp
  obtain ⟨E, p, l, e, R, s, m, args, below, meth, c, Q, nL⟩ := X
  obtain ⟨hx, hb, -⟩ := hX
  intro H locs ls hG hS hl
  refine lv_ishr hx hb hd ?_
  have h := k _ rfl (zI_lo _) (zI_hi _) H locs ls hG hS hl
  rw [zI_of] at h
  exact h
theorem zt_land {X : zCX} {cc : ByteArray} {own : String} {d n cs ss pc pc' : Nat} {σ : zSto} {lv : List (Option Value)} {st : List Value} {x y : Int} (hX : zok X cc own d) (hd : decode cc pc = .ok (.land, 1)) (hp : pc + 1 = pc')  (k : ∀ r : Int, r = (zJ x &&& zJ y).toInt → -9223372036854775808 ≤ r → r ≤ 9223372036854775807 → zZ X n cs ss σ pc' lv (.long (zJ r) :: st)) : zZ X n cs ss σ pc lv (.long (zJ y) :: .long (zJ x) :: st) := by
  subst hp
  obtain ⟨E, p, l, e, R, s, m, args, below, meth, c, Q, nL⟩ := X
  obtain ⟨hx, hb, -⟩ := hX
  intro H locs ls hG hS hl
  refine lv_land hx hb hd ?_
  have h := k _ rfl (zJ_lo _) (zJ_hi _) H locs ls hG hS hl
  rw [zJ_of] at h
  exact h
theorem zt_lor {X : zCX} {cc : ByteArray} {own : String} {d n cs ss pc pc' : Nat} {σ : zSto} {lv : List (Option Value)} {st : List Value} {x y : Int} (hX : zok X cc own d) (hd : decode cc pc = .ok (.lor, 1)) (hp : pc + 1 = pc')  (k : ∀ r : Int, r = (zJ x ||| zJ y).toInt → -9223372036854775808 ≤ r → r ≤ 9223372036854775807 → zZ X n cs ss σ pc' lv (.long (zJ r) :: st)) : zZ X n cs ss σ pc lv (.long (zJ y) :: .long (zJ x) :: st) := by
  subst hp
  obtain ⟨E, p, l, e, R, s, m, args, below, meth, c, Q, nL⟩ := X
  obtain ⟨hx, hb, -⟩ := hX
  intro H locs ls hG hS hl
  refine lv_lor hx hb hd ?_
  have h := k _ rfl (zJ_lo _) (zJ_hi _) H locs ls hG hS hl
  rw [zJ_of] at h
  exact h
theorem zt_lxor {X : zCX} {cc : ByteArray} {own : String} {d n cs ss pc pc' : Nat} {σ : zSto} {lv : List (Option Value)} {st : List Value} {x y : Int} (hX : zok X cc own d) (hd : decode cc pc = .ok (.lxor, 1)) (hp : pc + 1 = pc')  (k : ∀ r : Int, r = (zJ x ^^^ zJ y).toInt → -9223372036854775808 ≤ r → r ≤ 9223372036854775807 → zZ X n cs ss σ pc' lv (.long (zJ r) :: st)) : zZ X n cs ss σ pc lv (.long (zJ y) :: .long (zJ x) :: st) := by
  subst hp
  obtain ⟨E, p, l, e, R, s, m, args, below, meth, c, Q, nL⟩ := X
  obtain ⟨hx, hb, -⟩ := hX
  intro H locs ls hG hS hl
  refine lv_lxor hx hb hd ?_
  have h := k _ rfl (zJ_lo _) (zJ_hi _) H locs ls hG hS hl
  rw [zJ_of] at h
  exact h
theorem zt_lshl {X : zCX} {cc : ByteArray} {own : String} {d n cs ss pc pc' : Nat} {σ : zSto} {lv : List (Option Value)} {st : List Value} {x y : Int} (hX : zok X cc own d) (hd : decode cc pc = .ok (.lshl, 1)) (hp : pc + 1 = pc')  (k : ∀ r : Int, r = (zJ x <<< ((zI y).toInt64 &&& 63)).toInt → -9223372036854775808 ≤ r → r ≤ 9223372036854775807 → zZ X n cs ss σ pc' lv (.long (zJ r) :: st)) : zZ X n cs ss σ pc lv (.int (zI y) :: .long (zJ x) :: st) := by
  subst hp
  obtain ⟨E, p, l, e, R, s, m, args, below, meth, c, Q, nL⟩ := X
  obtain ⟨hx, hb, -⟩ := hX
  intro H locs ls hG hS hl
  have h := k _ rfl (zJ_lo _) (zJ_hi _) H locs ls hG hS hl
  rw [zJ_of] at h
  exact lv_lshl hx hb hd rfl h
theorem zt_lshr {X : zCX} {cc : ByteArray} {own : String} {d n cs ss pc pc' : Nat} {σ : zSto} {lv : List (Option Value)} {st : List Value} {x y : Int} (hX : zok X cc own d) (hd : decode cc pc = .ok (.lshr, 1)) (hp : pc + 1 = pc')  (k : ∀ r : Int, r = (zJ x >>> ((zI y).toInt64 &&& 63)).toInt → -9223372036854775808 ≤ r → r ≤ 9223372036854775807 → zZ X n cs ss σ pc' lv (.long (zJ r) :: st)) : zZ X n cs ss σ pc lv (.int (zI y) :: .long (zJ x) :: st) := by
  subst hp
  obtain ⟨E, p, l, e, R, s, m, args, below, meth, c, Q, nL⟩ := X
  obtain ⟨hx, hb, -⟩ := hX
  intro H locs ls hG hS hl
  have h := k _ rfl (zJ_lo _) (zJ_hi _) H locs ls hG hS hl
  rw [zJ_of] at h
  exact lv_lshr hx hb hd rfl h
theorem zdiv_t (x y : Int32) (hx : -2147483648 ≤ x.toInt) (hy : 0 < y.toInt) : (x / y).toInt = x.toInt.tdiv y.toInt := by
  have h1 := zI_hi x
  rw [Int32.toInt_div]
  show Int.bmod _ 4294967296 = _
  refine Int.bmod_eq_of_le ?_ ?_
  · rcases Int.lt_or_le x.toInt 0 with h | h
    · have h2 : x.toInt ≤ x.toInt.tdiv y.toInt := by
        have e : x.toInt.tdiv y.toInt = -((-x.toInt).tdiv y.toInt) := by rw [Int.neg_tdiv]; omega
        have h3 : (-x.toInt).tdiv y.toInt ≤ -x.toInt := Int.tdiv_le_self _ (by omega)
        omega
      omega
    · have h2 : 0 ≤ x.toInt.tdiv y.toInt := Int.tdiv_nonneg h (by omega)
      omega
  · rcases Int.lt_or_le x.toInt 0 with h | h
    · have e : x.toInt.tdiv y.toInt = -((-x.toInt).tdiv y.toInt) := by rw [Int.neg_tdiv]; omega
      have h3 : 0 ≤ (-x.toInt).tdiv y.toInt := Int.tdiv_nonneg (by omega) (by omega)
      omega
    · have h3 : x.toInt.tdiv y.toInt ≤ x.toInt := Int.tdiv_le_self _ h
      omega
theorem zdiv_i {x y : Int} (hx : -2147483648 ≤ x ∧ x ≤ 2147483647) (hy : 0 < y ∧ y ≤ 2147483647) : zI x / zI y = zI (x.tdiv y) := by
  rw [← zI_of (zI x / zI y), zdiv_t _ _ (zI_lo _) (by rw [zI_t (by omega) hy.2]; exact hy.1), zI_t hx.1 hx.2, zI_t (by omega) hy.2]
theorem zne_i {y : Int} (hy : 0 < y ∧ y ≤ 2147483647) : ¬ zI y = 0 := by
  rw [← zI_0, zI_eq (by omega) (by omega)]
  omega
theorem zrem_i {x y : Int} (hx : -2147483648 ≤ x ∧ x ≤ 2147483647) (hy : 0 < y ∧ y ≤ 2147483647) : zI x - zI x / zI y * zI y = zI (x.tmod y) := by
  rw [zdiv_i hx hy, ← zI_mul, ← zI_sub]
  congr 1
  have := Int.tmod_add_mul_tdiv x y
  rw [Int.mul_comm] at this
  omega
theorem ztd_p {x y : Int} (hx : 0 ≤ x) : x.tdiv y = x / y := Int.tdiv_eq_ediv_of_nonneg hx
theorem ztm_p {x y : Int} (hx : 0 ≤ x) : x.tmod y = x % y := Int.tmod_eq_emod_of_nonneg hx
theorem ztm_b {x y : Int} (hy : 0 < y) : -y < x.tmod y ∧ x.tmod y < y := by
  rcases Int.lt_or_le x 0 with h | h
  · have e : x.tmod y = -((-x).tmod y) := by rw [Int.neg_tmod]; omega
    rw [e, ztm_p (by omega)]
    have h1 := Int.emod_nonneg (-x) (show y ≠ 0 by omega)
    have h2 := Int.emod_lt_of_pos (-x) hy
    omega
  · rw [ztm_p h]
    have h1 := Int.emod_nonneg x (show y ≠ 0 by omega)
    have h2 := Int.emod_lt_of_pos x hy
    omega
theorem ztd_b {x y : Int} (hy : 0 < y) : (0 ≤ x → 0 ≤ x.tdiv y ∧ x.tdiv y ≤ x) ∧ (x ≤ 0 → x ≤ x.tdiv y ∧ x.tdiv y ≤ 0) := by
  refine ⟨fun h => ⟨Int.tdiv_nonneg h (by omega), Int.tdiv_le_self _ h⟩, fun h => ?_⟩
  have e : x.tdiv y = -((-x).tdiv y) := by rw [Int.neg_tdiv]; omega
  have h3 : 0 ≤ (-x).tdiv y := Int.tdiv_nonneg (by omega) (by omega)
  have h4 : (-x).tdiv y ≤ -x := Int.tdiv_le_self _ (by omega)
  omega
theorem zt_idiv {X : zCX} {cc : ByteArray} {own : String} {d n cs ss pc pc' : Nat} {σ : zSto} {lv : List (Option Value)} {st : List Value} {x y : Int} (hX : zok X cc own d) (hd : decode cc pc = .ok (.idiv, 1)) (hp : pc + 1 = pc') (h1 : (-2147483648 ≤ x ∧ x ≤ 2147483647)) (h2 : 0 < y ∧ y ≤ 2147483647) (k : ∀ r : Int, r = x.tdiv y → (0 ≤ x → 0 ≤ r ∧ r ≤ x) ∧ (x ≤ 0 → x ≤ r ∧ r ≤ 0) → zZ X n cs ss σ pc' lv (.int (zI r) :: st)) : zZ X n cs ss σ pc lv (.int (zI y) :: .int (zI x) :: st) := by
  subst hp
  obtain ⟨E, p, l, e, R, s, m, args, below, meth, c, Q, nL⟩ := X
  obtain ⟨hx, hb, -⟩ := hX
  intro H locs ls hG hS hl
  refine lv_idiv hx hb hd (zne_i h2) ?_
  rw [zdiv_i h1 h2]
  exact k _ rfl (ztd_b h2.1) H locs ls hG hS hl
theorem zt_irem {X : zCX} {cc : ByteArray} {own : String} {d n cs ss pc pc' : Nat} {σ : zSto} {lv : List (Option Value)} {st : List Value} {x y : Int} (hX : zok X cc own d) (hd : decode cc pc = .ok (.irem, 1)) (hp : pc + 1 = pc') (h1 : (-2147483648 ≤ x ∧ x ≤ 2147483647)) (h2 : 0 < y ∧ y ≤ 2147483647) (k : ∀ r : Int, r = x.tmod y → -y < r ∧ r < y → (0 ≤ x → 0 ≤ r) → zZ X n cs ss σ pc' lv (.int (zI r) :: st)) : zZ X n cs ss σ pc lv (.int (zI y) :: .int (zI x) :: st) := by
  subst hp
  obtain ⟨E, p, l, e, R, s, m, args, below, meth, c, Q, nL⟩ := X
  obtain ⟨hx, hb, -⟩ := hX
  intro H locs ls hG hS hl
  refine lv_irem hx hb hd (zne_i h2) ?_
  rw [zrem_i h1 h2]
  exact k _ rfl (ztm_b h2.1) (fun h => by rw [ztm_p h]; exact Int.emod_nonneg x (by omega)) H locs ls hG hS hl
theorem zt_iandm {X : zCX} {cc : ByteArray} {own : String} {d n cs ss pc pc' : Nat} {σ : zSto} {lv : List (Option Value)} {st : List Value} {x y : Int} (hX : zok X cc own d) (hd : decode cc pc = .ok (.iand, 1)) (hp : pc + 1 = pc') (q : Nat) (hq : (zI y).toBitVec.toNat = 2 ^ q - 1) (hk : q ≤ 30) (k : ∀ r : Int, r = (zI x &&& zI y).toInt → 0 ≤ r → r < 2 ^ q → zZ X n cs ss σ pc' lv (.int (zI r) :: st)) : zZ X n cs ss σ pc lv (.int (zI y) :: .int (zI x) :: st) := by
  subst hp
  obtain ⟨E, p, l, e, R, s, m, args, below, meth, c, Q, nL⟩ := X
  obtain ⟨hx, hb, -⟩ := hX
  intro H locs ls hG hS hl
  refine lv_iand hx hb hd ?_
  obtain ⟨j, hj, he⟩ := pk_andE (zI x) q hq
  have hp : (2 : Nat) ^ q ≤ 2 ^ 30 := Nat.pow_le_pow_right (by decide) hk
  have hi : (zI x &&& zI y).toInt = (j : Int) := by rw [he]; exact nI_toInt (by omega)
  have h := k _ rfl (by rw [hi]; omega) (by rw [hi]; exact_mod_cast hj) H locs ls hG hS hl
  rw [zI_of] at h
  exact h
theorem zt_i2l {X : zCX} {cc : ByteArray} {own : String} {d n cs ss pc pc' : Nat} {σ : zSto} {lv : List (Option Value)} {st : List Value} {x : Int} (hX : zok X cc own d) (hd : decode cc pc = .ok (.i2l, 1)) (hp : pc + 1 = pc') (h1 : (-2147483648 ≤ x ∧ x ≤ 2147483647)) (k : zZ X n cs ss σ pc' lv (.long (zJ x) :: st)) : zZ X n cs ss σ pc lv (.int (zI x) :: st) := by
  subst hp
  obtain ⟨E, p, l, e, R, s, m, args, below, meth, c, Q, nL⟩ := X
  obtain ⟨hx, hb, -⟩ := hX
  intro H locs ls hG hS hl
  exact lv_i2l hx hb hd (zJ_i h1.1 h1.2) (k H locs ls hG hS hl)
theorem zt_l2i {X : zCX} {cc : ByteArray} {own : String} {d n cs ss pc pc' : Nat} {σ : zSto} {lv : List (Option Value)} {st : List Value} {x : Int} (hX : zok X cc own d) (hd : decode cc pc = .ok (.l2i, 1)) (hp : pc + 1 = pc')  (k : zZ X n cs ss σ pc' lv (.int (zI x) :: st)) : zZ X n cs ss σ pc lv (.long (zJ x) :: st) := by
  subst hp
  obtain ⟨E, p, l, e, R, s, m, args, below, meth, c, Q, nL⟩ := X
  obtain ⟨hx, hb, -⟩ := hX
  intro H locs ls hG hS hl
  exact lv_l2i hx hb hd (zI_j x) (k H locs ls hG hS hl)
theorem zt_i2b {X : zCX} {cc : ByteArray} {own : String} {d n cs ss pc pc' : Nat} {σ : zSto} {lv : List (Option Value)} {st : List Value} {x : Int} (hX : zok X cc own d) (hd : decode cc pc = .ok (.i2b, 1)) (hp : pc + 1 = pc')  (k : ∀ r : Int, r = (zI x).toInt8.toInt → -128 ≤ r → r ≤ 127 → zZ X n cs ss σ pc' lv (.int (zI r) :: st)) : zZ X n cs ss σ pc lv (.int (zI x) :: st) := by
  subst hp
  obtain ⟨E, p, l, e, R, s, m, args, below, meth, c, Q, nL⟩ := X
  obtain ⟨hx, hb, -⟩ := hX
  intro H locs ls hG hS hl
  have h1 := Int8.le_toInt (zI x).toInt8
  have h2 := Int8.toInt_lt (zI x).toInt8
  refine lv_i2b (v := zI (zI x).toInt8.toInt) hx hb hd ?_ (k _ rfl (by omega) (by omega) H locs ls hG hS hl)
  rw [← Int32.toInt_inj, Int8.toInt_toInt32, zI_t (by omega) (by omega)]
theorem zt_lcmp {X : zCX} {cc : ByteArray} {own : String} {d n cs ss pc pc' : Nat} {σ : zSto} {lv : List (Option Value)} {st : List Value} {x y : Int} (hX : zok X cc own d) (hd : decode cc pc = .ok (.lcmp, 1)) (hp : pc + 1 = pc') (h1 : -9223372036854775808 ≤ x ∧ x ≤ 9223372036854775807) (h2 : -9223372036854775808 ≤ y ∧ y ≤ 9223372036854775807) (k : ∀ r : Int, (r = -1 ∧ x < y) ∨ (r = 0 ∧ x = y) ∨ (r = 1 ∧ y < x) → zZ X n cs ss σ pc' lv (.int (zI r) :: st)) : zZ X n cs ss σ pc lv (.long (zJ y) :: .long (zJ x) :: st) := by
  subst hp
  obtain ⟨E, p, l, e, R, s, m, args, below, meth, c, Q, nL⟩ := X
  obtain ⟨hx, hb, -⟩ := hX
  intro H locs ls hG hS hl
  refine W.lcmp hx hb hd ?_
  have e1 : (zJ y < zJ x) ↔ y < x := by rw [Int64.lt_iff_toInt_lt, zJ_t h1.1 h1.2, zJ_t h2.1 h2.2]
  have e2 : (zJ x = zJ y) ↔ x = y := by rw [← Int64.toInt_inj, zJ_t h1.1 h1.2, zJ_t h2.1 h2.2]
  rcases Int.lt_trichotomy x y with q | q | q
  · have h := k (-1) (Or.inl ⟨rfl, q⟩) H locs ls hG hS hl
    have e : lg_cmp (zJ x) (zJ y) = zI (-1) := by
      have a1 : ¬ zJ y < zJ x := by rw [e1]; omega
      have a2 : ¬ zJ x = zJ y := by rw [e2]; omega
      simp [lg_cmp, a1, a2, zI]
    rw [e]; exact h
  · have h := k 0 (Or.inr (Or.inl ⟨rfl, q⟩)) H locs ls hG hS hl
    have e : lg_cmp (zJ x) (zJ y) = zI 0 := by
      have a1 : ¬ zJ y < zJ x := by rw [e1]; omega
      have a2 : zJ x = zJ y := by rw [e2]; omega
      simp [lg_cmp, a2, zI]
    rw [e]; exact h
  · have h := k 1 (Or.inr (Or.inr ⟨rfl, q⟩)) H locs ls hG hS hl
    have e : lg_cmp (zJ x) (zJ y) = zI 1 := by
      have a1 : zJ y < zJ x := by rw [e1]; omega
      simp [lg_cmp, a1, zI]
    rw [e]; exact h
theorem zt_dup {X : zCX} {cc : ByteArray} {own : String} {d n cs ss pc pc' : Nat} {σ : zSto} {lv : List (Option Value)} {st : List Value} {v : Value} (hX : zok X cc own d) (hd : decode cc pc = .ok (.dup, 1)) (hp : pc + 1 = pc') (hv : v.category = 1) (k : zZ X n cs ss σ pc' lv (v :: v :: st)) : zZ X n cs ss σ pc lv (v :: st) := by
  subst hp
  obtain ⟨E, p, l, e, R, s, m, args, below, meth, c, Q, nL⟩ := X
  obtain ⟨hx, hb, -⟩ := hX
  intro H locs ls hG hS hl
  exact lv_dup hx hb hd hv (k H locs ls hG hS hl)
theorem zt_pop {X : zCX} {cc : ByteArray} {own : String} {d n cs ss pc pc' : Nat} {σ : zSto} {lv : List (Option Value)} {st : List Value} {v : Value} (hX : zok X cc own d) (hd : decode cc pc = .ok (.pop, 1)) (hp : pc + 1 = pc') (hv : v.category = 1) (k : zZ X n cs ss σ pc' lv (st)) : zZ X n cs ss σ pc lv (v :: st) := by
  subst hp
  obtain ⟨E, p, l, e, R, s, m, args, below, meth, c, Q, nL⟩ := X
  obtain ⟨hx, hb, -⟩ := hX
  intro H locs ls hG hS hl
  exact lv_pop hx hb hd hv (k H locs ls hG hS hl)
theorem zt_dup2 {X : zCX} {cc : ByteArray} {own : String} {d n cs ss pc pc' : Nat} {σ : zSto} {lv : List (Option Value)} {st : List Value} {v u : Value} (hX : zok X cc own d) (hd : decode cc pc = .ok (.dup2, 1)) (hp : pc + 1 = pc') (hv : v.category = 1) (hu : u.category = 1) (k : zZ X n cs ss σ pc' lv (v :: u :: v :: u :: st)) : zZ X n cs ss σ pc lv (v :: u :: st) := by
  subst hp
  obtain ⟨E, p, l, e, R, s, m, args, below, meth, c, Q, nL⟩ := X
  obtain ⟨hx, hb, -⟩ := hX
  intro H locs ls hG hS hl
  exact lv_dup2_11 hx hb hd hv hu (k H locs ls hG hS hl)
theorem zt_dup2l {X : zCX} {cc : ByteArray} {own : String} {d n cs ss pc pc' : Nat} {σ : zSto} {lv : List (Option Value)} {st : List Value} {v : Value} (hX : zok X cc own d) (hd : decode cc pc = .ok (.dup2, 1)) (hp : pc + 1 = pc') (hv : v.category = 2) (k : zZ X n cs ss σ pc' lv (v :: v :: st)) : zZ X n cs ss σ pc lv (v :: st) := by
  subst hp
  obtain ⟨E, p, l, e, R, s, m, args, below, meth, c, Q, nL⟩ := X
  obtain ⟨hx, hb, -⟩ := hX
  intro H locs ls hG hS hl
  exact lv_dup2_2 hx hb hd hv (k H locs ls hG hS hl)
theorem zt_pop2l {X : zCX} {cc : ByteArray} {own : String} {d n cs ss pc pc' : Nat} {σ : zSto} {lv : List (Option Value)} {st : List Value} {v : Value} (hX : zok X cc own d) (hd : decode cc pc = .ok (.pop2, 1)) (hp : pc + 1 = pc') (hv : v.category = 2) (k : zZ X n cs ss σ pc' lv (st)) : zZ X n cs ss σ pc lv (v :: st) := by
  subst hp
  obtain ⟨E, p, l, e, R, s, m, args, below, meth, c, Q, nL⟩ := X
  obtain ⟨hx, hb, -⟩ := hX
  intro H locs ls hG hS hl
  exact lv_pop2_2 hx hb hd hv (k H locs ls hG hS hl)
theorem zt_ifeq {X : zCX} {cc : ByteArray} {own : String} {d n cs ss pc pc' : Nat} {σ : zSto} {lv : List (Option Value)} {st : List Value} {x off : Int} {tgt : Nat} (hX : zok X cc own d) (hd : decode cc pc = .ok (.ifCond .eq off, 3)) (hp : pc + 3 = pc') (ht : (pc : Int) + off = (tgt : Int)) (h1 : (-2147483648 ≤ x ∧ x ≤ 2147483647))  (kt : x = 0 → zZ X n cs ss σ tgt lv st) (kf : ¬ x = 0 → zZ X n cs ss σ pc' lv st) : zZ X n cs ss σ pc lv (.int (zI x) :: st) := by
  subst hp
  obtain ⟨E, p, l, e, R, s, m, args, below, meth, c, Q, nL⟩ := X
  obtain ⟨hx, hb, -⟩ := hX
  intro H locs ls hG hS hl
  have e : zI x = zI 0 ↔ x = 0 := zI_eq h1 (by omega)
  rw [zI_0] at e
  first
  | exact lv_if_eq hx hb hd ht (fun q => kt (e.mp q) H locs ls hG hS hl) (fun q => kf (fun z => q (e.mpr z)) H locs ls hG hS hl)
  | exact lv_if_eq hx hb hd ht (fun q => kt (fun z => q (e.mpr z)) H locs ls hG hS hl) (fun q => kf (e.mp q) H locs ls hG hS hl)
  | exact lv_if_eq hx hb hd ht (fun q => kt (fun z => q (e.mpr z)) H locs ls hG hS hl) (fun q => kf (e.mp (Classical.byContradiction q)) H locs ls hG hS hl)
theorem zt_iceq {X : zCX} {cc : ByteArray} {own : String} {d n cs ss pc pc' : Nat} {σ : zSto} {lv : List (Option Value)} {st : List Value} {x y off : Int} {tgt : Nat} (hX : zok X cc own d) (hd : decode cc pc = .ok (.if_icmp .eq off, 3)) (hp : pc + 3 = pc') (ht : (pc : Int) + off = (tgt : Int)) (h1 : (-2147483648 ≤ x ∧ x ≤ 2147483647)) (h2 : (-2147483648 ≤ y ∧ y ≤ 2147483647)) (kt : x = y → zZ X n cs ss σ tgt lv st) (kf : ¬ x = y → zZ X n cs ss σ pc' lv st) : zZ X n cs ss σ pc lv (.int (zI y) :: .int (zI x) :: st) := by
  subst hp
  obtain ⟨E, p, l, e, R, s, m, args, below, meth, c, Q, nL⟩ := X
  obtain ⟨hx, hb, -⟩ := hX
  intro H locs ls hG hS hl
  have e : zI x = zI y ↔ x = y := zI_eq h1 h2
  first
  | exact lv_icmp_eq hx hb hd ht (fun q => kt (e.mp q) H locs ls hG hS hl) (fun q => kf (fun z => q (e.mpr z)) H locs ls hG hS hl)
  | exact lv_icmp_eq hx hb hd ht (fun q => kt (fun z => q (e.mpr z)) H locs ls hG hS hl) (fun q => kf (e.mp q) H locs ls hG hS hl)
  | exact lv_icmp_eq hx hb hd ht (fun q => kt (fun z => q (e.mpr z)) H locs ls hG hS hl) (fun q => kf (e.mp (Classical.byContradiction q)) H locs ls hG hS hl)
theorem zt_ifne {X : zCX} {cc : ByteArray} {own : String} {d n cs ss pc pc' : Nat} {σ : zSto} {lv : List (Option Value)} {st : List Value} {x off : Int} {tgt : Nat} (hX : zok X cc own d) (hd : decode cc pc = .ok (.ifCond .ne off, 3)) (hp : pc + 3 = pc') (ht : (pc : Int) + off = (tgt : Int)) (h1 : (-2147483648 ≤ x ∧ x ≤ 2147483647))  (kt : ¬ x = 0 → zZ X n cs ss σ tgt lv st) (kf : x = 0 → zZ X n cs ss σ pc' lv st) : zZ X n cs ss σ pc lv (.int (zI x) :: st) := by
  subst hp
  obtain ⟨E, p, l, e, R, s, m, args, below, meth, c, Q, nL⟩ := X
  obtain ⟨hx, hb, -⟩ := hX
  intro H locs ls hG hS hl
  have e : zI x = zI 0 ↔ x = 0 := zI_eq h1 (by omega)
  rw [zI_0] at e
  first
  | exact lv_if_ne hx hb hd ht (fun q => kt (e.mp q) H locs ls hG hS hl) (fun q => kf (fun z => q (e.mpr z)) H locs ls hG hS hl)
  | exact lv_if_ne hx hb hd ht (fun q => kt (fun z => q (e.mpr z)) H locs ls hG hS hl) (fun q => kf (e.mp q) H locs ls hG hS hl)
  | exact lv_if_ne hx hb hd ht (fun q => kt (fun z => q (e.mpr z)) H locs ls hG hS hl) (fun q => kf (e.mp (Classical.byContradiction q)) H locs ls hG hS hl)
theorem zt_icne {X : zCX} {cc : ByteArray} {own : String} {d n cs ss pc pc' : Nat} {σ : zSto} {lv : List (Option Value)} {st : List Value} {x y off : Int} {tgt : Nat} (hX : zok X cc own d) (hd : decode cc pc = .ok (.if_icmp .ne off, 3)) (hp : pc + 3 = pc') (ht : (pc : Int) + off = (tgt : Int)) (h1 : (-2147483648 ≤ x ∧ x ≤ 2147483647)) (h2 : (-2147483648 ≤ y ∧ y ≤ 2147483647)) (kt : ¬ x = y → zZ X n cs ss σ tgt lv st) (kf : x = y → zZ X n cs ss σ pc' lv st) : zZ X n cs ss σ pc lv (.int (zI y) :: .int (zI x) :: st) := by
  subst hp
  obtain ⟨E, p, l, e, R, s, m, args, below, meth, c, Q, nL⟩ := X
  obtain ⟨hx, hb, -⟩ := hX
  intro H locs ls hG hS hl
  have e : zI x = zI y ↔ x = y := zI_eq h1 h2
  first
  | exact lv_icmp_ne hx hb hd ht (fun q => kt (e.mp q) H locs ls hG hS hl) (fun q => kf (fun z => q (e.mpr z)) H locs ls hG hS hl)
  | exact lv_icmp_ne hx hb hd ht (fun q => kt (fun z => q (e.mpr z)) H locs ls hG hS hl) (fun q => kf (e.mp q) H locs ls hG hS hl)
  | exact lv_icmp_ne hx hb hd ht (fun q => kt (fun z => q (e.mpr z)) H locs ls hG hS hl) (fun q => kf (e.mp (Classical.byContradiction q)) H locs ls hG hS hl)
theorem zt_iflt {X : zCX} {cc : ByteArray} {own : String} {d n cs ss pc pc' : Nat} {σ : zSto} {lv : List (Option Value)} {st : List Value} {x off : Int} {tgt : Nat} (hX : zok X cc own d) (hd : decode cc pc = .ok (.ifCond .lt off, 3)) (hp : pc + 3 = pc') (ht : (pc : Int) + off = (tgt : Int)) (h1 : (-2147483648 ≤ x ∧ x ≤ 2147483647))  (kt : x < 0 → zZ X n cs ss σ tgt lv st) (kf : ¬ x < 0 → zZ X n cs ss σ pc' lv st) : zZ X n cs ss σ pc lv (.int (zI x) :: st) := by
  subst hp
  obtain ⟨E, p, l, e, R, s, m, args, below, meth, c, Q, nL⟩ := X
  obtain ⟨hx, hb, -⟩ := hX
  intro H locs ls hG hS hl
  have e : zI x < zI 0 ↔ x < 0 := zI_lt h1 (by omega)
  rw [zI_0] at e
  first
  | exact lv_if_lt hx hb hd ht (fun q => kt (e.mp q) H locs ls hG hS hl) (fun q => kf (fun z => q (e.mpr z)) H locs ls hG hS hl)
  | exact lv_if_lt hx hb hd ht (fun q => kt (fun z => q (e.mpr z)) H locs ls hG hS hl) (fun q => kf (e.mp q) H locs ls hG hS hl)
  | exact lv_if_lt hx hb hd ht (fun q => kt (fun z => q (e.mpr z)) H locs ls hG hS hl) (fun q => kf (e.mp (Classical.byContradiction q)) H locs ls hG hS hl)
theorem zt_iclt {X : zCX} {cc : ByteArray} {own : String} {d n cs ss pc pc' : Nat} {σ : zSto} {lv : List (Option Value)} {st : List Value} {x y off : Int} {tgt : Nat} (hX : zok X cc own d) (hd : decode cc pc = .ok (.if_icmp .lt off, 3)) (hp : pc + 3 = pc') (ht : (pc : Int) + off = (tgt : Int)) (h1 : (-2147483648 ≤ x ∧ x ≤ 2147483647)) (h2 : (-2147483648 ≤ y ∧ y ≤ 2147483647)) (kt : x < y → zZ X n cs ss σ tgt lv st) (kf : ¬ x < y → zZ X n cs ss σ pc' lv st) : zZ X n cs ss σ pc lv (.int (zI y) :: .int (zI x) :: st) := by
  subst hp
  obtain ⟨E, p, l, e, R, s, m, args, below, meth, c, Q, nL⟩ := X
  obtain ⟨hx, hb, -⟩ := hX
  intro H locs ls hG hS hl
  have e : zI x < zI y ↔ x < y := zI_lt h1 h2
  first
  | exact lv_icmp_lt hx hb hd ht (fun q => kt (e.mp q) H locs ls hG hS hl) (fun q => kf (fun z => q (e.mpr z)) H locs ls hG hS hl)
  | exact lv_icmp_lt hx hb hd ht (fun q => kt (fun z => q (e.mpr z)) H locs ls hG hS hl) (fun q => kf (e.mp q) H locs ls hG hS hl)
  | exact lv_icmp_lt hx hb hd ht (fun q => kt (fun z => q (e.mpr z)) H locs ls hG hS hl) (fun q => kf (e.mp (Classical.byContradiction q)) H locs ls hG hS hl)
theorem zt_ifge {X : zCX} {cc : ByteArray} {own : String} {d n cs ss pc pc' : Nat} {σ : zSto} {lv : List (Option Value)} {st : List Value} {x off : Int} {tgt : Nat} (hX : zok X cc own d) (hd : decode cc pc = .ok (.ifCond .ge off, 3)) (hp : pc + 3 = pc') (ht : (pc : Int) + off = (tgt : Int)) (h1 : (-2147483648 ≤ x ∧ x ≤ 2147483647))  (kt : 0 ≤ x → zZ X n cs ss σ tgt lv st) (kf : ¬ 0 ≤ x → zZ X n cs ss σ pc' lv st) : zZ X n cs ss σ pc lv (.int (zI x) :: st) := by
  subst hp
  obtain ⟨E, p, l, e, R, s, m, args, below, meth, c, Q, nL⟩ := X
  obtain ⟨hx, hb, -⟩ := hX
  intro H locs ls hG hS hl
  have e : zI 0 ≤ zI x ↔ 0 ≤ x := zI_le (by omega) h1
  rw [zI_0] at e
  first
  | exact lv_if_ge hx hb hd ht (fun q => kt (e.mp q) H locs ls hG hS hl) (fun q => kf (fun z => q (e.mpr z)) H locs ls hG hS hl)
  | exact lv_if_ge hx hb hd ht (fun q => kt (fun z => q (e.mpr z)) H locs ls hG hS hl) (fun q => kf (e.mp q) H locs ls hG hS hl)
  | exact lv_if_ge hx hb hd ht (fun q => kt (fun z => q (e.mpr z)) H locs ls hG hS hl) (fun q => kf (e.mp (Classical.byContradiction q)) H locs ls hG hS hl)
theorem zt_icge {X : zCX} {cc : ByteArray} {own : String} {d n cs ss pc pc' : Nat} {σ : zSto} {lv : List (Option Value)} {st : List Value} {x y off : Int} {tgt : Nat} (hX : zok X cc own d) (hd : decode cc pc = .ok (.if_icmp .ge off, 3)) (hp : pc + 3 = pc') (ht : (pc : Int) + off = (tgt : Int)) (h1 : (-2147483648 ≤ x ∧ x ≤ 2147483647)) (h2 : (-2147483648 ≤ y ∧ y ≤ 2147483647)) (kt : y ≤ x → zZ X n cs ss σ tgt lv st) (kf : ¬ y ≤ x → zZ X n cs ss σ pc' lv st) : zZ X n cs ss σ pc lv (.int (zI y) :: .int (zI x) :: st) := by
  subst hp
  obtain ⟨E, p, l, e, R, s, m, args, below, meth, c, Q, nL⟩ := X
  obtain ⟨hx, hb, -⟩ := hX
  intro H locs ls hG hS hl
  have e : zI y ≤ zI x ↔ y ≤ x := zI_le h2 h1
  first
  | exact lv_icmp_ge hx hb hd ht (fun q => kt (e.mp q) H locs ls hG hS hl) (fun q => kf (fun z => q (e.mpr z)) H locs ls hG hS hl)
  | exact lv_icmp_ge hx hb hd ht (fun q => kt (fun z => q (e.mpr z)) H locs ls hG hS hl) (fun q => kf (e.mp q) H locs ls hG hS hl)
  | exact lv_icmp_ge hx hb hd ht (fun q => kt (fun z => q (e.mpr z)) H locs ls hG hS hl) (fun q => kf (e.mp (Classical.byContradiction q)) H locs ls hG hS hl)
theorem zt_ifgt {X : zCX} {cc : ByteArray} {own : String} {d n cs ss pc pc' : Nat} {σ : zSto} {lv : List (Option Value)} {st : List Value} {x off : Int} {tgt : Nat} (hX : zok X cc own d) (hd : decode cc pc = .ok (.ifCond .gt off, 3)) (hp : pc + 3 = pc') (ht : (pc : Int) + off = (tgt : Int)) (h1 : (-2147483648 ≤ x ∧ x ≤ 2147483647))  (kt : 0 < x → zZ X n cs ss σ tgt lv st) (kf : ¬ 0 < x → zZ X n cs ss σ pc' lv st) : zZ X n cs ss σ pc lv (.int (zI x) :: st) := by
  subst hp
  obtain ⟨E, p, l, e, R, s, m, args, below, meth, c, Q, nL⟩ := X
  obtain ⟨hx, hb, -⟩ := hX
  intro H locs ls hG hS hl
  have e : zI 0 < zI x ↔ 0 < x := zI_lt (by omega) h1
  rw [zI_0] at e
  first
  | exact lv_if_gt hx hb hd ht (fun q => kt (e.mp q) H locs ls hG hS hl) (fun q => kf (fun z => q (e.mpr z)) H locs ls hG hS hl)
  | exact lv_if_gt hx hb hd ht (fun q => kt (fun z => q (e.mpr z)) H locs ls hG hS hl) (fun q => kf (e.mp q) H locs ls hG hS hl)
  | exact lv_if_gt hx hb hd ht (fun q => kt (fun z => q (e.mpr z)) H locs ls hG hS hl) (fun q => kf (e.mp (Classical.byContradiction q)) H locs ls hG hS hl)
theorem zt_icgt {X : zCX} {cc : ByteArray} {own : String} {d n cs ss pc pc' : Nat} {σ : zSto} {lv : List (Option Value)} {st : List Value} {x y off : Int} {tgt : Nat} (hX : zok X cc own d) (hd : decode cc pc = .ok (.if_icmp .gt off, 3)) (hp : pc + 3 = pc') (ht : (pc : Int) + off = (tgt : Int)) (h1 : (-2147483648 ≤ x ∧ x ≤ 2147483647)) (h2 : (-2147483648 ≤ y ∧ y ≤ 2147483647)) (kt : y < x → zZ X n cs ss σ tgt lv st) (kf : ¬ y < x → zZ X n cs ss σ pc' lv st) : zZ X n cs ss σ pc lv (.int (zI y) :: .int (zI x) :: st) := by
  subst hp
  obtain ⟨E, p, l, e, R, s, m, args, below, meth, c, Q, nL⟩ := X
  obtain ⟨hx, hb, -⟩ := hX
  intro H locs ls hG hS hl
  have e : zI y < zI x ↔ y < x := zI_lt h2 h1
  first
  | exact lv_icmp_gt hx hb hd ht (fun q => kt (e.mp q) H locs ls hG hS hl) (fun q => kf (fun z => q (e.mpr z)) H locs ls hG hS hl)
  | exact lv_icmp_gt hx hb hd ht (fun q => kt (fun z => q (e.mpr z)) H locs ls hG hS hl) (fun q => kf (e.mp q) H locs ls hG hS hl)
  | exact lv_icmp_gt hx hb hd ht (fun q => kt (fun z => q (e.mpr z)) H locs ls hG hS hl) (fun q => kf (e.mp (Classical.byContradiction q)) H locs ls hG hS hl)
theorem zt_ifle {X : zCX} {cc : ByteArray} {own : String} {d n cs ss pc pc' : Nat} {σ : zSto} {lv : List (Option Value)} {st : List Value} {x off : Int} {tgt : Nat} (hX : zok X cc own d) (hd : decode cc pc = .ok (.ifCond .le off, 3)) (hp : pc + 3 = pc') (ht : (pc : Int) + off = (tgt : Int)) (h1 : (-2147483648 ≤ x ∧ x ≤ 2147483647))  (kt : x ≤ 0 → zZ X n cs ss σ tgt lv st) (kf : ¬ x ≤ 0 → zZ X n cs ss σ pc' lv st) : zZ X n cs ss σ pc lv (.int (zI x) :: st) := by
  subst hp
  obtain ⟨E, p, l, e, R, s, m, args, below, meth, c, Q, nL⟩ := X
  obtain ⟨hx, hb, -⟩ := hX
  intro H locs ls hG hS hl
  have e : zI x ≤ zI 0 ↔ x ≤ 0 := zI_le h1 (by omega)
  rw [zI_0] at e
  first
  | exact lv_if_le hx hb hd ht (fun q => kt (e.mp q) H locs ls hG hS hl) (fun q => kf (fun z => q (e.mpr z)) H locs ls hG hS hl)
  | exact lv_if_le hx hb hd ht (fun q => kt (fun z => q (e.mpr z)) H locs ls hG hS hl) (fun q => kf (e.mp q) H locs ls hG hS hl)
  | exact lv_if_le hx hb hd ht (fun q => kt (fun z => q (e.mpr z)) H locs ls hG hS hl) (fun q => kf (e.mp (Classical.byContradiction q)) H locs ls hG hS hl)
theorem zt_icle {X : zCX} {cc : ByteArray} {own : String} {d n cs ss pc pc' : Nat} {σ : zSto} {lv : List (Option Value)} {st : List Value} {x y off : Int} {tgt : Nat} (hX : zok X cc own d) (hd : decode cc pc = .ok (.if_icmp .le off, 3)) (hp : pc + 3 = pc') (ht : (pc : Int) + off = (tgt : Int)) (h1 : (-2147483648 ≤ x ∧ x ≤ 2147483647)) (h2 : (-2147483648 ≤ y ∧ y ≤ 2147483647)) (kt : x ≤ y → zZ X n cs ss σ tgt lv st) (kf : ¬ x ≤ y → zZ X n cs ss σ pc' lv st) : zZ X n cs ss σ pc lv (.int (zI y) :: .int (zI x) :: st) := by
  subst hp
  obtain ⟨E, p, l, e, R, s, m, args, below, meth, c, Q, nL⟩ := X
  obtain ⟨hx, hb, -⟩ := hX
  intro H locs ls hG hS hl
  have e : zI x ≤ zI y ↔ x ≤ y := zI_le h1 h2
  first
  | exact lv_icmp_le hx hb hd ht (fun q => kt (e.mp q) H locs ls hG hS hl) (fun q => kf (fun z => q (e.mpr z)) H locs ls hG hS hl)
  | exact lv_icmp_le hx hb hd ht (fun q => kt (fun z => q (e.mpr z)) H locs ls hG hS hl) (fun q => kf (e.mp q) H locs ls hG hS hl)
  | exact lv_icmp_le hx hb hd ht (fun q => kt (fun z => q (e.mpr z)) H locs ls hG hS hl) (fun q => kf (e.mp (Classical.byContradiction q)) H locs ls hG hS hl)
theorem zt_goto {X : zCX} {cc : ByteArray} {own : String} {d n cs ss pc : Nat} {σ : zSto} {lv : List (Option Value)} {st : List Value} {off : Int} {tgt : Nat} (hX : zok X cc own d) (hd : decode cc pc = .ok (.goto off, 3)) (ht : (pc : Int) + off = (tgt : Int)) (k : zZ X n cs ss σ tgt lv st) : zZ X n cs ss σ pc lv st := by
  obtain ⟨E, p, l, e, R, s, m, args, below, meth, c, Q, nL⟩ := X
  obtain ⟨hx, hb, -⟩ := hX
  intro H locs ls hG hS hl
  exact lv_goto hx hb hd ht (k H locs ls hG hS hl)
theorem zt_tsIn {X : zCX} {cc : ByteArray} {own : String} {d n cs ss pc : Nat} {σ : zSto} {lv : List (Option Value)} {st : List Value} {x v lo hi dflt off : Int} {offs : Array Int} {len tgt : Nat} (hX : zok X cc own d) (hd : decode cc pc = .ok (.tableswitch dflt lo hi offs, len)) (hv : x = v) (hr : -2147483648 ≤ v ∧ v ≤ 2147483647) (h1 : ¬ v < lo) (h2 : ¬ hi < v) (ho : offs[(v - lo).toNat]? = some off) (ht : (pc : Int) + off = (tgt : Int)) (k : zZ X n cs ss σ tgt lv st) : zZ X n cs ss σ pc lv (.int (zI x) :: st) := by
  subst hv
  obtain ⟨E, p, l, e, R, s, m, args, below, meth, c, Q, nL⟩ := X
  obtain ⟨hx, hb, -⟩ := hX
  intro H locs ls hG hS hl
  have e := zI_t hr.1 hr.2
  exact lv_tableIn hx hb hd (by rw [e]; exact h1) (by rw [e]; exact h2) (by rw [e]; exact ho) ht (k H locs ls hG hS hl)
theorem zt_tsOut {X : zCX} {cc : ByteArray} {own : String} {d n cs ss pc : Nat} {σ : zSto} {lv : List (Option Value)} {st : List Value} {x lo hi dflt : Int} {offs : Array Int} {len tgt : Nat} (hX : zok X cc own d) (hd : decode cc pc = .ok (.tableswitch dflt lo hi offs, len)) (hr : -2147483648 ≤ x ∧ x ≤ 2147483647) (h : x < lo ∨ hi < x) (ht : (pc : Int) + dflt = (tgt : Int)) (k : zZ X n cs ss σ tgt lv st) : zZ X n cs ss σ pc lv (.int (zI x) :: st) := by
  obtain ⟨E, p, l, e, R, s, m, args, below, meth, c, Q, nL⟩ := X
  obtain ⟨hx, hb, -⟩ := hX
  intro H locs ls hG hS hl
  have e := zI_t hr.1 hr.2
  exact lv_tableOut hx hb hd (by rw [e]; exact h) ht (k H locs ls hG hS hl)
theorem zt_look {X : zCX} {cc : ByteArray} {own : String} {d n cs ss pc : Nat} {σ : zSto} {lv : List (Option Value)} {st : List Value} {x dflt off : Int} {ps : Array (Int × Int)} {len tgt : Nat} (hX : zok X cc own d) (hd : decode cc pc = .ok (.lookupswitch dflt ps, len)) (hr : -2147483648 ≤ x ∧ x ≤ 2147483647) (hs : (ps.toList.zip (ps.toList.drop 1)).all (fun (a, next) => a.1 < next.1) = true) (ho : Op.lookupswitch.offset ps.toList dflt x = off) (ht : (pc : Int) + off = (tgt : Int)) (k : zZ X n cs ss σ tgt lv st) : zZ X n cs ss σ pc lv (.int (zI x) :: st) := by
  obtain ⟨E, p, l, e, R, s, m, args, below, meth, c, Q, nL⟩ := X
  obtain ⟨hx, hb, -⟩ := hX
  intro H locs ls hG hS hl
  have e := zI_t hr.1 hr.2
  exact lv_lookup hx hb hd hs (by rw [e]; exact ho) ht (k H locs ls hG hS hl)
theorem zt_ldc {X : zCX} {cc : ByteArray} {own : String} {d n cs ss pc pc' : Nat} {σ : zSto} {lv : List (Option Value)} {st : List Value} {idx : Nat} {v : Int32} {x : Int} (hX : zok X cc own d) (hd : decode cc pc = .ok (.ldc idx, 2)) (hp : pc + 2 = pc') (hw : Cond.constant own idx v ∈ wsL_law) (hv : v = zI x) (k : zZ X n cs ss σ pc' lv (.int (zI x) :: st)) : zZ X n cs ss σ pc lv st := by
  subst hp
  subst hv
  obtain ⟨E, p, l, e, R, s, m, args, below, meth, c, Q, nL⟩ := X
  obtain ⟨hx, hb, -, ho, ⟨w0, ht⟩, -⟩ := hX
  intro H locs ls hG hS hl
  exact lv_ldc hx hb ho (ht _ (List.mem_cons_of_mem _ hw)) hd (k H locs ls hG hS hl)
theorem zt_ldcw {X : zCX} {cc : ByteArray} {own : String} {d n cs ss pc pc' : Nat} {σ : zSto} {lv : List (Option Value)} {st : List Value} {idx : Nat} {v : Int32} {x : Int} (hX : zok X cc own d) (hd : decode cc pc = .ok (.ldc_w idx, 3)) (hp : pc + 3 = pc') (hw : Cond.constant own idx v ∈ wsL_law) (hv : v = zI x) (k : zZ X n cs ss σ pc' lv (.int (zI x) :: st)) : zZ X n cs ss σ pc lv st := by
  subst hp
  subst hv
  obtain ⟨E, p, l, e, R, s, m, args, below, meth, c, Q, nL⟩ := X
  obtain ⟨hx, hb, -, ho, ⟨w0, ht⟩, -⟩ := hX
  intro H locs ls hG hS hl
  exact lv_ldcw hx hb ho (ht _ (List.mem_cons_of_mem _ hw)) hd (k H locs ls hG hS hl)
theorem zt_ldc2 {X : zCX} {cc : ByteArray} {own : String} {d n cs ss pc pc' : Nat} {σ : zSto} {lv : List (Option Value)} {st : List Value} {idx : Nat} {v : Int64} {x : Int} (hX : zok X cc own d) (hd : decode cc pc = .ok (.ldc2_w idx, 3)) (hp : pc + 3 = pc') (hw : Cond.constantLong own idx v ∈ wsL_law) (hv : v = zJ x) (k : zZ X n cs ss σ pc' lv (.long (zJ x) :: st)) : zZ X n cs ss σ pc lv st := by
  subst hp
  subst hv
  obtain ⟨E, p, l, e, R, s, m, args, below, meth, c, Q, nL⟩ := X
  obtain ⟨hx, hb, -, ho, ⟨w0, ht⟩, -⟩ := hX
  intro H locs ls hG hS hl
  exact lv_ldc2 hx hb ho (ht _ (List.mem_cons_of_mem _ hw)) hd (k H locs ls hG hS hl)
