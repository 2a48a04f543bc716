/-! decode rows by opcode: bytes are looked up once for some hundred places, an opcode's row is proved once -/
def ydB (c : ByteArray) (p b : Nat) : Prop := ∃ h : p < c.size, (c[p]'h).toNat = b
def ydk (c : ByteArray) (n : Nat) (l : List Nat) : Bool := decide (((c.data.toList.drop n).take l.length).map UInt8.toNat = l)
theorem yd_at {c : ByteArray} {n p i b : Nat} {l : List Nat} (h : ydk c n l = true) (hi : l[i]? = some b) (hp : n + i = p) : ydB c p b := by
  subst hp
  have e : ((c.data.toList.drop n).take l.length).map UInt8.toNat = l := of_decide_eq_true h
  have hi' : (((c.data.toList.drop n).take l.length).map UInt8.toNat)[i]? = some b := by rw [e]; exact hi
  rw [List.getElem?_map] at hi'
  obtain ⟨y, hy, hb⟩ := Option.map_eq_some_iff.mp hi'
  rw [List.getElem?_take] at hy
  split at hy
  · rw [List.getElem?_drop, Array.getElem?_toList] at hy
    obtain ⟨h1, h2⟩ := Array.getElem?_eq_some_iff.mp hy
    exact ⟨h1, by rw [← hb, ← h2]; rfl⟩
  · cases hy
theorem yd_rb {α β : Type} {r : Decoder α} {k : α → Decoder β} {c : ByteArray} {p q : Nat} {a : α} (h : Reader.runAt r c p = .ok (a, q)) : Reader.runAt (r >>= k) c p = Reader.runAt (k a) c q := by
  have h' : r c p = Except.ok (a, q) := h
  show (bind (r c p) fun (x : α × Nat) => k x.1 c x.2 : Except DecodeError (β × Nat)) = k a c q
  rw [h']
  rfl
theorem yd_u1 {c : ByteArray} {p b : Nat} (h : ydB c p b) : Reader.runAt (Reader.u1 : Decoder Nat) c p = .ok (b, p + 1) := by
  obtain ⟨h1, h2⟩ := h
  subst h2
  show (if h : p < c.size then (do set (p + 1); pure c[p].toNat : Decoder Nat) else throw (HasTruncated.truncated p)) c p = _
  rw [dif_pos h1]
  rfl
theorem yd_u2 {c : ByteArray} {p a b : Nat} (h1 : ydB c p a) (h2 : ydB c (p + 1) b) : Reader.runAt (Reader.u2 : Decoder Nat) c p = .ok (a * 256 + b, p + 2) := by
  refine (yd_rb (yd_u1 h1)).trans ?_
  refine (yd_rb (yd_u1 h2)).trans ?_
  rfl
theorem yd_s1 {c : ByteArray} {p a : Nat} (h1 : ydB c p a) : Reader.runAt (Reader.s1 : Decoder Int) c p = .ok (Reader.signed 8 a, p + 1) := by
  have e : (Reader.s1 : Decoder Int) = (Reader.u1 >>= fun x => pure (Reader.signed 8 x)) := rfl
  rw [e]
  exact yd_rb (yd_u1 h1)
theorem yd_s2 {c : ByteArray} {p a b : Nat} (h1 : ydB c p a) (h2 : ydB c (p + 1) b) : Reader.runAt (Reader.s2 : Decoder Int) c p = .ok (Reader.signed 16 (a * 256 + b), p + 2) := by
  have e : (Reader.s2 : Decoder Int) = (Reader.u2 >>= fun x => pure (Reader.signed 16 x)) := rfl
  rw [e]
  exact yd_rb (yd_u2 h1 h2)
theorem yd_dc {c : ByteArray} {pc q : Nat} {i : Instr} (h : Reader.runAt (Decoder.instr pc) c pc = .ok (i, pc + q)) : decode c pc = .ok (i, q) := by
  unfold decode
  rw [h]
  show Except.ok (i, pc + q - pc) = _
  rw [Nat.add_sub_cancel_left]
theorem yd_f0 {c : ByteArray} {pc o : Nat} {K : Nat → Decoder Instr} {i : Instr} (hK : Decoder.instr pc = (Reader.u1 >>= K)) (h : ydB c pc o) (e : K o = (Pure.pure i : Decoder Instr)) : decode c pc = .ok (i, 1) := by
  refine yd_dc ?_
  rw [hK, yd_rb (yd_u1 h), e]
  rfl
theorem yd_fu1 {c : ByteArray} {pc o a : Nat} {K : Nat → Decoder Instr} {f : Nat → Instr} (hK : Decoder.instr pc = (Reader.u1 >>= K)) (h : ydB c pc o) (h1 : ydB c (pc + 1) a) (e : K o = (Reader.u1 >>= fun y => pure (f y))) : decode c pc = .ok (f a, 2) := by
  refine yd_dc ?_
  rw [hK, yd_rb (yd_u1 h), e, yd_rb (yd_u1 h1)]
  rfl
theorem yd_fu2 {c : ByteArray} {pc o a b : Nat} {K : Nat → Decoder Instr} {f : Nat → Instr} (hK : Decoder.instr pc = (Reader.u1 >>= K)) (h : ydB c pc o) (h1 : ydB c (pc + 1) a) (h2 : ydB c (pc + 1 + 1) b) (e : K o = (Reader.u2 >>= fun y => pure (f y))) : decode c pc = .ok (f (a * 256 + b), 3) := by
  refine yd_dc ?_
  rw [hK, yd_rb (yd_u1 h), e, yd_rb (yd_u2 h1 h2)]
  rfl
theorem yd_fs1 {c : ByteArray} {pc o a : Nat} {K : Nat → Decoder Instr} {f : Int → Instr} (hK : Decoder.instr pc = (Reader.u1 >>= K)) (h : ydB c pc o) (h1 : ydB c (pc + 1) a) (e : K o = (Reader.s1 >>= fun y => pure (f y))) : decode c pc = .ok (f (Reader.signed 8 a), 2) := by
  refine yd_dc ?_
  rw [hK, yd_rb (yd_u1 h), e, yd_rb (yd_s1 h1)]
  rfl
theorem yd_fs2 {c : ByteArray} {pc o a b : Nat} {K : Nat → Decoder Instr} {f : Int → Instr} (hK : Decoder.instr pc = (Reader.u1 >>= K)) (h : ydB c pc o) (h1 : ydB c (pc + 1) a) (h2 : ydB c (pc + 1 + 1) b) (e : K o = (Reader.s2 >>= fun y => pure (f y))) : decode c pc = .ok (f (Reader.signed 16 (a * 256 + b)), 3) := by
  refine yd_dc ?_
  rw [hK, yd_rb (yd_u1 h), e, yd_rb (yd_s2 h1 h2)]
  rfl
theorem yd_fus {c : ByteArray} {pc o a b : Nat} {K : Nat → Decoder Instr} {f : Nat → Int → Instr} (hK : Decoder.instr pc = (Reader.u1 >>= K)) (h : ydB c pc o) (h1 : ydB c (pc + 1) a) (h2 : ydB c (pc + 1 + 1) b) (e : K o = (Reader.u1 >>= fun x => Reader.s1 >>= fun y => pure (f x y))) : decode c pc = .ok (f a (Reader.signed 8 b), 3) := by
  refine yd_dc ?_
  rw [hK, yd_rb (yd_u1 h), e, yd_rb (yd_u1 h1), yd_rb (yd_s1 h2)]
  rfl
theorem yd_g {c : ByteArray} {n i p : Nat} {l r : List Nat} {m : Nat} (h : ydk c n l = true) (hi : (l.drop i).take m = r) (hp : n + i = p) (j v : Nat) (hj : r[j]? = some v) : ydB c (p + j) v := by
  rw [← hi, List.getElem?_take] at hj
  split at hj
  · rw [List.getElem?_drop] at hj
    exact yd_at h hj (by omega)
  · cases hj
theorem yd_fb {c : ByteArray} {pc o a : Nat} {K J : Nat → Decoder Instr} {i : Instr} (hK : Decoder.instr pc = (Reader.u1 >>= K)) (h : ydB c pc o) (h1 : ydB c (pc + 1) a) (e : K o = (Reader.u1 >>= J)) (e2 : J a = (Pure.pure i : Decoder Instr)) : decode c pc = .ok (i, 2) := by
  refine yd_dc ?_
  rw [hK, yd_rb (yd_u1 h), e, yd_rb (yd_u1 h1), e2]
  rfl
theorem yd_op_42 {c : ByteArray} {pc n i : Nat} {l : List Nat} (h : ydk c n l = true) (hi : (l.drop i).take 1 = [42]) (hp : n + i = pc) : decode c pc = .ok (.aload_n 0, 1) := yd_f0 rfl (yd_g h hi hp 0 _ rfl) rfl
theorem yd_op_180 {c : ByteArray} {pc n i a b : Nat} {l : List Nat} (h : ydk c n l = true) (hi : (l.drop i).take 3 = [180, a, b]) (hp : n + i = pc) : decode c pc = .ok (.getfield (a * 256 + b), 3) := yd_fu2 (f := fun y => .getfield y) rfl (yd_g h hi hp 0 _ rfl) (yd_g h hi hp 1 _ rfl) (yd_g h hi hp 2 _ rfl) rfl
theorem yd_op_190 {c : ByteArray} {pc n i : Nat} {l : List Nat} (h : ydk c n l = true) (hi : (l.drop i).take 1 = [190]) (hp : n + i = pc) : decode c pc = .ok (.arraylength, 1) := yd_f0 rfl (yd_g h hi hp 0 _ rfl) rfl
theorem yd_op_182 {c : ByteArray} {pc n i a b : Nat} {l : List Nat} (h : ydk c n l = true) (hi : (l.drop i).take 3 = [182, a, b]) (hp : n + i = pc) : decode c pc = .ok (.invokevirtual (a * 256 + b), 3) := yd_fu2 (f := fun y => .invokevirtual y) rfl (yd_g h hi hp 0 _ rfl) (yd_g h hi hp 1 _ rfl) (yd_g h hi hp 2 _ rfl) rfl
theorem yd_op_122 {c : ByteArray} {pc n i : Nat} {l : List Nat} (h : ydk c n l = true) (hi : (l.drop i).take 1 = [122]) (hp : n + i = pc) : decode c pc = .ok (.ishr, 1) := yd_f0 rfl (yd_g h hi hp 0 _ rfl) rfl
theorem yd_op_172 {c : ByteArray} {pc n i : Nat} {l : List Nat} (h : ydk c n l = true) (hi : (l.drop i).take 1 = [172]) (hp : n + i = pc) : decode c pc = .ok (.ireturn, 1) := yd_f0 rfl (yd_g h hi hp 0 _ rfl) rfl
theorem yd_op_153 {c : ByteArray} {pc n i a b : Nat} {l : List Nat} (h : ydk c n l = true) (hi : (l.drop i).take 3 = [153, a, b]) (hp : n + i = pc) : decode c pc = .ok (.ifCond .eq (Reader.signed 16 (a * 256 + b)), 3) := yd_fs2 (f := fun y => .ifCond .eq y) rfl (yd_g h hi hp 0 _ rfl) (yd_g h hi hp 1 _ rfl) (yd_g h hi hp 2 _ rfl) rfl
theorem yd_op_27 {c : ByteArray} {pc n i : Nat} {l : List Nat} (h : ydk c n l = true) (hi : (l.drop i).take 1 = [27]) (hp : n + i = pc) : decode c pc = .ok (.iload_n 1, 1) := yd_f0 rfl (yd_g h hi hp 0 _ rfl) rfl
theorem yd_op_184 {c : ByteArray} {pc n i a b : Nat} {l : List Nat} (h : ydk c n l = true) (hi : (l.drop i).take 3 = [184, a, b]) (hp : n + i = pc) : decode c pc = .ok (.invokestatic (a * 256 + b), 3) := yd_fu2 (f := fun y => .invokestatic y) rfl (yd_g h hi hp 0 _ rfl) (yd_g h hi hp 1 _ rfl) (yd_g h hi hp 2 _ rfl) rfl
theorem yd_op_178 {c : ByteArray} {pc n i a b : Nat} {l : List Nat} (h : ydk c n l = true) (hi : (l.drop i).take 3 = [178, a, b]) (hp : n + i = pc) : decode c pc = .ok (.getstatic (a * 256 + b), 3) := yd_fu2 (f := fun y => .getstatic y) rfl (yd_g h hi hp 0 _ rfl) (yd_g h hi hp 1 _ rfl) (yd_g h hi hp 2 _ rfl) rfl
theorem yd_op_167 {c : ByteArray} {pc n i a b : Nat} {l : List Nat} (h : ydk c n l = true) (hi : (l.drop i).take 3 = [167, a, b]) (hp : n + i = pc) : decode c pc = .ok (.goto (Reader.signed 16 (a * 256 + b)), 3) := yd_fs2 (f := fun y => .goto y) rfl (yd_g h hi hp 0 _ rfl) (yd_g h hi hp 1 _ rfl) (yd_g h hi hp 2 _ rfl) rfl
theorem yd_op_4 {c : ByteArray} {pc n i : Nat} {l : List Nat} (h : ydk c n l = true) (hi : (l.drop i).take 1 = [4]) (hp : n + i = pc) : decode c pc = .ok (.iconst 1, 1) := yd_f0 rfl (yd_g h hi hp 0 _ rfl) rfl
theorem yd_op_154 {c : ByteArray} {pc n i a b : Nat} {l : List Nat} (h : ydk c n l = true) (hi : (l.drop i).take 3 = [154, a, b]) (hp : n + i = pc) : decode c pc = .ok (.ifCond .ne (Reader.signed 16 (a * 256 + b)), 3) := yd_fs2 (f := fun y => .ifCond .ne y) rfl (yd_g h hi hp 0 _ rfl) (yd_g h hi hp 1 _ rfl) (yd_g h hi hp 2 _ rfl) rfl
theorem yd_op_3 {c : ByteArray} {pc n i : Nat} {l : List Nat} (h : ydk c n l = true) (hi : (l.drop i).take 1 = [3]) (hp : n + i = pc) : decode c pc = .ok (.iconst 0, 1) := yd_f0 rfl (yd_g h hi hp 0 _ rfl) rfl
theorem yd_op_26 {c : ByteArray} {pc n i : Nat} {l : List Nat} (h : ydk c n l = true) (hi : (l.drop i).take 1 = [26]) (hp : n + i = pc) : decode c pc = .ok (.iload_n 0, 1) := yd_f0 rfl (yd_g h hi hp 0 _ rfl) rfl
theorem yd_op_87 {c : ByteArray} {pc n i : Nat} {l : List Nat} (h : ydk c n l = true) (hi : (l.drop i).take 1 = [87]) (hp : n + i = pc) : decode c pc = .ok (.pop, 1) := yd_f0 rfl (yd_g h hi hp 0 _ rfl) rfl
theorem yd_op_177 {c : ByteArray} {pc n i : Nat} {l : List Nat} (h : ydk c n l = true) (hi : (l.drop i).take 1 = [177]) (hp : n + i = pc) : decode c pc = .ok (.return_, 1) := yd_f0 rfl (yd_g h hi hp 0 _ rfl) rfl
theorem yd_op_51 {c : ByteArray} {pc n i : Nat} {l : List Nat} (h : ydk c n l = true) (hi : (l.drop i).take 1 = [51]) (hp : n + i = pc) : decode c pc = .ok (.baload, 1) := yd_f0 rfl (yd_g h hi hp 0 _ rfl) rfl
theorem yd_op_17 {c : ByteArray} {pc n i a b : Nat} {l : List Nat} (h : ydk c n l = true) (hi : (l.drop i).take 3 = [17, a, b]) (hp : n + i = pc) : decode c pc = .ok (.sipush (Reader.signed 16 (a * 256 + b)), 3) := yd_fs2 (f := fun y => .sipush y) rfl (yd_g h hi hp 0 _ rfl) (yd_g h hi hp 1 _ rfl) (yd_g h hi hp 2 _ rfl) rfl
theorem yd_op_126 {c : ByteArray} {pc n i : Nat} {l : List Nat} (h : ydk c n l = true) (hi : (l.drop i).take 1 = [126]) (hp : n + i = pc) : decode c pc = .ok (.iand, 1) := yd_f0 rfl (yd_g h hi hp 0 _ rfl) rfl
theorem yd_op_146 {c : ByteArray} {pc n i : Nat} {l : List Nat} (h : ydk c n l = true) (hi : (l.drop i).take 1 = [146]) (hp : n + i = pc) : decode c pc = .ok (.i2c, 1) := yd_f0 rfl (yd_g h hi hp 0 _ rfl) rfl
theorem yd_op_30 {c : ByteArray} {pc n i : Nat} {l : List Nat} (h : ydk c n l = true) (hi : (l.drop i).take 1 = [30]) (hp : n + i = pc) : decode c pc = .ok (.lload_n 0, 1) := yd_f0 rfl (yd_g h hi hp 0 _ rfl) rfl
theorem yd_op_125 {c : ByteArray} {pc n i : Nat} {l : List Nat} (h : ydk c n l = true) (hi : (l.drop i).take 1 = [125]) (hp : n + i = pc) : decode c pc = .ok (.lushr, 1) := yd_f0 rfl (yd_g h hi hp 0 _ rfl) rfl
theorem yd_op_20 {c : ByteArray} {pc n i a b : Nat} {l : List Nat} (h : ydk c n l = true) (hi : (l.drop i).take 3 = [20, a, b]) (hp : n + i = pc) : decode c pc = .ok (.ldc2_w (a * 256 + b), 3) := yd_fu2 (f := fun y => .ldc2_w y) rfl (yd_g h hi hp 0 _ rfl) (yd_g h hi hp 1 _ rfl) (yd_g h hi hp 2 _ rfl) rfl
theorem yd_op_127 {c : ByteArray} {pc n i : Nat} {l : List Nat} (h : ydk c n l = true) (hi : (l.drop i).take 1 = [127]) (hp : n + i = pc) : decode c pc = .ok (.land, 1) := yd_f0 rfl (yd_g h hi hp 0 _ rfl) rfl
theorem yd_op_101 {c : ByteArray} {pc n i : Nat} {l : List Nat} (h : ydk c n l = true) (hi : (l.drop i).take 1 = [101]) (hp : n + i = pc) : decode c pc = .ok (.lsub, 1) := yd_f0 rfl (yd_g h hi hp 0 _ rfl) rfl
theorem yd_op_63 {c : ByteArray} {pc n i : Nat} {l : List Nat} (h : ydk c n l = true) (hi : (l.drop i).take 1 = [63]) (hp : n + i = pc) : decode c pc = .ok (.lstore_n 0, 1) := yd_f0 rfl (yd_g h hi hp 0 _ rfl) rfl
theorem yd_op_5 {c : ByteArray} {pc n i : Nat} {l : List Nat} (h : ydk c n l = true) (hi : (l.drop i).take 1 = [5]) (hp : n + i = pc) : decode c pc = .ok (.iconst 2, 1) := yd_f0 rfl (yd_g h hi hp 0 _ rfl) rfl
theorem yd_op_97 {c : ByteArray} {pc n i : Nat} {l : List Nat} (h : ydk c n l = true) (hi : (l.drop i).take 1 = [97]) (hp : n + i = pc) : decode c pc = .ok (.ladd, 1) := yd_f0 rfl (yd_g h hi hp 0 _ rfl) rfl
theorem yd_op_7 {c : ByteArray} {pc n i : Nat} {l : List Nat} (h : ydk c n l = true) (hi : (l.drop i).take 1 = [7]) (hp : n + i = pc) : decode c pc = .ok (.iconst 4, 1) := yd_f0 rfl (yd_g h hi hp 0 _ rfl) rfl
theorem yd_op_16 {c : ByteArray} {pc n i a : Nat} {l : List Nat} (h : ydk c n l = true) (hi : (l.drop i).take 2 = [16, a]) (hp : n + i = pc) : decode c pc = .ok (.bipush (Reader.signed 8 a), 2) := yd_fs1 (f := fun y => .bipush y) rfl (yd_g h hi hp 0 _ rfl) (yd_g h hi hp 1 _ rfl) rfl
theorem yd_op_136 {c : ByteArray} {pc n i : Nat} {l : List Nat} (h : ydk c n l = true) (hi : (l.drop i).take 1 = [136]) (hp : n + i = pc) : decode c pc = .ok (.l2i, 1) := yd_f0 rfl (yd_g h hi hp 0 _ rfl) rfl
theorem yd_op_155 {c : ByteArray} {pc n i a b : Nat} {l : List Nat} (h : ydk c n l = true) (hi : (l.drop i).take 3 = [155, a, b]) (hp : n + i = pc) : decode c pc = .ok (.ifCond .lt (Reader.signed 16 (a * 256 + b)), 3) := yd_fs2 (f := fun y => .ifCond .lt y) rfl (yd_g h hi hp 0 _ rfl) (yd_g h hi hp 1 _ rfl) (yd_g h hi hp 2 _ rfl) rfl
theorem yd_op_161 {c : ByteArray} {pc n i a b : Nat} {l : List Nat} (h : ydk c n l = true) (hi : (l.drop i).take 3 = [161, a, b]) (hp : n + i = pc) : decode c pc = .ok (.if_icmp .lt (Reader.signed 16 (a * 256 + b)), 3) := yd_fs2 (f := fun y => .if_icmp .lt y) rfl (yd_g h hi hp 0 _ rfl) (yd_g h hi hp 1 _ rfl) (yd_g h hi hp 2 _ rfl) rfl
theorem yd_op_187 {c : ByteArray} {pc n i a b : Nat} {l : List Nat} (h : ydk c n l = true) (hi : (l.drop i).take 3 = [187, a, b]) (hp : n + i = pc) : decode c pc = .ok (.new (a * 256 + b), 3) := yd_fu2 (f := fun y => .new y) rfl (yd_g h hi hp 0 _ rfl) (yd_g h hi hp 1 _ rfl) (yd_g h hi hp 2 _ rfl) rfl
theorem yd_op_89 {c : ByteArray} {pc n i : Nat} {l : List Nat} (h : ydk c n l = true) (hi : (l.drop i).take 1 = [89]) (hp : n + i = pc) : decode c pc = .ok (.dup, 1) := yd_f0 rfl (yd_g h hi hp 0 _ rfl) rfl
theorem yd_op_18 {c : ByteArray} {pc n i a : Nat} {l : List Nat} (h : ydk c n l = true) (hi : (l.drop i).take 2 = [18, a]) (hp : n + i = pc) : decode c pc = .ok (.ldc a, 2) := yd_fu1 (f := fun y => .ldc y) rfl (yd_g h hi hp 0 _ rfl) (yd_g h hi hp 1 _ rfl) rfl
theorem yd_op_183 {c : ByteArray} {pc n i a b : Nat} {l : List Nat} (h : ydk c n l = true) (hi : (l.drop i).take 3 = [183, a, b]) (hp : n + i = pc) : decode c pc = .ok (.invokespecial (a * 256 + b), 3) := yd_fu2 (f := fun y => .invokespecial y) rfl (yd_g h hi hp 0 _ rfl) (yd_g h hi hp 1 _ rfl) (yd_g h hi hp 2 _ rfl) rfl
theorem yd_op_191 {c : ByteArray} {pc n i : Nat} {l : List Nat} (h : ydk c n l = true) (hi : (l.drop i).take 1 = [191]) (hp : n + i = pc) : decode c pc = .ok (.athrow, 1) := yd_f0 rfl (yd_g h hi hp 0 _ rfl) rfl
theorem yd_op_120 {c : ByteArray} {pc n i : Nat} {l : List Nat} (h : ydk c n l = true) (hi : (l.drop i).take 1 = [120]) (hp : n + i = pc) : decode c pc = .ok (.ishl, 1) := yd_f0 rfl (yd_g h hi hp 0 _ rfl) rfl
theorem yd_op_60 {c : ByteArray} {pc n i : Nat} {l : List Nat} (h : ydk c n l = true) (hi : (l.drop i).take 1 = [60]) (hp : n + i = pc) : decode c pc = .ok (.istore_n 1, 1) := yd_f0 rfl (yd_g h hi hp 0 _ rfl) rfl
theorem yd_op_132 {c : ByteArray} {pc n i a b : Nat} {l : List Nat} (h : ydk c n l = true) (hi : (l.drop i).take 3 = [132, a, b]) (hp : n + i = pc) : decode c pc = .ok (.iinc a (Reader.signed 8 b), 3) := yd_fus (f := fun x y => .iinc x y) rfl (yd_g h hi hp 0 _ rfl) (yd_g h hi hp 1 _ rfl) (yd_g h hi hp 2 _ rfl) rfl
theorem yd_op_128 {c : ByteArray} {pc n i : Nat} {l : List Nat} (h : ydk c n l = true) (hi : (l.drop i).take 1 = [128]) (hp : n + i = pc) : decode c pc = .ok (.ior, 1) := yd_f0 rfl (yd_g h hi hp 0 _ rfl) rfl
theorem yd_op_43 {c : ByteArray} {pc n i : Nat} {l : List Nat} (h : ydk c n l = true) (hi : (l.drop i).take 1 = [43]) (hp : n + i = pc) : decode c pc = .ok (.aload_n 1, 1) := yd_f0 rfl (yd_g h hi hp 0 _ rfl) rfl
theorem yd_op_44 {c : ByteArray} {pc n i : Nat} {l : List Nat} (h : ydk c n l = true) (hi : (l.drop i).take 1 = [44]) (hp : n + i = pc) : decode c pc = .ok (.aload_n 2, 1) := yd_f0 rfl (yd_g h hi hp 0 _ rfl) rfl
theorem yd_op_124 {c : ByteArray} {pc n i : Nat} {l : List Nat} (h : ydk c n l = true) (hi : (l.drop i).take 1 = [124]) (hp : n + i = pc) : decode c pc = .ok (.iushr, 1) := yd_f0 rfl (yd_g h hi hp 0 _ rfl) rfl
theorem yd_op_19 {c : ByteArray} {pc n i a b : Nat} {l : List Nat} (h : ydk c n l = true) (hi : (l.drop i).take 3 = [19, a, b]) (hp : n + i = pc) : decode c pc = .ok (.ldc_w (a * 256 + b), 3) := yd_fu2 (f := fun y => .ldc_w y) rfl (yd_g h hi hp 0 _ rfl) (yd_g h hi hp 1 _ rfl) (yd_g h hi hp 2 _ rfl) rfl
theorem yd_op_100 {c : ByteArray} {pc n i : Nat} {l : List Nat} (h : ydk c n l = true) (hi : (l.drop i).take 1 = [100]) (hp : n + i = pc) : decode c pc = .ok (.isub, 1) := yd_f0 rfl (yd_g h hi hp 0 _ rfl) rfl
theorem yd_op_59 {c : ByteArray} {pc n i : Nat} {l : List Nat} (h : ydk c n l = true) (hi : (l.drop i).take 1 = [59]) (hp : n + i = pc) : decode c pc = .ok (.istore_n 0, 1) := yd_f0 rfl (yd_g h hi hp 0 _ rfl) rfl
theorem yd_op_96 {c : ByteArray} {pc n i : Nat} {l : List Nat} (h : ydk c n l = true) (hi : (l.drop i).take 1 = [96]) (hp : n + i = pc) : decode c pc = .ok (.iadd, 1) := yd_f0 rfl (yd_g h hi hp 0 _ rfl) rfl
theorem yd_op_108 {c : ByteArray} {pc n i : Nat} {l : List Nat} (h : ydk c n l = true) (hi : (l.drop i).take 1 = [108]) (hp : n + i = pc) : decode c pc = .ok (.idiv, 1) := yd_f0 rfl (yd_g h hi hp 0 _ rfl) rfl
theorem yd_op_61 {c : ByteArray} {pc n i : Nat} {l : List Nat} (h : ydk c n l = true) (hi : (l.drop i).take 1 = [61]) (hp : n + i = pc) : decode c pc = .ok (.istore_n 2, 1) := yd_f0 rfl (yd_g h hi hp 0 _ rfl) rfl
theorem yd_op_130 {c : ByteArray} {pc n i : Nat} {l : List Nat} (h : ydk c n l = true) (hi : (l.drop i).take 1 = [130]) (hp : n + i = pc) : decode c pc = .ok (.ixor, 1) := yd_f0 rfl (yd_g h hi hp 0 _ rfl) rfl
theorem yd_op_156 {c : ByteArray} {pc n i a b : Nat} {l : List Nat} (h : ydk c n l = true) (hi : (l.drop i).take 3 = [156, a, b]) (hp : n + i = pc) : decode c pc = .ok (.ifCond .ge (Reader.signed 16 (a * 256 + b)), 3) := yd_fs2 (f := fun y => .ifCond .ge y) rfl (yd_g h hi hp 0 _ rfl) (yd_g h hi hp 1 _ rfl) (yd_g h hi hp 2 _ rfl) rfl
theorem yd_op_28 {c : ByteArray} {pc n i : Nat} {l : List Nat} (h : ydk c n l = true) (hi : (l.drop i).take 1 = [28]) (hp : n + i = pc) : decode c pc = .ok (.iload_n 2, 1) := yd_f0 rfl (yd_g h hi hp 0 _ rfl) rfl
theorem yd_op_104 {c : ByteArray} {pc n i : Nat} {l : List Nat} (h : ydk c n l = true) (hi : (l.drop i).take 1 = [104]) (hp : n + i = pc) : decode c pc = .ok (.imul, 1) := yd_f0 rfl (yd_g h hi hp 0 _ rfl) rfl
theorem yd_op_159 {c : ByteArray} {pc n i a b : Nat} {l : List Nat} (h : ydk c n l = true) (hi : (l.drop i).take 3 = [159, a, b]) (hp : n + i = pc) : decode c pc = .ok (.if_icmp .eq (Reader.signed 16 (a * 256 + b)), 3) := yd_fs2 (f := fun y => .if_icmp .eq y) rfl (yd_g h hi hp 0 _ rfl) (yd_g h hi hp 1 _ rfl) (yd_g h hi hp 2 _ rfl) rfl
theorem yd_op_116 {c : ByteArray} {pc n i : Nat} {l : List Nat} (h : ydk c n l = true) (hi : (l.drop i).take 1 = [116]) (hp : n + i = pc) : decode c pc = .ok (.ineg, 1) := yd_f0 rfl (yd_g h hi hp 0 _ rfl) rfl
theorem yd_op_163 {c : ByteArray} {pc n i a b : Nat} {l : List Nat} (h : ydk c n l = true) (hi : (l.drop i).take 3 = [163, a, b]) (hp : n + i = pc) : decode c pc = .ok (.if_icmp .gt (Reader.signed 16 (a * 256 + b)), 3) := yd_fs2 (f := fun y => .if_icmp .gt y) rfl (yd_g h hi hp 0 _ rfl) (yd_g h hi hp 1 _ rfl) (yd_g h hi hp 2 _ rfl) rfl
theorem yd_op_188_10 {c : ByteArray} {pc n i : Nat} {l : List Nat} (h : ydk c n l = true) (hi : (l.drop i).take 2 = [188, 10]) (hp : n + i = pc) : decode c pc = .ok (.newarray .int, 2) := yd_fb rfl (yd_g h hi hp 0 _ rfl) (yd_g h hi hp 1 _ rfl) rfl rfl
theorem yd_op_181 {c : ByteArray} {pc n i a b : Nat} {l : List Nat} (h : ydk c n l = true) (hi : (l.drop i).take 3 = [181, a, b]) (hp : n + i = pc) : decode c pc = .ok (.putfield (a * 256 + b), 3) := yd_fu2 (f := fun y => .putfield y) rfl (yd_g h hi hp 0 _ rfl) (yd_g h hi hp 1 _ rfl) (yd_g h hi hp 2 _ rfl) rfl
theorem yd_op_79 {c : ByteArray} {pc n i : Nat} {l : List Nat} (h : ydk c n l = true) (hi : (l.drop i).take 1 = [79]) (hp : n + i = pc) : decode c pc = .ok (.iastore, 1) := yd_f0 rfl (yd_g h hi hp 0 _ rfl) rfl
theorem yd_op_62 {c : ByteArray} {pc n i : Nat} {l : List Nat} (h : ydk c n l = true) (hi : (l.drop i).take 1 = [62]) (hp : n + i = pc) : decode c pc = .ok (.istore_n 3, 1) := yd_f0 rfl (yd_g h hi hp 0 _ rfl) rfl
theorem yd_op_29 {c : ByteArray} {pc n i : Nat} {l : List Nat} (h : ydk c n l = true) (hi : (l.drop i).take 1 = [29]) (hp : n + i = pc) : decode c pc = .ok (.iload_n 3, 1) := yd_f0 rfl (yd_g h hi hp 0 _ rfl) rfl
theorem yd_op_162 {c : ByteArray} {pc n i a b : Nat} {l : List Nat} (h : ydk c n l = true) (hi : (l.drop i).take 3 = [162, a, b]) (hp : n + i = pc) : decode c pc = .ok (.if_icmp .ge (Reader.signed 16 (a * 256 + b)), 3) := yd_fs2 (f := fun y => .if_icmp .ge y) rfl (yd_g h hi hp 0 _ rfl) (yd_g h hi hp 1 _ rfl) (yd_g h hi hp 2 _ rfl) rfl
theorem yd_op_46 {c : ByteArray} {pc n i : Nat} {l : List Nat} (h : ydk c n l = true) (hi : (l.drop i).take 1 = [46]) (hp : n + i = pc) : decode c pc = .ok (.iaload, 1) := yd_f0 rfl (yd_g h hi hp 0 _ rfl) rfl
theorem yd_op_54 {c : ByteArray} {pc n i a : Nat} {l : List Nat} (h : ydk c n l = true) (hi : (l.drop i).take 2 = [54, a]) (hp : n + i = pc) : decode c pc = .ok (.istore a, 2) := yd_fu1 (f := fun y => .istore y) rfl (yd_g h hi hp 0 _ rfl) (yd_g h hi hp 1 _ rfl) rfl
theorem yd_op_21 {c : ByteArray} {pc n i a : Nat} {l : List Nat} (h : ydk c n l = true) (hi : (l.drop i).take 2 = [21, a]) (hp : n + i = pc) : decode c pc = .ok (.iload a, 2) := yd_fu1 (f := fun y => .iload y) rfl (yd_g h hi hp 0 _ rfl) (yd_g h hi hp 1 _ rfl) rfl
theorem yd_op_2 {c : ByteArray} {pc n i : Nat} {l : List Nat} (h : ydk c n l = true) (hi : (l.drop i).take 1 = [2]) (hp : n + i = pc) : decode c pc = .ok (.iconst (-1), 1) := yd_f0 rfl (yd_g h hi hp 0 _ rfl) rfl
theorem yd_op_164 {c : ByteArray} {pc n i a b : Nat} {l : List Nat} (h : ydk c n l = true) (hi : (l.drop i).take 3 = [164, a, b]) (hp : n + i = pc) : decode c pc = .ok (.if_icmp .le (Reader.signed 16 (a * 256 + b)), 3) := yd_fs2 (f := fun y => .if_icmp .le y) rfl (yd_g h hi hp 0 _ rfl) (yd_g h hi hp 1 _ rfl) (yd_g h hi hp 2 _ rfl) rfl
theorem yd_op_160 {c : ByteArray} {pc n i a b : Nat} {l : List Nat} (h : ydk c n l = true) (hi : (l.drop i).take 3 = [160, a, b]) (hp : n + i = pc) : decode c pc = .ok (.if_icmp .ne (Reader.signed 16 (a * 256 + b)), 3) := yd_fs2 (f := fun y => .if_icmp .ne y) rfl (yd_g h hi hp 0 _ rfl) (yd_g h hi hp 1 _ rfl) (yd_g h hi hp 2 _ rfl) rfl
theorem yd_op_158 {c : ByteArray} {pc n i a b : Nat} {l : List Nat} (h : ydk c n l = true) (hi : (l.drop i).take 3 = [158, a, b]) (hp : n + i = pc) : decode c pc = .ok (.ifCond .le (Reader.signed 16 (a * 256 + b)), 3) := yd_fs2 (f := fun y => .ifCond .le y) rfl (yd_g h hi hp 0 _ rfl) (yd_g h hi hp 1 _ rfl) (yd_g h hi hp 2 _ rfl) rfl
theorem yd_op_133 {c : ByteArray} {pc n i : Nat} {l : List Nat} (h : ydk c n l = true) (hi : (l.drop i).take 1 = [133]) (hp : n + i = pc) : decode c pc = .ok (.i2l, 1) := yd_f0 rfl (yd_g h hi hp 0 _ rfl) rfl
theorem yd_op_105 {c : ByteArray} {pc n i : Nat} {l : List Nat} (h : ydk c n l = true) (hi : (l.drop i).take 1 = [105]) (hp : n + i = pc) : decode c pc = .ok (.lmul, 1) := yd_f0 rfl (yd_g h hi hp 0 _ rfl) rfl
theorem yd_op_148 {c : ByteArray} {pc n i : Nat} {l : List Nat} (h : ydk c n l = true) (hi : (l.drop i).take 1 = [148]) (hp : n + i = pc) : decode c pc = .ok (.lcmp, 1) := yd_f0 rfl (yd_g h hi hp 0 _ rfl) rfl
theorem yd_op_8 {c : ByteArray} {pc n i : Nat} {l : List Nat} (h : ydk c n l = true) (hi : (l.drop i).take 1 = [8]) (hp : n + i = pc) : decode c pc = .ok (.iconst 5, 1) := yd_f0 rfl (yd_g h hi hp 0 _ rfl) rfl
theorem yd_op_9 {c : ByteArray} {pc n i : Nat} {l : List Nat} (h : ydk c n l = true) (hi : (l.drop i).take 1 = [9]) (hp : n + i = pc) : decode c pc = .ok (.lconst 0, 1) := yd_f0 rfl (yd_g h hi hp 0 _ rfl) rfl
theorem yd_op_123 {c : ByteArray} {pc n i : Nat} {l : List Nat} (h : ydk c n l = true) (hi : (l.drop i).take 1 = [123]) (hp : n + i = pc) : decode c pc = .ok (.lshr, 1) := yd_f0 rfl (yd_g h hi hp 0 _ rfl) rfl
theorem yd_op_10 {c : ByteArray} {pc n i : Nat} {l : List Nat} (h : ydk c n l = true) (hi : (l.drop i).take 1 = [10]) (hp : n + i = pc) : decode c pc = .ok (.lconst 1, 1) := yd_f0 rfl (yd_g h hi hp 0 _ rfl) rfl
theorem yd_op_33 {c : ByteArray} {pc n i : Nat} {l : List Nat} (h : ydk c n l = true) (hi : (l.drop i).take 1 = [33]) (hp : n + i = pc) : decode c pc = .ok (.lload_n 3, 1) := yd_f0 rfl (yd_g h hi hp 0 _ rfl) rfl
theorem yd_op_6 {c : ByteArray} {pc n i : Nat} {l : List Nat} (h : ydk c n l = true) (hi : (l.drop i).take 1 = [6]) (hp : n + i = pc) : decode c pc = .ok (.iconst 3, 1) := yd_f0 rfl (yd_g h hi hp 0 _ rfl) rfl
theorem yd_op_121 {c : ByteArray} {pc n i : Nat} {l : List Nat} (h : ydk c n l = true) (hi : (l.drop i).take 1 = [121]) (hp : n + i = pc) : decode c pc = .ok (.lshl, 1) := yd_f0 rfl (yd_g h hi hp 0 _ rfl) rfl
theorem yd_op_129 {c : ByteArray} {pc n i : Nat} {l : List Nat} (h : ydk c n l = true) (hi : (l.drop i).take 1 = [129]) (hp : n + i = pc) : decode c pc = .ok (.lor, 1) := yd_f0 rfl (yd_g h hi hp 0 _ rfl) rfl
theorem yd_op_77 {c : ByteArray} {pc n i : Nat} {l : List Nat} (h : ydk c n l = true) (hi : (l.drop i).take 1 = [77]) (hp : n + i = pc) : decode c pc = .ok (.astore_n 2, 1) := yd_f0 rfl (yd_g h hi hp 0 _ rfl) rfl
theorem yd_op_112 {c : ByteArray} {pc n i : Nat} {l : List Nat} (h : ydk c n l = true) (hi : (l.drop i).take 1 = [112]) (hp : n + i = pc) : decode c pc = .ok (.irem, 1) := yd_f0 rfl (yd_g h hi hp 0 _ rfl) rfl
theorem yd_op_173 {c : ByteArray} {pc n i : Nat} {l : List Nat} (h : ydk c n l = true) (hi : (l.drop i).take 1 = [173]) (hp : n + i = pc) : decode c pc = .ok (.lreturn, 1) := yd_f0 rfl (yd_g h hi hp 0 _ rfl) rfl
theorem yd_op_88 {c : ByteArray} {pc n i : Nat} {l : List Nat} (h : ydk c n l = true) (hi : (l.drop i).take 1 = [88]) (hp : n + i = pc) : decode c pc = .ok (.pop2, 1) := yd_f0 rfl (yd_g h hi hp 0 _ rfl) rfl
theorem yd_op_131 {c : ByteArray} {pc n i : Nat} {l : List Nat} (h : ydk c n l = true) (hi : (l.drop i).take 1 = [131]) (hp : n + i = pc) : decode c pc = .ok (.lxor, 1) := yd_f0 rfl (yd_g h hi hp 0 _ rfl) rfl
theorem yd_op_55 {c : ByteArray} {pc n i a : Nat} {l : List Nat} (h : ydk c n l = true) (hi : (l.drop i).take 2 = [55, a]) (hp : n + i = pc) : decode c pc = .ok (.lstore a, 2) := yd_fu1 (f := fun y => .lstore y) rfl (yd_g h hi hp 0 _ rfl) (yd_g h hi hp 1 _ rfl) rfl
theorem yd_op_22 {c : ByteArray} {pc n i a : Nat} {l : List Nat} (h : ydk c n l = true) (hi : (l.drop i).take 2 = [22, a]) (hp : n + i = pc) : decode c pc = .ok (.lload a, 2) := yd_fu1 (f := fun y => .lload y) rfl (yd_g h hi hp 0 _ rfl) (yd_g h hi hp 1 _ rfl) rfl
theorem yd_op_92 {c : ByteArray} {pc n i : Nat} {l : List Nat} (h : ydk c n l = true) (hi : (l.drop i).take 1 = [92]) (hp : n + i = pc) : decode c pc = .ok (.dup2, 1) := yd_f0 rfl (yd_g h hi hp 0 _ rfl) rfl
theorem yd_op_157 {c : ByteArray} {pc n i a b : Nat} {l : List Nat} (h : ydk c n l = true) (hi : (l.drop i).take 3 = [157, a, b]) (hp : n + i = pc) : decode c pc = .ok (.ifCond .gt (Reader.signed 16 (a * 256 + b)), 3) := yd_fs2 (f := fun y => .ifCond .gt y) rfl (yd_g h hi hp 0 _ rfl) (yd_g h hi hp 1 _ rfl) (yd_g h hi hp 2 _ rfl) rfl
theorem yd_op_65 {c : ByteArray} {pc n i : Nat} {l : List Nat} (h : ydk c n l = true) (hi : (l.drop i).take 1 = [65]) (hp : n + i = pc) : decode c pc = .ok (.lstore_n 2, 1) := yd_f0 rfl (yd_g h hi hp 0 _ rfl) rfl
theorem yd_op_32 {c : ByteArray} {pc n i : Nat} {l : List Nat} (h : ydk c n l = true) (hi : (l.drop i).take 1 = [32]) (hp : n + i = pc) : decode c pc = .ok (.lload_n 2, 1) := yd_f0 rfl (yd_g h hi hp 0 _ rfl) rfl
theorem yd_op_189 {c : ByteArray} {pc n i a b : Nat} {l : List Nat} (h : ydk c n l = true) (hi : (l.drop i).take 3 = [189, a, b]) (hp : n + i = pc) : decode c pc = .ok (.anewarray (a * 256 + b), 3) := yd_fu2 (f := fun y => .anewarray y) rfl (yd_g h hi hp 0 _ rfl) (yd_g h hi hp 1 _ rfl) (yd_g h hi hp 2 _ rfl) rfl
theorem yd_op_83 {c : ByteArray} {pc n i : Nat} {l : List Nat} (h : ydk c n l = true) (hi : (l.drop i).take 1 = [83]) (hp : n + i = pc) : decode c pc = .ok (.aastore, 1) := yd_f0 rfl (yd_g h hi hp 0 _ rfl) rfl
theorem yd_op_50 {c : ByteArray} {pc n i : Nat} {l : List Nat} (h : ydk c n l = true) (hi : (l.drop i).take 1 = [50]) (hp : n + i = pc) : decode c pc = .ok (.aaload, 1) := yd_f0 rfl (yd_g h hi hp 0 _ rfl) rfl
theorem yd_op_66 {c : ByteArray} {pc n i : Nat} {l : List Nat} (h : ydk c n l = true) (hi : (l.drop i).take 1 = [66]) (hp : n + i = pc) : decode c pc = .ok (.lstore_n 3, 1) := yd_f0 rfl (yd_g h hi hp 0 _ rfl) rfl
theorem yd_op_64 {c : ByteArray} {pc n i : Nat} {l : List Nat} (h : ydk c n l = true) (hi : (l.drop i).take 1 = [64]) (hp : n + i = pc) : decode c pc = .ok (.lstore_n 1, 1) := yd_f0 rfl (yd_g h hi hp 0 _ rfl) rfl
theorem yd_op_31 {c : ByteArray} {pc n i : Nat} {l : List Nat} (h : ydk c n l = true) (hi : (l.drop i).take 1 = [31]) (hp : n + i = pc) : decode c pc = .ok (.lload_n 1, 1) := yd_f0 rfl (yd_g h hi hp 0 _ rfl) rfl
theorem yd_op_188_4 {c : ByteArray} {pc n i : Nat} {l : List Nat} (h : ydk c n l = true) (hi : (l.drop i).take 2 = [188, 4]) (hp : n + i = pc) : decode c pc = .ok (.newarray .boolean, 2) := yd_fb rfl (yd_g h hi hp 0 _ rfl) (yd_g h hi hp 1 _ rfl) rfl rfl
theorem yd_op_84 {c : ByteArray} {pc n i : Nat} {l : List Nat} (h : ydk c n l = true) (hi : (l.drop i).take 1 = [84]) (hp : n + i = pc) : decode c pc = .ok (.bastore, 1) := yd_f0 rfl (yd_g h hi hp 0 _ rfl) rfl
theorem yd_op_45 {c : ByteArray} {pc n i : Nat} {l : List Nat} (h : ydk c n l = true) (hi : (l.drop i).take 1 = [45]) (hp : n + i = pc) : decode c pc = .ok (.aload_n 3, 1) := yd_f0 rfl (yd_g h hi hp 0 _ rfl) rfl
theorem yd_op_188_8 {c : ByteArray} {pc n i : Nat} {l : List Nat} (h : ydk c n l = true) (hi : (l.drop i).take 2 = [188, 8]) (hp : n + i = pc) : decode c pc = .ok (.newarray .byte, 2) := yd_fb rfl (yd_g h hi hp 0 _ rfl) (yd_g h hi hp 1 _ rfl) rfl rfl
theorem yd_op_145 {c : ByteArray} {pc n i : Nat} {l : List Nat} (h : ydk c n l = true) (hi : (l.drop i).take 1 = [145]) (hp : n + i = pc) : decode c pc = .ok (.i2b, 1) := yd_f0 rfl (yd_g h hi hp 0 _ rfl) rfl
set_option maxRecDepth 100000 in
theorem yd_by_cJ0_length_8abf5_0 : ydk cJ0_length_8abf5 0 [42, 180, 0, 9, 190, 42, 182, 1, 79, 122, 172] = true := by decide +kernel
theorem dJ0_length_8abf5_0 : decode cJ0_length_8abf5 0 = .ok (.aload_n 0, 1) := yd_op_42 (i := 0) yd_by_cJ0_length_8abf5_0 rfl rfl
theorem dJ0_length_8abf5_1 : decode cJ0_length_8abf5 1 = .ok (.getfield 9, 3) := yd_op_180 (i := 1) (a := 0) (b := 9) yd_by_cJ0_length_8abf5_0 rfl rfl
theorem dJ0_length_8abf5_4 : decode cJ0_length_8abf5 4 = .ok (.arraylength, 1) := yd_op_190 (i := 4) yd_by_cJ0_length_8abf5_0 rfl rfl
theorem dJ0_length_8abf5_5 : decode cJ0_length_8abf5 5 = .ok (.aload_n 0, 1) := yd_op_42 (i := 5) yd_by_cJ0_length_8abf5_0 rfl rfl
theorem dJ0_length_8abf5_6 : decode cJ0_length_8abf5 6 = .ok (.invokevirtual 335, 3) := yd_op_182 (i := 6) (a := 1) (b := 79) yd_by_cJ0_length_8abf5_0 rfl rfl
theorem dJ0_length_8abf5_9 : decode cJ0_length_8abf5 9 = .ok (.ishr, 1) := yd_op_122 (i := 9) yd_by_cJ0_length_8abf5_0 rfl rfl
theorem dJ0_length_8abf5_10 : decode cJ0_length_8abf5 10 = .ok (.ireturn, 1) := yd_op_172 (i := 10) yd_by_cJ0_length_8abf5_0 rfl rfl
set_option maxRecDepth 100000 in
theorem yd_by_cJ0_charAt_5068e_0 : ydk cJ0_charAt_5068e 0 [42, 182, 1, 236, 153, 0, 12, 42, 180, 0, 9, 27, 184, 1, 239, 172, 42, 180, 0, 9, 27, 184, 1, 242, 172] = true := by decide +kernel
theorem dJ0_charAt_5068e_0 : decode cJ0_charAt_5068e 0 = .ok (.aload_n 0, 1) := yd_op_42 (i := 0) yd_by_cJ0_charAt_5068e_0 rfl rfl
theorem dJ0_charAt_5068e_1 : decode cJ0_charAt_5068e 1 = .ok (.invokevirtual 492, 3) := yd_op_182 (i := 1) (a := 1) (b := 236) yd_by_cJ0_charAt_5068e_0 rfl rfl
theorem dJ0_charAt_5068e_4 : decode cJ0_charAt_5068e 4 = .ok (.ifCond .eq 12, 3) := yd_op_153 (i := 4) (a := 0) (b := 12) yd_by_cJ0_charAt_5068e_0 rfl rfl
theorem dJ0_charAt_5068e_7 : decode cJ0_charAt_5068e 7 = .ok (.aload_n 0, 1) := yd_op_42 (i := 7) yd_by_cJ0_charAt_5068e_0 rfl rfl
theorem dJ0_charAt_5068e_8 : decode cJ0_charAt_5068e 8 = .ok (.getfield 9, 3) := yd_op_180 (i := 8) (a := 0) (b := 9) yd_by_cJ0_charAt_5068e_0 rfl rfl
theorem dJ0_charAt_5068e_11 : decode cJ0_charAt_5068e 11 = .ok (.iload_n 1, 1) := yd_op_27 (i := 11) yd_by_cJ0_charAt_5068e_0 rfl rfl
theorem dJ0_charAt_5068e_12 : decode cJ0_charAt_5068e 12 = .ok (.invokestatic 495, 3) := yd_op_184 (i := 12) (a := 1) (b := 239) yd_by_cJ0_charAt_5068e_0 rfl rfl
theorem dJ0_charAt_5068e_15 : decode cJ0_charAt_5068e 15 = .ok (.ireturn, 1) := yd_op_172 (i := 15) yd_by_cJ0_charAt_5068e_0 rfl rfl
theorem dJ0_charAt_5068e_16 : decode cJ0_charAt_5068e 16 = .ok (.aload_n 0, 1) := yd_op_42 (i := 16) yd_by_cJ0_charAt_5068e_0 rfl rfl
theorem dJ0_charAt_5068e_17 : decode cJ0_charAt_5068e 17 = .ok (.getfield 9, 3) := yd_op_180 (i := 17) (a := 0) (b := 9) yd_by_cJ0_charAt_5068e_0 rfl rfl
theorem dJ0_charAt_5068e_20 : decode cJ0_charAt_5068e 20 = .ok (.iload_n 1, 1) := yd_op_27 (i := 20) yd_by_cJ0_charAt_5068e_0 rfl rfl
theorem dJ0_charAt_5068e_21 : decode cJ0_charAt_5068e 21 = .ok (.invokestatic 498, 3) := yd_op_184 (i := 21) (a := 1) (b := 242) yd_by_cJ0_charAt_5068e_0 rfl rfl
theorem dJ0_charAt_5068e_24 : decode cJ0_charAt_5068e 24 = .ok (.ireturn, 1) := yd_op_172 (i := 24) yd_by_cJ0_charAt_5068e_0 rfl rfl
set_option maxRecDepth 100000 in
theorem yd_by_cJ0_coder_7d493_0 : ydk cJ0_coder_7d493 0 [178, 0, 38, 153, 0, 10, 42, 180, 0, 15, 167, 0, 4, 4, 172] = true := by decide +kernel
theorem dJ0_coder_7d493_0 : decode cJ0_coder_7d493 0 = .ok (.getstatic 38, 3) := yd_op_178 (i := 0) (a := 0) (b := 38) yd_by_cJ0_coder_7d493_0 rfl rfl
theorem dJ0_coder_7d493_3 : decode cJ0_coder_7d493 3 = .ok (.ifCond .eq 10, 3) := yd_op_153 (i := 3) (a := 0) (b := 10) yd_by_cJ0_coder_7d493_0 rfl rfl
theorem dJ0_coder_7d493_6 : decode cJ0_coder_7d493 6 = .ok (.aload_n 0, 1) := yd_op_42 (i := 6) yd_by_cJ0_coder_7d493_0 rfl rfl
theorem dJ0_coder_7d493_7 : decode cJ0_coder_7d493 7 = .ok (.getfield 15, 3) := yd_op_180 (i := 7) (a := 0) (b := 15) yd_by_cJ0_coder_7d493_0 rfl rfl
theorem dJ0_coder_7d493_10 : decode cJ0_coder_7d493 10 = .ok (.goto 4, 3) := yd_op_167 (i := 10) (a := 0) (b := 4) yd_by_cJ0_coder_7d493_0 rfl rfl
theorem dJ0_coder_7d493_13 : decode cJ0_coder_7d493 13 = .ok (.iconst 1, 1) := yd_op_4 (i := 13) yd_by_cJ0_coder_7d493_0 rfl rfl
theorem dJ0_coder_7d493_14 : decode cJ0_coder_7d493 14 = .ok (.ireturn, 1) := yd_op_172 (i := 14) yd_by_cJ0_coder_7d493_0 rfl rfl
set_option maxRecDepth 100000 in
theorem yd_by_cJ0_isLatin1_aae02_0 : ydk cJ0_isLatin1_aae02 0 [178, 0, 38, 153, 0, 14, 42, 180, 0, 15, 154, 0, 7, 4, 167, 0, 4, 3, 172] = true := by decide +kernel
theorem dJ0_isLatin1_aae02_0 : decode cJ0_isLatin1_aae02 0 = .ok (.getstatic 38, 3) := yd_op_178 (i := 0) (a := 0) (b := 38) yd_by_cJ0_isLatin1_aae02_0 rfl rfl
theorem dJ0_isLatin1_aae02_3 : decode cJ0_isLatin1_aae02 3 = .ok (.ifCond .eq 14, 3) := yd_op_153 (i := 3) (a := 0) (b := 14) yd_by_cJ0_isLatin1_aae02_0 rfl rfl
theorem dJ0_isLatin1_aae02_6 : decode cJ0_isLatin1_aae02 6 = .ok (.aload_n 0, 1) := yd_op_42 (i := 6) yd_by_cJ0_isLatin1_aae02_0 rfl rfl
theorem dJ0_isLatin1_aae02_7 : decode cJ0_isLatin1_aae02 7 = .ok (.getfield 15, 3) := yd_op_180 (i := 7) (a := 0) (b := 15) yd_by_cJ0_isLatin1_aae02_0 rfl rfl
theorem dJ0_isLatin1_aae02_10 : decode cJ0_isLatin1_aae02 10 = .ok (.ifCond .ne 7, 3) := yd_op_154 (i := 10) (a := 0) (b := 7) yd_by_cJ0_isLatin1_aae02_0 rfl rfl
theorem dJ0_isLatin1_aae02_13 : decode cJ0_isLatin1_aae02 13 = .ok (.iconst 1, 1) := yd_op_4 (i := 13) yd_by_cJ0_isLatin1_aae02_0 rfl rfl
theorem dJ0_isLatin1_aae02_14 : decode cJ0_isLatin1_aae02 14 = .ok (.goto 4, 3) := yd_op_167 (i := 14) (a := 0) (b := 4) yd_by_cJ0_isLatin1_aae02_0 rfl rfl
theorem dJ0_isLatin1_aae02_17 : decode cJ0_isLatin1_aae02 17 = .ok (.iconst 0, 1) := yd_op_3 (i := 17) yd_by_cJ0_isLatin1_aae02_0 rfl rfl
theorem dJ0_isLatin1_aae02_18 : decode cJ0_isLatin1_aae02 18 = .ok (.ireturn, 1) := yd_op_172 (i := 18) yd_by_cJ0_isLatin1_aae02_0 rfl rfl
set_option maxRecDepth 100000 in
theorem yd_by_cJ0_checkIndex_df160_0 : ydk cJ0_checkIndex_df160 0 [26, 27, 178, 4, 29, 184, 4, 35, 87, 177] = true := by decide +kernel
theorem dJ0_checkIndex_df160_0 : decode cJ0_checkIndex_df160 0 = .ok (.iload_n 0, 1) := yd_op_26 (i := 0) yd_by_cJ0_checkIndex_df160_0 rfl rfl
theorem dJ0_checkIndex_df160_1 : decode cJ0_checkIndex_df160 1 = .ok (.iload_n 1, 1) := yd_op_27 (i := 1) yd_by_cJ0_checkIndex_df160_0 rfl rfl
theorem dJ0_checkIndex_df160_2 : decode cJ0_checkIndex_df160 2 = .ok (.getstatic 1053, 3) := yd_op_178 (i := 2) (a := 4) (b := 29) yd_by_cJ0_checkIndex_df160_0 rfl rfl
theorem dJ0_checkIndex_df160_5 : decode cJ0_checkIndex_df160 5 = .ok (.invokestatic 1059, 3) := yd_op_184 (i := 5) (a := 4) (b := 35) yd_by_cJ0_checkIndex_df160_0 rfl rfl
theorem dJ0_checkIndex_df160_8 : decode cJ0_checkIndex_df160 8 = .ok (.pop, 1) := yd_op_87 (i := 8) yd_by_cJ0_checkIndex_df160_0 rfl rfl
theorem dJ0_checkIndex_df160_9 : decode cJ0_checkIndex_df160 9 = .ok (.return_, 1) := yd_op_177 (i := 9) yd_by_cJ0_checkIndex_df160_0 rfl rfl
set_option maxRecDepth 100000 in
theorem yd_by_cJ1_charAt_3b067_0 : ydk cJ1_charAt_3b067 0 [27, 42, 190, 184, 0, 9, 42, 27, 51, 17, 0, 255, 126, 146, 172] = true := by decide +kernel
theorem dJ1_charAt_3b067_0 : decode cJ1_charAt_3b067 0 = .ok (.iload_n 1, 1) := yd_op_27 (i := 0) yd_by_cJ1_charAt_3b067_0 rfl rfl
theorem dJ1_charAt_3b067_1 : decode cJ1_charAt_3b067 1 = .ok (.aload_n 0, 1) := yd_op_42 (i := 1) yd_by_cJ1_charAt_3b067_0 rfl rfl
theorem dJ1_charAt_3b067_2 : decode cJ1_charAt_3b067 2 = .ok (.arraylength, 1) := yd_op_190 (i := 2) yd_by_cJ1_charAt_3b067_0 rfl rfl
theorem dJ1_charAt_3b067_3 : decode cJ1_charAt_3b067 3 = .ok (.invokestatic 9, 3) := yd_op_184 (i := 3) (a := 0) (b := 9) yd_by_cJ1_charAt_3b067_0 rfl rfl
theorem dJ1_charAt_3b067_6 : decode cJ1_charAt_3b067 6 = .ok (.aload_n 0, 1) := yd_op_42 (i := 6) yd_by_cJ1_charAt_3b067_0 rfl rfl
theorem dJ1_charAt_3b067_7 : decode cJ1_charAt_3b067 7 = .ok (.iload_n 1, 1) := yd_op_27 (i := 7) yd_by_cJ1_charAt_3b067_0 rfl rfl
theorem dJ1_charAt_3b067_8 : decode cJ1_charAt_3b067 8 = .ok (.baload, 1) := yd_op_51 (i := 8) yd_by_cJ1_charAt_3b067_0 rfl rfl
theorem dJ1_charAt_3b067_9 : decode cJ1_charAt_3b067 9 = .ok (.sipush 255, 3) := yd_op_17 (i := 9) (a := 0) (b := 255) yd_by_cJ1_charAt_3b067_0 rfl rfl
theorem dJ1_charAt_3b067_12 : decode cJ1_charAt_3b067 12 = .ok (.iand, 1) := yd_op_126 (i := 12) yd_by_cJ1_charAt_3b067_0 rfl rfl
theorem dJ1_charAt_3b067_13 : decode cJ1_charAt_3b067 13 = .ok (.i2c, 1) := yd_op_146 (i := 13) yd_by_cJ1_charAt_3b067_0 rfl rfl
theorem dJ1_charAt_3b067_14 : decode cJ1_charAt_3b067 14 = .ok (.ireturn, 1) := yd_op_172 (i := 14) yd_by_cJ1_charAt_3b067_0 rfl rfl
set_option maxRecDepth 100000 in
theorem yd_by_cJ13_bitCount_95d88_0 : ydk cJ13_bitCount_95d88 0 [30, 30, 4, 125, 20, 1, 58, 127, 101, 63, 30, 20, 1, 60, 127, 30, 5, 125, 20, 1, 60, 127, 97, 63, 30, 30] = true := by decide +kernel
theorem dJ13_bitCount_95d88_0 : decode cJ13_bitCount_95d88 0 = .ok (.lload_n 0, 1) := yd_op_30 (i := 0) yd_by_cJ13_bitCount_95d88_0 rfl rfl
theorem dJ13_bitCount_95d88_1 : decode cJ13_bitCount_95d88 1 = .ok (.lload_n 0, 1) := yd_op_30 (i := 1) yd_by_cJ13_bitCount_95d88_0 rfl rfl
theorem dJ13_bitCount_95d88_2 : decode cJ13_bitCount_95d88 2 = .ok (.iconst 1, 1) := yd_op_4 (i := 2) yd_by_cJ13_bitCount_95d88_0 rfl rfl
theorem dJ13_bitCount_95d88_3 : decode cJ13_bitCount_95d88 3 = .ok (.lushr, 1) := yd_op_125 (i := 3) yd_by_cJ13_bitCount_95d88_0 rfl rfl
theorem dJ13_bitCount_95d88_4 : decode cJ13_bitCount_95d88 4 = .ok (.ldc2_w 314, 3) := yd_op_20 (i := 4) (a := 1) (b := 58) yd_by_cJ13_bitCount_95d88_0 rfl rfl
theorem dJ13_bitCount_95d88_7 : decode cJ13_bitCount_95d88 7 = .ok (.land, 1) := yd_op_127 (i := 7) yd_by_cJ13_bitCount_95d88_0 rfl rfl
theorem dJ13_bitCount_95d88_8 : decode cJ13_bitCount_95d88 8 = .ok (.lsub, 1) := yd_op_101 (i := 8) yd_by_cJ13_bitCount_95d88_0 rfl rfl
theorem dJ13_bitCount_95d88_9 : decode cJ13_bitCount_95d88 9 = .ok (.lstore_n 0, 1) := yd_op_63 (i := 9) yd_by_cJ13_bitCount_95d88_0 rfl rfl
theorem dJ13_bitCount_95d88_10 : decode cJ13_bitCount_95d88 10 = .ok (.lload_n 0, 1) := yd_op_30 (i := 10) yd_by_cJ13_bitCount_95d88_0 rfl rfl
theorem dJ13_bitCount_95d88_11 : decode cJ13_bitCount_95d88 11 = .ok (.ldc2_w 316, 3) := yd_op_20 (i := 11) (a := 1) (b := 60) yd_by_cJ13_bitCount_95d88_0 rfl rfl
theorem dJ13_bitCount_95d88_14 : decode cJ13_bitCount_95d88 14 = .ok (.land, 1) := yd_op_127 (i := 14) yd_by_cJ13_bitCount_95d88_0 rfl rfl
theorem dJ13_bitCount_95d88_15 : decode cJ13_bitCount_95d88 15 = .ok (.lload_n 0, 1) := yd_op_30 (i := 15) yd_by_cJ13_bitCount_95d88_0 rfl rfl
theorem dJ13_bitCount_95d88_16 : decode cJ13_bitCount_95d88 16 = .ok (.iconst 2, 1) := yd_op_5 (i := 16) yd_by_cJ13_bitCount_95d88_0 rfl rfl
theorem dJ13_bitCount_95d88_17 : decode cJ13_bitCount_95d88 17 = .ok (.lushr, 1) := yd_op_125 (i := 17) yd_by_cJ13_bitCount_95d88_0 rfl rfl
theorem dJ13_bitCount_95d88_18 : decode cJ13_bitCount_95d88 18 = .ok (.ldc2_w 316, 3) := yd_op_20 (i := 18) (a := 1) (b := 60) yd_by_cJ13_bitCount_95d88_0 rfl rfl
theorem dJ13_bitCount_95d88_21 : decode cJ13_bitCount_95d88 21 = .ok (.land, 1) := yd_op_127 (i := 21) yd_by_cJ13_bitCount_95d88_0 rfl rfl
theorem dJ13_bitCount_95d88_22 : decode cJ13_bitCount_95d88 22 = .ok (.ladd, 1) := yd_op_97 (i := 22) yd_by_cJ13_bitCount_95d88_0 rfl rfl
theorem dJ13_bitCount_95d88_23 : decode cJ13_bitCount_95d88 23 = .ok (.lstore_n 0, 1) := yd_op_63 (i := 23) yd_by_cJ13_bitCount_95d88_0 rfl rfl
theorem dJ13_bitCount_95d88_24 : decode cJ13_bitCount_95d88 24 = .ok (.lload_n 0, 1) := yd_op_30 (i := 24) yd_by_cJ13_bitCount_95d88_0 rfl rfl
theorem dJ13_bitCount_95d88_25 : decode cJ13_bitCount_95d88 25 = .ok (.lload_n 0, 1) := yd_op_30 (i := 25) yd_by_cJ13_bitCount_95d88_0 rfl rfl
set_option maxRecDepth 100000 in
theorem yd_by_cJ13_bitCount_95d88_1 : ydk cJ13_bitCount_95d88 26 [7, 125, 97, 20, 1, 62, 127, 63, 30, 30, 16, 8, 125, 97, 63, 30, 30, 16, 16, 125, 97, 63, 30, 30] = true := by decide +kernel
theorem dJ13_bitCount_95d88_26 : decode cJ13_bitCount_95d88 26 = .ok (.iconst 4, 1) := yd_op_7 (i := 0) yd_by_cJ13_bitCount_95d88_1 rfl rfl
theorem dJ13_bitCount_95d88_27 : decode cJ13_bitCount_95d88 27 = .ok (.lushr, 1) := yd_op_125 (i := 1) yd_by_cJ13_bitCount_95d88_1 rfl rfl
theorem dJ13_bitCount_95d88_28 : decode cJ13_bitCount_95d88 28 = .ok (.ladd, 1) := yd_op_97 (i := 2) yd_by_cJ13_bitCount_95d88_1 rfl rfl
theorem dJ13_bitCount_95d88_29 : decode cJ13_bitCount_95d88 29 = .ok (.ldc2_w 318, 3) := yd_op_20 (i := 3) (a := 1) (b := 62) yd_by_cJ13_bitCount_95d88_1 rfl rfl
theorem dJ13_bitCount_95d88_32 : decode cJ13_bitCount_95d88 32 = .ok (.land, 1) := yd_op_127 (i := 6) yd_by_cJ13_bitCount_95d88_1 rfl rfl
theorem dJ13_bitCount_95d88_33 : decode cJ13_bitCount_95d88 33 = .ok (.lstore_n 0, 1) := yd_op_63 (i := 7) yd_by_cJ13_bitCount_95d88_1 rfl rfl
theorem dJ13_bitCount_95d88_34 : decode cJ13_bitCount_95d88 34 = .ok (.lload_n 0, 1) := yd_op_30 (i := 8) yd_by_cJ13_bitCount_95d88_1 rfl rfl
theorem dJ13_bitCount_95d88_35 : decode cJ13_bitCount_95d88 35 = .ok (.lload_n 0, 1) := yd_op_30 (i := 9) yd_by_cJ13_bitCount_95d88_1 rfl rfl
theorem dJ13_bitCount_95d88_36 : decode cJ13_bitCount_95d88 36 = .ok (.bipush 8, 2) := yd_op_16 (i := 10) (a := 8) yd_by_cJ13_bitCount_95d88_1 rfl rfl
theorem dJ13_bitCount_95d88_38 : decode cJ13_bitCount_95d88 38 = .ok (.lushr, 1) := yd_op_125 (i := 12) yd_by_cJ13_bitCount_95d88_1 rfl rfl
theorem dJ13_bitCount_95d88_39 : decode cJ13_bitCount_95d88 39 = .ok (.ladd, 1) := yd_op_97 (i := 13) yd_by_cJ13_bitCount_95d88_1 rfl rfl
theorem dJ13_bitCount_95d88_40 : decode cJ13_bitCount_95d88 40 = .ok (.lstore_n 0, 1) := yd_op_63 (i := 14) yd_by_cJ13_bitCount_95d88_1 rfl rfl
theorem dJ13_bitCount_95d88_41 : decode cJ13_bitCount_95d88 41 = .ok (.lload_n 0, 1) := yd_op_30 (i := 15) yd_by_cJ13_bitCount_95d88_1 rfl rfl
theorem dJ13_bitCount_95d88_42 : decode cJ13_bitCount_95d88 42 = .ok (.lload_n 0, 1) := yd_op_30 (i := 16) yd_by_cJ13_bitCount_95d88_1 rfl rfl
theorem dJ13_bitCount_95d88_43 : decode cJ13_bitCount_95d88 43 = .ok (.bipush 16, 2) := yd_op_16 (i := 17) (a := 16) yd_by_cJ13_bitCount_95d88_1 rfl rfl
theorem dJ13_bitCount_95d88_45 : decode cJ13_bitCount_95d88 45 = .ok (.lushr, 1) := yd_op_125 (i := 19) yd_by_cJ13_bitCount_95d88_1 rfl rfl
theorem dJ13_bitCount_95d88_46 : decode cJ13_bitCount_95d88 46 = .ok (.ladd, 1) := yd_op_97 (i := 20) yd_by_cJ13_bitCount_95d88_1 rfl rfl
theorem dJ13_bitCount_95d88_47 : decode cJ13_bitCount_95d88 47 = .ok (.lstore_n 0, 1) := yd_op_63 (i := 21) yd_by_cJ13_bitCount_95d88_1 rfl rfl
theorem dJ13_bitCount_95d88_48 : decode cJ13_bitCount_95d88 48 = .ok (.lload_n 0, 1) := yd_op_30 (i := 22) yd_by_cJ13_bitCount_95d88_1 rfl rfl
theorem dJ13_bitCount_95d88_49 : decode cJ13_bitCount_95d88 49 = .ok (.lload_n 0, 1) := yd_op_30 (i := 23) yd_by_cJ13_bitCount_95d88_1 rfl rfl
set_option maxRecDepth 100000 in
theorem yd_by_cJ13_bitCount_95d88_2 : ydk cJ13_bitCount_95d88 50 [16, 32, 125, 97, 63, 30, 136, 16, 127, 126, 172] = true := by decide +kernel
theorem dJ13_bitCount_95d88_50 : decode cJ13_bitCount_95d88 50 = .ok (.bipush 32, 2) := yd_op_16 (i := 0) (a := 32) yd_by_cJ13_bitCount_95d88_2 rfl rfl
theorem dJ13_bitCount_95d88_52 : decode cJ13_bitCount_95d88 52 = .ok (.lushr, 1) := yd_op_125 (i := 2) yd_by_cJ13_bitCount_95d88_2 rfl rfl
theorem dJ13_bitCount_95d88_53 : decode cJ13_bitCount_95d88 53 = .ok (.ladd, 1) := yd_op_97 (i := 3) yd_by_cJ13_bitCount_95d88_2 rfl rfl
theorem dJ13_bitCount_95d88_54 : decode cJ13_bitCount_95d88 54 = .ok (.lstore_n 0, 1) := yd_op_63 (i := 4) yd_by_cJ13_bitCount_95d88_2 rfl rfl
theorem dJ13_bitCount_95d88_55 : decode cJ13_bitCount_95d88 55 = .ok (.lload_n 0, 1) := yd_op_30 (i := 5) yd_by_cJ13_bitCount_95d88_2 rfl rfl
theorem dJ13_bitCount_95d88_56 : decode cJ13_bitCount_95d88 56 = .ok (.l2i, 1) := yd_op_136 (i := 6) yd_by_cJ13_bitCount_95d88_2 rfl rfl
theorem dJ13_bitCount_95d88_57 : decode cJ13_bitCount_95d88 57 = .ok (.bipush 127, 2) := yd_op_16 (i := 7) (a := 127) yd_by_cJ13_bitCount_95d88_2 rfl rfl
theorem dJ13_bitCount_95d88_59 : decode cJ13_bitCount_95d88 59 = .ok (.iand, 1) := yd_op_126 (i := 9) yd_by_cJ13_bitCount_95d88_2 rfl rfl
theorem dJ13_bitCount_95d88_60 : decode cJ13_bitCount_95d88 60 = .ok (.ireturn, 1) := yd_op_172 (i := 10) yd_by_cJ13_bitCount_95d88_2 rfl rfl
set_option maxRecDepth 100000 in
theorem yd_by_cJ2_getChar_3b067_0 : ydk cJ2_getChar_3b067 0 [178, 0, 44, 154, 0, 25, 27, 155, 0, 11, 27, 42, 184, 0, 48, 161, 0, 13, 187, 0, 52, 89, 18, 54, 183, 0, 56, 191, 27, 4, 120, 60, 42, 27, 132, 1, 1] = true := by decide +kernel
theorem dJ2_getChar_3b067_0 : decode cJ2_getChar_3b067 0 = .ok (.getstatic 44, 3) := yd_op_178 (i := 0) (a := 0) (b := 44) yd_by_cJ2_getChar_3b067_0 rfl rfl
theorem dJ2_getChar_3b067_3 : decode cJ2_getChar_3b067 3 = .ok (.ifCond .ne 25, 3) := yd_op_154 (i := 3) (a := 0) (b := 25) yd_by_cJ2_getChar_3b067_0 rfl rfl
theorem dJ2_getChar_3b067_6 : decode cJ2_getChar_3b067 6 = .ok (.iload_n 1, 1) := yd_op_27 (i := 6) yd_by_cJ2_getChar_3b067_0 rfl rfl
theorem dJ2_getChar_3b067_7 : decode cJ2_getChar_3b067 7 = .ok (.ifCond .lt 11, 3) := yd_op_155 (i := 7) (a := 0) (b := 11) yd_by_cJ2_getChar_3b067_0 rfl rfl
theorem dJ2_getChar_3b067_10 : decode cJ2_getChar_3b067 10 = .ok (.iload_n 1, 1) := yd_op_27 (i := 10) yd_by_cJ2_getChar_3b067_0 rfl rfl
theorem dJ2_getChar_3b067_11 : decode cJ2_getChar_3b067 11 = .ok (.aload_n 0, 1) := yd_op_42 (i := 11) yd_by_cJ2_getChar_3b067_0 rfl rfl
theorem dJ2_getChar_3b067_12 : decode cJ2_getChar_3b067 12 = .ok (.invokestatic 48, 3) := yd_op_184 (i := 12) (a := 0) (b := 48) yd_by_cJ2_getChar_3b067_0 rfl rfl
theorem dJ2_getChar_3b067_15 : decode cJ2_getChar_3b067 15 = .ok (.if_icmp .lt 13, 3) := yd_op_161 (i := 15) (a := 0) (b := 13) yd_by_cJ2_getChar_3b067_0 rfl rfl
theorem dJ2_getChar_3b067_18 : decode cJ2_getChar_3b067 18 = .ok (.new 52, 3) := yd_op_187 (i := 18) (a := 0) (b := 52) yd_by_cJ2_getChar_3b067_0 rfl rfl
theorem dJ2_getChar_3b067_21 : decode cJ2_getChar_3b067 21 = .ok (.dup, 1) := yd_op_89 (i := 21) yd_by_cJ2_getChar_3b067_0 rfl rfl
theorem dJ2_getChar_3b067_22 : decode cJ2_getChar_3b067 22 = .ok (.ldc 54, 2) := yd_op_18 (i := 22) (a := 54) yd_by_cJ2_getChar_3b067_0 rfl rfl
theorem dJ2_getChar_3b067_24 : decode cJ2_getChar_3b067 24 = .ok (.invokespecial 56, 3) := yd_op_183 (i := 24) (a := 0) (b := 56) yd_by_cJ2_getChar_3b067_0 rfl rfl
theorem dJ2_getChar_3b067_27 : decode cJ2_getChar_3b067 27 = .ok (.athrow, 1) := yd_op_191 (i := 27) yd_by_cJ2_getChar_3b067_0 rfl rfl
theorem dJ2_getChar_3b067_28 : decode cJ2_getChar_3b067 28 = .ok (.iload_n 1, 1) := yd_op_27 (i := 28) yd_by_cJ2_getChar_3b067_0 rfl rfl
theorem dJ2_getChar_3b067_29 : decode cJ2_getChar_3b067 29 = .ok (.iconst 1, 1) := yd_op_4 (i := 29) yd_by_cJ2_getChar_3b067_0 rfl rfl
theorem dJ2_getChar_3b067_30 : decode cJ2_getChar_3b067 30 = .ok (.ishl, 1) := yd_op_120 (i := 30) yd_by_cJ2_getChar_3b067_0 rfl rfl
theorem dJ2_getChar_3b067_31 : decode cJ2_getChar_3b067 31 = .ok (.istore_n 1, 1) := yd_op_60 (i := 31) yd_by_cJ2_getChar_3b067_0 rfl rfl
theorem dJ2_getChar_3b067_32 : decode cJ2_getChar_3b067 32 = .ok (.aload_n 0, 1) := yd_op_42 (i := 32) yd_by_cJ2_getChar_3b067_0 rfl rfl
theorem dJ2_getChar_3b067_33 : decode cJ2_getChar_3b067 33 = .ok (.iload_n 1, 1) := yd_op_27 (i := 33) yd_by_cJ2_getChar_3b067_0 rfl rfl
theorem dJ2_getChar_3b067_34 : decode cJ2_getChar_3b067 34 = .ok (.iinc 1 1, 3) := yd_op_132 (i := 34) (a := 1) (b := 1) yd_by_cJ2_getChar_3b067_0 rfl rfl
set_option maxRecDepth 100000 in
theorem yd_by_cJ2_getChar_3b067_1 : ydk cJ2_getChar_3b067 37 [51, 17, 0, 255, 126, 178, 0, 59, 120, 42, 27, 51, 17, 0, 255, 126, 178, 0, 63, 120, 128, 146, 172] = true := by decide +kernel
theorem dJ2_getChar_3b067_37 : decode cJ2_getChar_3b067 37 = .ok (.baload, 1) := yd_op_51 (i := 0) yd_by_cJ2_getChar_3b067_1 rfl rfl
theorem dJ2_getChar_3b067_38 : decode cJ2_getChar_3b067 38 = .ok (.sipush 255, 3) := yd_op_17 (i := 1) (a := 0) (b := 255) yd_by_cJ2_getChar_3b067_1 rfl rfl
theorem dJ2_getChar_3b067_41 : decode cJ2_getChar_3b067 41 = .ok (.iand, 1) := yd_op_126 (i := 4) yd_by_cJ2_getChar_3b067_1 rfl rfl
theorem dJ2_getChar_3b067_42 : decode cJ2_getChar_3b067 42 = .ok (.getstatic 59, 3) := yd_op_178 (i := 5) (a := 0) (b := 59) yd_by_cJ2_getChar_3b067_1 rfl rfl
theorem dJ2_getChar_3b067_45 : decode cJ2_getChar_3b067 45 = .ok (.ishl, 1) := yd_op_120 (i := 8) yd_by_cJ2_getChar_3b067_1 rfl rfl
theorem dJ2_getChar_3b067_46 : decode cJ2_getChar_3b067 46 = .ok (.aload_n 0, 1) := yd_op_42 (i := 9) yd_by_cJ2_getChar_3b067_1 rfl rfl
theorem dJ2_getChar_3b067_47 : decode cJ2_getChar_3b067 47 = .ok (.iload_n 1, 1) := yd_op_27 (i := 10) yd_by_cJ2_getChar_3b067_1 rfl rfl
theorem dJ2_getChar_3b067_48 : decode cJ2_getChar_3b067 48 = .ok (.baload, 1) := yd_op_51 (i := 11) yd_by_cJ2_getChar_3b067_1 rfl rfl
theorem dJ2_getChar_3b067_49 : decode cJ2_getChar_3b067 49 = .ok (.sipush 255, 3) := yd_op_17 (i := 12) (a := 0) (b := 255) yd_by_cJ2_getChar_3b067_1 rfl rfl
theorem dJ2_getChar_3b067_52 : decode cJ2_getChar_3b067 52 = .ok (.iand, 1) := yd_op_126 (i := 15) yd_by_cJ2_getChar_3b067_1 rfl rfl
theorem dJ2_getChar_3b067_53 : decode cJ2_getChar_3b067 53 = .ok (.getstatic 63, 3) := yd_op_178 (i := 16) (a := 0) (b := 63) yd_by_cJ2_getChar_3b067_1 rfl rfl
theorem dJ2_getChar_3b067_56 : decode cJ2_getChar_3b067 56 = .ok (.ishl, 1) := yd_op_120 (i := 19) yd_by_cJ2_getChar_3b067_1 rfl rfl
theorem dJ2_getChar_3b067_57 : decode cJ2_getChar_3b067 57 = .ok (.ior, 1) := yd_op_128 (i := 20) yd_by_cJ2_getChar_3b067_1 rfl rfl
theorem dJ2_getChar_3b067_58 : decode cJ2_getChar_3b067 58 = .ok (.i2c, 1) := yd_op_146 (i := 21) yd_by_cJ2_getChar_3b067_1 rfl rfl
theorem dJ2_getChar_3b067_59 : decode cJ2_getChar_3b067 59 = .ok (.ireturn, 1) := yd_op_172 (i := 22) yd_by_cJ2_getChar_3b067_1 rfl rfl
set_option maxRecDepth 100000 in
theorem yd_by_cJ2_length_9d52b_0 : ydk cJ2_length_9d52b 0 [42, 190, 4, 122, 172] = true := by decide +kernel
theorem dJ2_length_9d52b_0 : decode cJ2_length_9d52b 0 = .ok (.aload_n 0, 1) := yd_op_42 (i := 0) yd_by_cJ2_length_9d52b_0 rfl rfl
theorem dJ2_length_9d52b_1 : decode cJ2_length_9d52b 1 = .ok (.arraylength, 1) := yd_op_190 (i := 1) yd_by_cJ2_length_9d52b_0 rfl rfl
theorem dJ2_length_9d52b_2 : decode cJ2_length_9d52b 2 = .ok (.iconst 1, 1) := yd_op_4 (i := 2) yd_by_cJ2_length_9d52b_0 rfl rfl
theorem dJ2_length_9d52b_3 : decode cJ2_length_9d52b 3 = .ok (.ishr, 1) := yd_op_122 (i := 3) yd_by_cJ2_length_9d52b_0 rfl rfl
theorem dJ2_length_9d52b_4 : decode cJ2_length_9d52b 4 = .ok (.ireturn, 1) := yd_op_172 (i := 4) yd_by_cJ2_length_9d52b_0 rfl rfl
set_option maxRecDepth 100000 in
theorem yd_by_cJ2_charAt_3b067_0 : ydk cJ2_charAt_3b067 0 [27, 42, 184, 0, 67, 42, 27, 184, 0, 71, 172] = true := by decide +kernel
theorem dJ2_charAt_3b067_0 : decode cJ2_charAt_3b067 0 = .ok (.iload_n 1, 1) := yd_op_27 (i := 0) yd_by_cJ2_charAt_3b067_0 rfl rfl
theorem dJ2_charAt_3b067_1 : decode cJ2_charAt_3b067 1 = .ok (.aload_n 0, 1) := yd_op_42 (i := 1) yd_by_cJ2_charAt_3b067_0 rfl rfl
theorem dJ2_charAt_3b067_2 : decode cJ2_charAt_3b067 2 = .ok (.invokestatic 67, 3) := yd_op_184 (i := 2) (a := 0) (b := 67) yd_by_cJ2_charAt_3b067_0 rfl rfl
theorem dJ2_charAt_3b067_5 : decode cJ2_charAt_3b067 5 = .ok (.aload_n 0, 1) := yd_op_42 (i := 5) yd_by_cJ2_charAt_3b067_0 rfl rfl
theorem dJ2_charAt_3b067_6 : decode cJ2_charAt_3b067 6 = .ok (.iload_n 1, 1) := yd_op_27 (i := 6) yd_by_cJ2_charAt_3b067_0 rfl rfl
theorem dJ2_charAt_3b067_7 : decode cJ2_charAt_3b067 7 = .ok (.invokestatic 71, 3) := yd_op_184 (i := 7) (a := 0) (b := 71) yd_by_cJ2_charAt_3b067_0 rfl rfl
theorem dJ2_charAt_3b067_10 : decode cJ2_charAt_3b067 10 = .ok (.ireturn, 1) := yd_op_172 (i := 10) yd_by_cJ2_charAt_3b067_0 rfl rfl
set_option maxRecDepth 100000 in
theorem yd_by_cJ2_checkIndex_2214a_0 : ydk cJ2_checkIndex_2214a 0 [26, 43, 184, 0, 48, 184, 1, 158, 177] = true := by decide +kernel
theorem dJ2_checkIndex_2214a_0 : decode cJ2_checkIndex_2214a 0 = .ok (.iload_n 0, 1) := yd_op_26 (i := 0) yd_by_cJ2_checkIndex_2214a_0 rfl rfl
theorem dJ2_checkIndex_2214a_1 : decode cJ2_checkIndex_2214a 1 = .ok (.aload_n 1, 1) := yd_op_43 (i := 1) yd_by_cJ2_checkIndex_2214a_0 rfl rfl
theorem dJ2_checkIndex_2214a_2 : decode cJ2_checkIndex_2214a 2 = .ok (.invokestatic 48, 3) := yd_op_184 (i := 2) (a := 0) (b := 48) yd_by_cJ2_checkIndex_2214a_0 rfl rfl
theorem dJ2_checkIndex_2214a_5 : decode cJ2_checkIndex_2214a 5 = .ok (.invokestatic 414, 3) := yd_op_184 (i := 5) (a := 1) (b := 158) yd_by_cJ2_checkIndex_2214a_0 rfl rfl
theorem dJ2_checkIndex_2214a_8 : decode cJ2_checkIndex_2214a 8 = .ok (.return_, 1) := yd_op_177 (i := 8) yd_by_cJ2_checkIndex_2214a_0 rfl rfl
set_option maxRecDepth 100000 in
theorem yd_by_cJ3_checkIndex_8e157_0 : ydk cJ3_checkIndex_8e157 0 [26, 155, 0, 8, 26, 27, 161, 0, 10, 44, 26, 27, 184, 0, 95, 191, 26, 172] = true := by decide +kernel
theorem dJ3_checkIndex_8e157_0 : decode cJ3_checkIndex_8e157 0 = .ok (.iload_n 0, 1) := yd_op_26 (i := 0) yd_by_cJ3_checkIndex_8e157_0 rfl rfl
theorem dJ3_checkIndex_8e157_1 : decode cJ3_checkIndex_8e157 1 = .ok (.ifCond .lt 8, 3) := yd_op_155 (i := 1) (a := 0) (b := 8) yd_by_cJ3_checkIndex_8e157_0 rfl rfl
theorem dJ3_checkIndex_8e157_4 : decode cJ3_checkIndex_8e157 4 = .ok (.iload_n 0, 1) := yd_op_26 (i := 4) yd_by_cJ3_checkIndex_8e157_0 rfl rfl
theorem dJ3_checkIndex_8e157_5 : decode cJ3_checkIndex_8e157 5 = .ok (.iload_n 1, 1) := yd_op_27 (i := 5) yd_by_cJ3_checkIndex_8e157_0 rfl rfl
theorem dJ3_checkIndex_8e157_6 : decode cJ3_checkIndex_8e157 6 = .ok (.if_icmp .lt 10, 3) := yd_op_161 (i := 6) (a := 0) (b := 10) yd_by_cJ3_checkIndex_8e157_0 rfl rfl
theorem dJ3_checkIndex_8e157_9 : decode cJ3_checkIndex_8e157 9 = .ok (.aload_n 2, 1) := yd_op_44 (i := 9) yd_by_cJ3_checkIndex_8e157_0 rfl rfl
theorem dJ3_checkIndex_8e157_10 : decode cJ3_checkIndex_8e157 10 = .ok (.iload_n 0, 1) := yd_op_26 (i := 10) yd_by_cJ3_checkIndex_8e157_0 rfl rfl
theorem dJ3_checkIndex_8e157_11 : decode cJ3_checkIndex_8e157 11 = .ok (.iload_n 1, 1) := yd_op_27 (i := 11) yd_by_cJ3_checkIndex_8e157_0 rfl rfl
theorem dJ3_checkIndex_8e157_12 : decode cJ3_checkIndex_8e157 12 = .ok (.invokestatic 95, 3) := yd_op_184 (i := 12) (a := 0) (b := 95) yd_by_cJ3_checkIndex_8e157_0 rfl rfl
theorem dJ3_checkIndex_8e157_15 : decode cJ3_checkIndex_8e157 15 = .ok (.athrow, 1) := yd_op_191 (i := 15) yd_by_cJ3_checkIndex_8e157_0 rfl rfl
theorem dJ3_checkIndex_8e157_16 : decode cJ3_checkIndex_8e157 16 = .ok (.iload_n 0, 1) := yd_op_26 (i := 16) yd_by_cJ3_checkIndex_8e157_0 rfl rfl
theorem dJ3_checkIndex_8e157_17 : decode cJ3_checkIndex_8e157 17 = .ok (.ireturn, 1) := yd_op_172 (i := 17) yd_by_cJ3_checkIndex_8e157_0 rfl rfl
set_option maxRecDepth 100000 in
theorem yd_by_cJ6_bitCount_0f7a4_0 : ydk cJ6_bitCount_0f7a4 0 [26, 26, 4, 124, 19, 1, 9, 126, 100, 59, 26, 19, 1, 10, 126, 26, 5, 124, 19, 1, 10, 126, 96, 59, 26, 26] = true := by decide +kernel
theorem dJ6_bitCount_0f7a4_0 : decode cJ6_bitCount_0f7a4 0 = .ok (.iload_n 0, 1) := yd_op_26 (i := 0) yd_by_cJ6_bitCount_0f7a4_0 rfl rfl
theorem dJ6_bitCount_0f7a4_1 : decode cJ6_bitCount_0f7a4 1 = .ok (.iload_n 0, 1) := yd_op_26 (i := 1) yd_by_cJ6_bitCount_0f7a4_0 rfl rfl
theorem dJ6_bitCount_0f7a4_2 : decode cJ6_bitCount_0f7a4 2 = .ok (.iconst 1, 1) := yd_op_4 (i := 2) yd_by_cJ6_bitCount_0f7a4_0 rfl rfl
theorem dJ6_bitCount_0f7a4_3 : decode cJ6_bitCount_0f7a4 3 = .ok (.iushr, 1) := yd_op_124 (i := 3) yd_by_cJ6_bitCount_0f7a4_0 rfl rfl
theorem dJ6_bitCount_0f7a4_4 : decode cJ6_bitCount_0f7a4 4 = .ok (.ldc_w 265, 3) := yd_op_19 (i := 4) (a := 1) (b := 9) yd_by_cJ6_bitCount_0f7a4_0 rfl rfl
theorem dJ6_bitCount_0f7a4_7 : decode cJ6_bitCount_0f7a4 7 = .ok (.iand, 1) := yd_op_126 (i := 7) yd_by_cJ6_bitCount_0f7a4_0 rfl rfl
theorem dJ6_bitCount_0f7a4_8 : decode cJ6_bitCount_0f7a4 8 = .ok (.isub, 1) := yd_op_100 (i := 8) yd_by_cJ6_bitCount_0f7a4_0 rfl rfl
theorem dJ6_bitCount_0f7a4_9 : decode cJ6_bitCount_0f7a4 9 = .ok (.istore_n 0, 1) := yd_op_59 (i := 9) yd_by_cJ6_bitCount_0f7a4_0 rfl rfl
theorem dJ6_bitCount_0f7a4_10 : decode cJ6_bitCount_0f7a4 10 = .ok (.iload_n 0, 1) := yd_op_26 (i := 10) yd_by_cJ6_bitCount_0f7a4_0 rfl rfl
theorem dJ6_bitCount_0f7a4_11 : decode cJ6_bitCount_0f7a4 11 = .ok (.ldc_w 266, 3) := yd_op_19 (i := 11) (a := 1) (b := 10) yd_by_cJ6_bitCount_0f7a4_0 rfl rfl
theorem dJ6_bitCount_0f7a4_14 : decode cJ6_bitCount_0f7a4 14 = .ok (.iand, 1) := yd_op_126 (i := 14) yd_by_cJ6_bitCount_0f7a4_0 rfl rfl
theorem dJ6_bitCount_0f7a4_15 : decode cJ6_bitCount_0f7a4 15 = .ok (.iload_n 0, 1) := yd_op_26 (i := 15) yd_by_cJ6_bitCount_0f7a4_0 rfl rfl
theorem dJ6_bitCount_0f7a4_16 : decode cJ6_bitCount_0f7a4 16 = .ok (.iconst 2, 1) := yd_op_5 (i := 16) yd_by_cJ6_bitCount_0f7a4_0 rfl rfl
theorem dJ6_bitCount_0f7a4_17 : decode cJ6_bitCount_0f7a4 17 = .ok (.iushr, 1) := yd_op_124 (i := 17) yd_by_cJ6_bitCount_0f7a4_0 rfl rfl
theorem dJ6_bitCount_0f7a4_18 : decode cJ6_bitCount_0f7a4 18 = .ok (.ldc_w 266, 3) := yd_op_19 (i := 18) (a := 1) (b := 10) yd_by_cJ6_bitCount_0f7a4_0 rfl rfl
theorem dJ6_bitCount_0f7a4_21 : decode cJ6_bitCount_0f7a4 21 = .ok (.iand, 1) := yd_op_126 (i := 21) yd_by_cJ6_bitCount_0f7a4_0 rfl rfl
theorem dJ6_bitCount_0f7a4_22 : decode cJ6_bitCount_0f7a4 22 = .ok (.iadd, 1) := yd_op_96 (i := 22) yd_by_cJ6_bitCount_0f7a4_0 rfl rfl
theorem dJ6_bitCount_0f7a4_23 : decode cJ6_bitCount_0f7a4 23 = .ok (.istore_n 0, 1) := yd_op_59 (i := 23) yd_by_cJ6_bitCount_0f7a4_0 rfl rfl
theorem dJ6_bitCount_0f7a4_24 : decode cJ6_bitCount_0f7a4 24 = .ok (.iload_n 0, 1) := yd_op_26 (i := 24) yd_by_cJ6_bitCount_0f7a4_0 rfl rfl
theorem dJ6_bitCount_0f7a4_25 : decode cJ6_bitCount_0f7a4 25 = .ok (.iload_n 0, 1) := yd_op_26 (i := 25) yd_by_cJ6_bitCount_0f7a4_0 rfl rfl
set_option maxRecDepth 100000 in
theorem yd_by_cJ6_bitCount_0f7a4_1 : ydk cJ6_bitCount_0f7a4 26 [7, 124, 96, 19, 1, 11, 126, 59, 26, 26, 16, 8, 124, 96, 59, 26, 26, 16, 16, 124, 96, 59, 26, 16, 63] = true := by decide +kernel
theorem dJ6_bitCount_0f7a4_26 : decode cJ6_bitCount_0f7a4 26 = .ok (.iconst 4, 1) := yd_op_7 (i := 0) yd_by_cJ6_bitCount_0f7a4_1 rfl rfl
theorem dJ6_bitCount_0f7a4_27 : decode cJ6_bitCount_0f7a4 27 = .ok (.iushr, 1) := yd_op_124 (i := 1) yd_by_cJ6_bitCount_0f7a4_1 rfl rfl
theorem dJ6_bitCount_0f7a4_28 : decode cJ6_bitCount_0f7a4 28 = .ok (.iadd, 1) := yd_op_96 (i := 2) yd_by_cJ6_bitCount_0f7a4_1 rfl rfl
theorem dJ6_bitCount_0f7a4_29 : decode cJ6_bitCount_0f7a4 29 = .ok (.ldc_w 267, 3) := yd_op_19 (i := 3) (a := 1) (b := 11) yd_by_cJ6_bitCount_0f7a4_1 rfl rfl
theorem dJ6_bitCount_0f7a4_32 : decode cJ6_bitCount_0f7a4 32 = .ok (.iand, 1) := yd_op_126 (i := 6) yd_by_cJ6_bitCount_0f7a4_1 rfl rfl
theorem dJ6_bitCount_0f7a4_33 : decode cJ6_bitCount_0f7a4 33 = .ok (.istore_n 0, 1) := yd_op_59 (i := 7) yd_by_cJ6_bitCount_0f7a4_1 rfl rfl
theorem dJ6_bitCount_0f7a4_34 : decode cJ6_bitCount_0f7a4 34 = .ok (.iload_n 0, 1) := yd_op_26 (i := 8) yd_by_cJ6_bitCount_0f7a4_1 rfl rfl
theorem dJ6_bitCount_0f7a4_35 : decode cJ6_bitCount_0f7a4 35 = .ok (.iload_n 0, 1) := yd_op_26 (i := 9) yd_by_cJ6_bitCount_0f7a4_1 rfl rfl
theorem dJ6_bitCount_0f7a4_36 : decode cJ6_bitCount_0f7a4 36 = .ok (.bipush 8, 2) := yd_op_16 (i := 10) (a := 8) yd_by_cJ6_bitCount_0f7a4_1 rfl rfl
theorem dJ6_bitCount_0f7a4_38 : decode cJ6_bitCount_0f7a4 38 = .ok (.iushr, 1) := yd_op_124 (i := 12) yd_by_cJ6_bitCount_0f7a4_1 rfl rfl
theorem dJ6_bitCount_0f7a4_39 : decode cJ6_bitCount_0f7a4 39 = .ok (.iadd, 1) := yd_op_96 (i := 13) yd_by_cJ6_bitCount_0f7a4_1 rfl rfl
theorem dJ6_bitCount_0f7a4_40 : decode cJ6_bitCount_0f7a4 40 = .ok (.istore_n 0, 1) := yd_op_59 (i := 14) yd_by_cJ6_bitCount_0f7a4_1 rfl rfl
theorem dJ6_bitCount_0f7a4_41 : decode cJ6_bitCount_0f7a4 41 = .ok (.iload_n 0, 1) := yd_op_26 (i := 15) yd_by_cJ6_bitCount_0f7a4_1 rfl rfl
theorem dJ6_bitCount_0f7a4_42 : decode cJ6_bitCount_0f7a4 42 = .ok (.iload_n 0, 1) := yd_op_26 (i := 16) yd_by_cJ6_bitCount_0f7a4_1 rfl rfl
theorem dJ6_bitCount_0f7a4_43 : decode cJ6_bitCount_0f7a4 43 = .ok (.bipush 16, 2) := yd_op_16 (i := 17) (a := 16) yd_by_cJ6_bitCount_0f7a4_1 rfl rfl
theorem dJ6_bitCount_0f7a4_45 : decode cJ6_bitCount_0f7a4 45 = .ok (.iushr, 1) := yd_op_124 (i := 19) yd_by_cJ6_bitCount_0f7a4_1 rfl rfl
theorem dJ6_bitCount_0f7a4_46 : decode cJ6_bitCount_0f7a4 46 = .ok (.iadd, 1) := yd_op_96 (i := 20) yd_by_cJ6_bitCount_0f7a4_1 rfl rfl
theorem dJ6_bitCount_0f7a4_47 : decode cJ6_bitCount_0f7a4 47 = .ok (.istore_n 0, 1) := yd_op_59 (i := 21) yd_by_cJ6_bitCount_0f7a4_1 rfl rfl
theorem dJ6_bitCount_0f7a4_48 : decode cJ6_bitCount_0f7a4 48 = .ok (.iload_n 0, 1) := yd_op_26 (i := 22) yd_by_cJ6_bitCount_0f7a4_1 rfl rfl
theorem dJ6_bitCount_0f7a4_49 : decode cJ6_bitCount_0f7a4 49 = .ok (.bipush 63, 2) := yd_op_16 (i := 23) (a := 63) yd_by_cJ6_bitCount_0f7a4_1 rfl rfl
set_option maxRecDepth 100000 in
theorem yd_by_cJ6_bitCount_0f7a4_2 : ydk cJ6_bitCount_0f7a4 51 [126, 172] = true := by decide +kernel
theorem dJ6_bitCount_0f7a4_51 : decode cJ6_bitCount_0f7a4 51 = .ok (.iand, 1) := yd_op_126 (i := 0) yd_by_cJ6_bitCount_0f7a4_2 rfl rfl
theorem dJ6_bitCount_0f7a4_52 : decode cJ6_bitCount_0f7a4 52 = .ok (.ireturn, 1) := yd_op_172 (i := 1) yd_by_cJ6_bitCount_0f7a4_2 rfl rfl
set_option maxRecDepth 100000 in
theorem yd_by_cJ9_floorDiv_7cf53_0 : ydk cJ9_floorDiv_7cf53 0 [26, 27, 108, 61, 26, 27, 130, 156, 0, 14, 28, 27, 104, 26, 159, 0, 7, 28, 4, 100, 172, 28, 172] = true := by decide +kernel
theorem dJ9_floorDiv_7cf53_0 : decode cJ9_floorDiv_7cf53 0 = .ok (.iload_n 0, 1) := yd_op_26 (i := 0) yd_by_cJ9_floorDiv_7cf53_0 rfl rfl
theorem dJ9_floorDiv_7cf53_1 : decode cJ9_floorDiv_7cf53 1 = .ok (.iload_n 1, 1) := yd_op_27 (i := 1) yd_by_cJ9_floorDiv_7cf53_0 rfl rfl
theorem dJ9_floorDiv_7cf53_2 : decode cJ9_floorDiv_7cf53 2 = .ok (.idiv, 1) := yd_op_108 (i := 2) yd_by_cJ9_floorDiv_7cf53_0 rfl rfl
theorem dJ9_floorDiv_7cf53_3 : decode cJ9_floorDiv_7cf53 3 = .ok (.istore_n 2, 1) := yd_op_61 (i := 3) yd_by_cJ9_floorDiv_7cf53_0 rfl rfl
theorem dJ9_floorDiv_7cf53_4 : decode cJ9_floorDiv_7cf53 4 = .ok (.iload_n 0, 1) := yd_op_26 (i := 4) yd_by_cJ9_floorDiv_7cf53_0 rfl rfl
theorem dJ9_floorDiv_7cf53_5 : decode cJ9_floorDiv_7cf53 5 = .ok (.iload_n 1, 1) := yd_op_27 (i := 5) yd_by_cJ9_floorDiv_7cf53_0 rfl rfl
theorem dJ9_floorDiv_7cf53_6 : decode cJ9_floorDiv_7cf53 6 = .ok (.ixor, 1) := yd_op_130 (i := 6) yd_by_cJ9_floorDiv_7cf53_0 rfl rfl
theorem dJ9_floorDiv_7cf53_7 : decode cJ9_floorDiv_7cf53 7 = .ok (.ifCond .ge 14, 3) := yd_op_156 (i := 7) (a := 0) (b := 14) yd_by_cJ9_floorDiv_7cf53_0 rfl rfl
theorem dJ9_floorDiv_7cf53_10 : decode cJ9_floorDiv_7cf53 10 = .ok (.iload_n 2, 1) := yd_op_28 (i := 10) yd_by_cJ9_floorDiv_7cf53_0 rfl rfl
theorem dJ9_floorDiv_7cf53_11 : decode cJ9_floorDiv_7cf53 11 = .ok (.iload_n 1, 1) := yd_op_27 (i := 11) yd_by_cJ9_floorDiv_7cf53_0 rfl rfl
theorem dJ9_floorDiv_7cf53_12 : decode cJ9_floorDiv_7cf53 12 = .ok (.imul, 1) := yd_op_104 (i := 12) yd_by_cJ9_floorDiv_7cf53_0 rfl rfl
theorem dJ9_floorDiv_7cf53_13 : decode cJ9_floorDiv_7cf53 13 = .ok (.iload_n 0, 1) := yd_op_26 (i := 13) yd_by_cJ9_floorDiv_7cf53_0 rfl rfl
theorem dJ9_floorDiv_7cf53_14 : decode cJ9_floorDiv_7cf53 14 = .ok (.if_icmp .eq 7, 3) := yd_op_159 (i := 14) (a := 0) (b := 7) yd_by_cJ9_floorDiv_7cf53_0 rfl rfl
theorem dJ9_floorDiv_7cf53_17 : decode cJ9_floorDiv_7cf53 17 = .ok (.iload_n 2, 1) := yd_op_28 (i := 17) yd_by_cJ9_floorDiv_7cf53_0 rfl rfl
theorem dJ9_floorDiv_7cf53_18 : decode cJ9_floorDiv_7cf53 18 = .ok (.iconst 1, 1) := yd_op_4 (i := 18) yd_by_cJ9_floorDiv_7cf53_0 rfl rfl
theorem dJ9_floorDiv_7cf53_19 : decode cJ9_floorDiv_7cf53 19 = .ok (.isub, 1) := yd_op_100 (i := 19) yd_by_cJ9_floorDiv_7cf53_0 rfl rfl
theorem dJ9_floorDiv_7cf53_20 : decode cJ9_floorDiv_7cf53 20 = .ok (.ireturn, 1) := yd_op_172 (i := 20) yd_by_cJ9_floorDiv_7cf53_0 rfl rfl
theorem dJ9_floorDiv_7cf53_21 : decode cJ9_floorDiv_7cf53 21 = .ok (.iload_n 2, 1) := yd_op_28 (i := 21) yd_by_cJ9_floorDiv_7cf53_0 rfl rfl
theorem dJ9_floorDiv_7cf53_22 : decode cJ9_floorDiv_7cf53 22 = .ok (.ireturn, 1) := yd_op_172 (i := 22) yd_by_cJ9_floorDiv_7cf53_0 rfl rfl
set_option maxRecDepth 100000 in
theorem yd_by_cJ9_abs_0f7a4_0 : ydk cJ9_abs_0f7a4 0 [26, 156, 0, 8, 26, 116, 167, 0, 4, 26, 172] = true := by decide +kernel
theorem dJ9_abs_0f7a4_0 : decode cJ9_abs_0f7a4 0 = .ok (.iload_n 0, 1) := yd_op_26 (i := 0) yd_by_cJ9_abs_0f7a4_0 rfl rfl
theorem dJ9_abs_0f7a4_1 : decode cJ9_abs_0f7a4 1 = .ok (.ifCond .ge 8, 3) := yd_op_156 (i := 1) (a := 0) (b := 8) yd_by_cJ9_abs_0f7a4_0 rfl rfl
theorem dJ9_abs_0f7a4_4 : decode cJ9_abs_0f7a4 4 = .ok (.iload_n 0, 1) := yd_op_26 (i := 4) yd_by_cJ9_abs_0f7a4_0 rfl rfl
theorem dJ9_abs_0f7a4_5 : decode cJ9_abs_0f7a4 5 = .ok (.ineg, 1) := yd_op_116 (i := 5) yd_by_cJ9_abs_0f7a4_0 rfl rfl
theorem dJ9_abs_0f7a4_6 : decode cJ9_abs_0f7a4 6 = .ok (.goto 4, 3) := yd_op_167 (i := 6) (a := 0) (b := 4) yd_by_cJ9_abs_0f7a4_0 rfl rfl
theorem dJ9_abs_0f7a4_9 : decode cJ9_abs_0f7a4 9 = .ok (.iload_n 0, 1) := yd_op_26 (i := 9) yd_by_cJ9_abs_0f7a4_0 rfl rfl
theorem dJ9_abs_0f7a4_10 : decode cJ9_abs_0f7a4 10 = .ok (.ireturn, 1) := yd_op_172 (i := 10) yd_by_cJ9_abs_0f7a4_0 rfl rfl
set_option maxRecDepth 100000 in
theorem yd_by_cJ9_max_7cf53_0 : ydk cJ9_max_7cf53 0 [26, 27, 161, 0, 7, 26, 167, 0, 4, 27, 172] = true := by decide +kernel
theorem dJ9_max_7cf53_0 : decode cJ9_max_7cf53 0 = .ok (.iload_n 0, 1) := yd_op_26 (i := 0) yd_by_cJ9_max_7cf53_0 rfl rfl
theorem dJ9_max_7cf53_1 : decode cJ9_max_7cf53 1 = .ok (.iload_n 1, 1) := yd_op_27 (i := 1) yd_by_cJ9_max_7cf53_0 rfl rfl
theorem dJ9_max_7cf53_2 : decode cJ9_max_7cf53 2 = .ok (.if_icmp .lt 7, 3) := yd_op_161 (i := 2) (a := 0) (b := 7) yd_by_cJ9_max_7cf53_0 rfl rfl
theorem dJ9_max_7cf53_5 : decode cJ9_max_7cf53 5 = .ok (.iload_n 0, 1) := yd_op_26 (i := 5) yd_by_cJ9_max_7cf53_0 rfl rfl
theorem dJ9_max_7cf53_6 : decode cJ9_max_7cf53 6 = .ok (.goto 4, 3) := yd_op_167 (i := 6) (a := 0) (b := 4) yd_by_cJ9_max_7cf53_0 rfl rfl
theorem dJ9_max_7cf53_9 : decode cJ9_max_7cf53 9 = .ok (.iload_n 1, 1) := yd_op_27 (i := 9) yd_by_cJ9_max_7cf53_0 rfl rfl
theorem dJ9_max_7cf53_10 : decode cJ9_max_7cf53 10 = .ok (.ireturn, 1) := yd_op_172 (i := 10) yd_by_cJ9_max_7cf53_0 rfl rfl
set_option maxRecDepth 100000 in
theorem yd_by_cJ9_min_7cf53_0 : ydk cJ9_min_7cf53 0 [26, 27, 163, 0, 7, 26, 167, 0, 4, 27, 172] = true := by decide +kernel
theorem dJ9_min_7cf53_0 : decode cJ9_min_7cf53 0 = .ok (.iload_n 0, 1) := yd_op_26 (i := 0) yd_by_cJ9_min_7cf53_0 rfl rfl
theorem dJ9_min_7cf53_1 : decode cJ9_min_7cf53 1 = .ok (.iload_n 1, 1) := yd_op_27 (i := 1) yd_by_cJ9_min_7cf53_0 rfl rfl
theorem dJ9_min_7cf53_2 : decode cJ9_min_7cf53 2 = .ok (.if_icmp .gt 7, 3) := yd_op_163 (i := 2) (a := 0) (b := 7) yd_by_cJ9_min_7cf53_0 rfl rfl
theorem dJ9_min_7cf53_5 : decode cJ9_min_7cf53 5 = .ok (.iload_n 0, 1) := yd_op_26 (i := 5) yd_by_cJ9_min_7cf53_0 rfl rfl
theorem dJ9_min_7cf53_6 : decode cJ9_min_7cf53 6 = .ok (.goto 4, 3) := yd_op_167 (i := 6) (a := 0) (b := 4) yd_by_cJ9_min_7cf53_0 rfl rfl
theorem dJ9_min_7cf53_9 : decode cJ9_min_7cf53 9 = .ok (.iload_n 1, 1) := yd_op_27 (i := 9) yd_by_cJ9_min_7cf53_0 rfl rfl
theorem dJ9_min_7cf53_10 : decode cJ9_min_7cf53 10 = .ok (.ireturn, 1) := yd_op_172 (i := 10) yd_by_cJ9_min_7cf53_0 rfl rfl
set_option maxRecDepth 100000 in
theorem yd_by_cX0_init_0 : ydk cX0_init 0 [42, 183, 0, 3, 42, 16, 33, 188, 10, 181, 0, 9, 42, 16, 40, 188, 10, 181, 0, 15, 42, 16, 10, 188, 10, 181, 0, 18, 42, 3, 181, 0, 21, 42, 180, 0, 9, 16, 24] = true := by decide +kernel
theorem dX0_init_0 : decode cX0_init 0 = .ok (.aload_n 0, 1) := yd_op_42 (i := 0) yd_by_cX0_init_0 rfl rfl
theorem dX0_init_1 : decode cX0_init 1 = .ok (.invokespecial 3, 3) := yd_op_183 (i := 1) (a := 0) (b := 3) yd_by_cX0_init_0 rfl rfl
theorem dX0_init_4 : decode cX0_init 4 = .ok (.aload_n 0, 1) := yd_op_42 (i := 4) yd_by_cX0_init_0 rfl rfl
theorem dX0_init_5 : decode cX0_init 5 = .ok (.bipush 33, 2) := yd_op_16 (i := 5) (a := 33) yd_by_cX0_init_0 rfl rfl
theorem dX0_init_7 : decode cX0_init 7 = .ok (.newarray .int, 2) := yd_op_188_10 (i := 7) yd_by_cX0_init_0 rfl rfl
theorem dX0_init_9 : decode cX0_init 9 = .ok (.putfield 9, 3) := yd_op_181 (i := 9) (a := 0) (b := 9) yd_by_cX0_init_0 rfl rfl
theorem dX0_init_12 : decode cX0_init 12 = .ok (.aload_n 0, 1) := yd_op_42 (i := 12) yd_by_cX0_init_0 rfl rfl
theorem dX0_init_13 : decode cX0_init 13 = .ok (.bipush 40, 2) := yd_op_16 (i := 13) (a := 40) yd_by_cX0_init_0 rfl rfl
theorem dX0_init_15 : decode cX0_init 15 = .ok (.newarray .int, 2) := yd_op_188_10 (i := 15) yd_by_cX0_init_0 rfl rfl
theorem dX0_init_17 : decode cX0_init 17 = .ok (.putfield 15, 3) := yd_op_181 (i := 17) (a := 0) (b := 15) yd_by_cX0_init_0 rfl rfl
theorem dX0_init_20 : decode cX0_init 20 = .ok (.aload_n 0, 1) := yd_op_42 (i := 20) yd_by_cX0_init_0 rfl rfl
theorem dX0_init_21 : decode cX0_init 21 = .ok (.bipush 10, 2) := yd_op_16 (i := 21) (a := 10) yd_by_cX0_init_0 rfl rfl
theorem dX0_init_23 : decode cX0_init 23 = .ok (.newarray .int, 2) := yd_op_188_10 (i := 23) yd_by_cX0_init_0 rfl rfl
theorem dX0_init_25 : decode cX0_init 25 = .ok (.putfield 18, 3) := yd_op_181 (i := 25) (a := 0) (b := 18) yd_by_cX0_init_0 rfl rfl
theorem dX0_init_28 : decode cX0_init 28 = .ok (.aload_n 0, 1) := yd_op_42 (i := 28) yd_by_cX0_init_0 rfl rfl
theorem dX0_init_29 : decode cX0_init 29 = .ok (.iconst 0, 1) := yd_op_3 (i := 29) yd_by_cX0_init_0 rfl rfl
theorem dX0_init_30 : decode cX0_init 30 = .ok (.putfield 21, 3) := yd_op_181 (i := 30) (a := 0) (b := 21) yd_by_cX0_init_0 rfl rfl
theorem dX0_init_33 : decode cX0_init 33 = .ok (.aload_n 0, 1) := yd_op_42 (i := 33) yd_by_cX0_init_0 rfl rfl
theorem dX0_init_34 : decode cX0_init 34 = .ok (.getfield 9, 3) := yd_op_180 (i := 34) (a := 0) (b := 9) yd_by_cX0_init_0 rfl rfl
theorem dX0_init_37 : decode cX0_init 37 = .ok (.bipush 24, 2) := yd_op_16 (i := 37) (a := 24) yd_by_cX0_init_0 rfl rfl
set_option maxRecDepth 100000 in
theorem yd_by_cX0_init_1 : ydk cX0_init 39 [4, 79, 177] = true := by decide +kernel
theorem dX0_init_39 : decode cX0_init 39 = .ok (.iconst 1, 1) := yd_op_4 (i := 0) yd_by_cX0_init_1 rfl rfl
theorem dX0_init_40 : decode cX0_init 40 = .ok (.iastore, 1) := yd_op_79 (i := 1) yd_by_cX0_init_1 rfl rfl
theorem dX0_init_41 : decode cX0_init 41 = .ok (.return_, 1) := yd_op_177 (i := 2) yd_by_cX0_init_1 rfl rfl
set_option maxRecDepth 100000 in
theorem yd_by_cX0_run_0 : ydk cX0_run 0 [3, 61, 3, 62, 29, 43, 180, 0, 25, 162, 0, 200, 43, 180, 0, 30, 29, 46, 54, 4, 21, 4, 2, 130, 54, 5, 21, 4, 155, 0, 26, 28] = true := by decide +kernel
theorem dX0_run_0 : decode cX0_run 0 = .ok (.iconst 0, 1) := yd_op_3 (i := 0) yd_by_cX0_run_0 rfl rfl
theorem dX0_run_1 : decode cX0_run 1 = .ok (.istore_n 2, 1) := yd_op_61 (i := 1) yd_by_cX0_run_0 rfl rfl
theorem dX0_run_2 : decode cX0_run 2 = .ok (.iconst 0, 1) := yd_op_3 (i := 2) yd_by_cX0_run_0 rfl rfl
theorem dX0_run_3 : decode cX0_run 3 = .ok (.istore_n 3, 1) := yd_op_62 (i := 3) yd_by_cX0_run_0 rfl rfl
theorem dX0_run_4 : decode cX0_run 4 = .ok (.iload_n 3, 1) := yd_op_29 (i := 4) yd_by_cX0_run_0 rfl rfl
theorem dX0_run_5 : decode cX0_run 5 = .ok (.aload_n 1, 1) := yd_op_43 (i := 5) yd_by_cX0_run_0 rfl rfl
theorem dX0_run_6 : decode cX0_run 6 = .ok (.getfield 25, 3) := yd_op_180 (i := 6) (a := 0) (b := 25) yd_by_cX0_run_0 rfl rfl
theorem dX0_run_9 : decode cX0_run 9 = .ok (.if_icmp .ge 200, 3) := yd_op_162 (i := 9) (a := 0) (b := 200) yd_by_cX0_run_0 rfl rfl
theorem dX0_run_12 : decode cX0_run 12 = .ok (.aload_n 1, 1) := yd_op_43 (i := 12) yd_by_cX0_run_0 rfl rfl
theorem dX0_run_13 : decode cX0_run 13 = .ok (.getfield 30, 3) := yd_op_180 (i := 13) (a := 0) (b := 30) yd_by_cX0_run_0 rfl rfl
theorem dX0_run_16 : decode cX0_run 16 = .ok (.iload_n 3, 1) := yd_op_29 (i := 16) yd_by_cX0_run_0 rfl rfl
theorem dX0_run_17 : decode cX0_run 17 = .ok (.iaload, 1) := yd_op_46 (i := 17) yd_by_cX0_run_0 rfl rfl
theorem dX0_run_18 : decode cX0_run 18 = .ok (.istore 4, 2) := yd_op_54 (i := 18) (a := 4) yd_by_cX0_run_0 rfl rfl
theorem dX0_run_20 : decode cX0_run 20 = .ok (.iload 4, 2) := yd_op_21 (i := 20) (a := 4) yd_by_cX0_run_0 rfl rfl
theorem dX0_run_22 : decode cX0_run 22 = .ok (.iconst (-1), 1) := yd_op_2 (i := 22) yd_by_cX0_run_0 rfl rfl
theorem dX0_run_23 : decode cX0_run 23 = .ok (.ixor, 1) := yd_op_130 (i := 23) yd_by_cX0_run_0 rfl rfl
theorem dX0_run_24 : decode cX0_run 24 = .ok (.istore 5, 2) := yd_op_54 (i := 24) (a := 5) yd_by_cX0_run_0 rfl rfl
theorem dX0_run_26 : decode cX0_run 26 = .ok (.iload 4, 2) := yd_op_21 (i := 26) (a := 4) yd_by_cX0_run_0 rfl rfl
theorem dX0_run_28 : decode cX0_run 28 = .ok (.ifCond .lt 26, 3) := yd_op_155 (i := 28) (a := 0) (b := 26) yd_by_cX0_run_0 rfl rfl
theorem dX0_run_31 : decode cX0_run 31 = .ok (.iload_n 2, 1) := yd_op_28 (i := 31) yd_by_cX0_run_0 rfl rfl
set_option maxRecDepth 100000 in
theorem yd_by_cX0_run_1 : ydk cX0_run 32 [42, 180, 0, 15, 190, 162, 0, 17, 42, 180, 0, 15, 28, 21, 4, 79, 132, 2, 1, 167, 0, 152, 21, 5, 184, 0, 33, 153, 0, 41, 28, 4, 164, 0, 36, 132, 2, 255, 42, 180, 0, 15] = true := by decide +kernel
theorem dX0_run_32 : decode cX0_run 32 = .ok (.aload_n 0, 1) := yd_op_42 (i := 0) yd_by_cX0_run_1 rfl rfl
theorem dX0_run_33 : decode cX0_run 33 = .ok (.getfield 15, 3) := yd_op_180 (i := 1) (a := 0) (b := 15) yd_by_cX0_run_1 rfl rfl
theorem dX0_run_36 : decode cX0_run 36 = .ok (.arraylength, 1) := yd_op_190 (i := 4) yd_by_cX0_run_1 rfl rfl
theorem dX0_run_37 : decode cX0_run 37 = .ok (.if_icmp .ge 17, 3) := yd_op_162 (i := 5) (a := 0) (b := 17) yd_by_cX0_run_1 rfl rfl
theorem dX0_run_40 : decode cX0_run 40 = .ok (.aload_n 0, 1) := yd_op_42 (i := 8) yd_by_cX0_run_1 rfl rfl
theorem dX0_run_41 : decode cX0_run 41 = .ok (.getfield 15, 3) := yd_op_180 (i := 9) (a := 0) (b := 15) yd_by_cX0_run_1 rfl rfl
theorem dX0_run_44 : decode cX0_run 44 = .ok (.iload_n 2, 1) := yd_op_28 (i := 12) yd_by_cX0_run_1 rfl rfl
theorem dX0_run_45 : decode cX0_run 45 = .ok (.iload 4, 2) := yd_op_21 (i := 13) (a := 4) yd_by_cX0_run_1 rfl rfl
theorem dX0_run_47 : decode cX0_run 47 = .ok (.iastore, 1) := yd_op_79 (i := 15) yd_by_cX0_run_1 rfl rfl
theorem dX0_run_48 : decode cX0_run 48 = .ok (.iinc 2 1, 3) := yd_op_132 (i := 16) (a := 2) (b := 1) yd_by_cX0_run_1 rfl rfl
theorem dX0_run_51 : decode cX0_run 51 = .ok (.goto 152, 3) := yd_op_167 (i := 19) (a := 0) (b := 152) yd_by_cX0_run_1 rfl rfl
theorem dX0_run_54 : decode cX0_run 54 = .ok (.iload 5, 2) := yd_op_21 (i := 22) (a := 5) yd_by_cX0_run_1 rfl rfl
theorem dX0_run_56 : decode cX0_run 56 = .ok (.invokestatic 33, 3) := yd_op_184 (i := 24) (a := 0) (b := 33) yd_by_cX0_run_1 rfl rfl
theorem dX0_run_59 : decode cX0_run 59 = .ok (.ifCond .eq 41, 3) := yd_op_153 (i := 27) (a := 0) (b := 41) yd_by_cX0_run_1 rfl rfl
theorem dX0_run_62 : decode cX0_run 62 = .ok (.iload_n 2, 1) := yd_op_28 (i := 30) yd_by_cX0_run_1 rfl rfl
theorem dX0_run_63 : decode cX0_run 63 = .ok (.iconst 1, 1) := yd_op_4 (i := 31) yd_by_cX0_run_1 rfl rfl
theorem dX0_run_64 : decode cX0_run 64 = .ok (.if_icmp .le 36, 3) := yd_op_164 (i := 32) (a := 0) (b := 36) yd_by_cX0_run_1 rfl rfl
theorem dX0_run_67 : decode cX0_run 67 = .ok (.iinc 2 (-1), 3) := yd_op_132 (i := 35) (a := 2) (b := 255) yd_by_cX0_run_1 rfl rfl
theorem dX0_run_70 : decode cX0_run 70 = .ok (.aload_n 0, 1) := yd_op_42 (i := 38) yd_by_cX0_run_1 rfl rfl
theorem dX0_run_71 : decode cX0_run 71 = .ok (.getfield 15, 3) := yd_op_180 (i := 39) (a := 0) (b := 15) yd_by_cX0_run_1 rfl rfl
set_option maxRecDepth 100000 in
theorem yd_by_cX0_run_2 : ydk cX0_run 74 [28, 4, 100, 21, 5, 42, 180, 0, 15, 28, 4, 100, 46, 42, 180, 0, 15, 28, 46, 184, 0, 37, 79, 167, 0, 106, 21, 5, 16, 23, 160, 0, 28] = true := by decide +kernel
theorem dX0_run_74 : decode cX0_run 74 = .ok (.iload_n 2, 1) := yd_op_28 (i := 0) yd_by_cX0_run_2 rfl rfl
theorem dX0_run_75 : decode cX0_run 75 = .ok (.iconst 1, 1) := yd_op_4 (i := 1) yd_by_cX0_run_2 rfl rfl
theorem dX0_run_76 : decode cX0_run 76 = .ok (.isub, 1) := yd_op_100 (i := 2) yd_by_cX0_run_2 rfl rfl
theorem dX0_run_77 : decode cX0_run 77 = .ok (.iload 5, 2) := yd_op_21 (i := 3) (a := 5) yd_by_cX0_run_2 rfl rfl
theorem dX0_run_79 : decode cX0_run 79 = .ok (.aload_n 0, 1) := yd_op_42 (i := 5) yd_by_cX0_run_2 rfl rfl
theorem dX0_run_80 : decode cX0_run 80 = .ok (.getfield 15, 3) := yd_op_180 (i := 6) (a := 0) (b := 15) yd_by_cX0_run_2 rfl rfl
theorem dX0_run_83 : decode cX0_run 83 = .ok (.iload_n 2, 1) := yd_op_28 (i := 9) yd_by_cX0_run_2 rfl rfl
theorem dX0_run_84 : decode cX0_run 84 = .ok (.iconst 1, 1) := yd_op_4 (i := 10) yd_by_cX0_run_2 rfl rfl
theorem dX0_run_85 : decode cX0_run 85 = .ok (.isub, 1) := yd_op_100 (i := 11) yd_by_cX0_run_2 rfl rfl
theorem dX0_run_86 : decode cX0_run 86 = .ok (.iaload, 1) := yd_op_46 (i := 12) yd_by_cX0_run_2 rfl rfl
theorem dX0_run_87 : decode cX0_run 87 = .ok (.aload_n 0, 1) := yd_op_42 (i := 13) yd_by_cX0_run_2 rfl rfl
theorem dX0_run_88 : decode cX0_run 88 = .ok (.getfield 15, 3) := yd_op_180 (i := 14) (a := 0) (b := 15) yd_by_cX0_run_2 rfl rfl
theorem dX0_run_91 : decode cX0_run 91 = .ok (.iload_n 2, 1) := yd_op_28 (i := 17) yd_by_cX0_run_2 rfl rfl
theorem dX0_run_92 : decode cX0_run 92 = .ok (.iaload, 1) := yd_op_46 (i := 18) yd_by_cX0_run_2 rfl rfl
theorem dX0_run_93 : decode cX0_run 93 = .ok (.invokestatic 37, 3) := yd_op_184 (i := 19) (a := 0) (b := 37) yd_by_cX0_run_2 rfl rfl
theorem dX0_run_96 : decode cX0_run 96 = .ok (.iastore, 1) := yd_op_79 (i := 22) yd_by_cX0_run_2 rfl rfl
theorem dX0_run_97 : decode cX0_run 97 = .ok (.goto 106, 3) := yd_op_167 (i := 23) (a := 0) (b := 106) yd_by_cX0_run_2 rfl rfl
theorem dX0_run_100 : decode cX0_run 100 = .ok (.iload 5, 2) := yd_op_21 (i := 26) (a := 5) yd_by_cX0_run_2 rfl rfl
theorem dX0_run_102 : decode cX0_run 102 = .ok (.bipush 23, 2) := yd_op_16 (i := 28) (a := 23) yd_by_cX0_run_2 rfl rfl
theorem dX0_run_104 : decode cX0_run 104 = .ok (.if_icmp .ne 28, 3) := yd_op_160 (i := 30) (a := 0) (b := 28) yd_by_cX0_run_2 rfl rfl
set_option maxRecDepth 100000 in
theorem yd_by_cX0_run_3 : ydk cX0_run 107 [28, 158, 0, 24, 42, 180, 0, 15, 28, 4, 100, 4, 42, 180, 0, 15, 28, 4, 100, 46, 100, 79, 167, 0, 74, 21, 5, 16, 20, 160, 0, 30] = true := by decide +kernel
theorem dX0_run_107 : decode cX0_run 107 = .ok (.iload_n 2, 1) := yd_op_28 (i := 0) yd_by_cX0_run_3 rfl rfl
theorem dX0_run_108 : decode cX0_run 108 = .ok (.ifCond .le 24, 3) := yd_op_158 (i := 1) (a := 0) (b := 24) yd_by_cX0_run_3 rfl rfl
theorem dX0_run_111 : decode cX0_run 111 = .ok (.aload_n 0, 1) := yd_op_42 (i := 4) yd_by_cX0_run_3 rfl rfl
theorem dX0_run_112 : decode cX0_run 112 = .ok (.getfield 15, 3) := yd_op_180 (i := 5) (a := 0) (b := 15) yd_by_cX0_run_3 rfl rfl
theorem dX0_run_115 : decode cX0_run 115 = .ok (.iload_n 2, 1) := yd_op_28 (i := 8) yd_by_cX0_run_3 rfl rfl
theorem dX0_run_116 : decode cX0_run 116 = .ok (.iconst 1, 1) := yd_op_4 (i := 9) yd_by_cX0_run_3 rfl rfl
theorem dX0_run_117 : decode cX0_run 117 = .ok (.isub, 1) := yd_op_100 (i := 10) yd_by_cX0_run_3 rfl rfl
theorem dX0_run_118 : decode cX0_run 118 = .ok (.iconst 1, 1) := yd_op_4 (i := 11) yd_by_cX0_run_3 rfl rfl
theorem dX0_run_119 : decode cX0_run 119 = .ok (.aload_n 0, 1) := yd_op_42 (i := 12) yd_by_cX0_run_3 rfl rfl
theorem dX0_run_120 : decode cX0_run 120 = .ok (.getfield 15, 3) := yd_op_180 (i := 13) (a := 0) (b := 15) yd_by_cX0_run_3 rfl rfl
theorem dX0_run_123 : decode cX0_run 123 = .ok (.iload_n 2, 1) := yd_op_28 (i := 16) yd_by_cX0_run_3 rfl rfl
theorem dX0_run_124 : decode cX0_run 124 = .ok (.iconst 1, 1) := yd_op_4 (i := 17) yd_by_cX0_run_3 rfl rfl
theorem dX0_run_125 : decode cX0_run 125 = .ok (.isub, 1) := yd_op_100 (i := 18) yd_by_cX0_run_3 rfl rfl
theorem dX0_run_126 : decode cX0_run 126 = .ok (.iaload, 1) := yd_op_46 (i := 19) yd_by_cX0_run_3 rfl rfl
theorem dX0_run_127 : decode cX0_run 127 = .ok (.isub, 1) := yd_op_100 (i := 20) yd_by_cX0_run_3 rfl rfl
theorem dX0_run_128 : decode cX0_run 128 = .ok (.iastore, 1) := yd_op_79 (i := 21) yd_by_cX0_run_3 rfl rfl
theorem dX0_run_129 : decode cX0_run 129 = .ok (.goto 74, 3) := yd_op_167 (i := 22) (a := 0) (b := 74) yd_by_cX0_run_3 rfl rfl
theorem dX0_run_132 : decode cX0_run 132 = .ok (.iload 5, 2) := yd_op_21 (i := 25) (a := 5) yd_by_cX0_run_3 rfl rfl
theorem dX0_run_134 : decode cX0_run 134 = .ok (.bipush 20, 2) := yd_op_16 (i := 27) (a := 20) yd_by_cX0_run_3 rfl rfl
theorem dX0_run_136 : decode cX0_run 136 = .ok (.if_icmp .ne 30, 3) := yd_op_160 (i := 29) (a := 0) (b := 30) yd_by_cX0_run_3 rfl rfl
set_option maxRecDepth 100000 in
theorem yd_by_cX0_run_4 : ydk cX0_run 139 [28, 158, 0, 26, 42, 180, 0, 15, 28, 4, 100, 42, 42, 180, 0, 15, 28, 4, 100, 46, 182, 0, 41, 79, 167, 0, 40, 21, 5, 155, 0, 35, 21, 5] = true := by decide +kernel
theorem dX0_run_139 : decode cX0_run 139 = .ok (.iload_n 2, 1) := yd_op_28 (i := 0) yd_by_cX0_run_4 rfl rfl
theorem dX0_run_140 : decode cX0_run 140 = .ok (.ifCond .le 26, 3) := yd_op_158 (i := 1) (a := 0) (b := 26) yd_by_cX0_run_4 rfl rfl
theorem dX0_run_143 : decode cX0_run 143 = .ok (.aload_n 0, 1) := yd_op_42 (i := 4) yd_by_cX0_run_4 rfl rfl
theorem dX0_run_144 : decode cX0_run 144 = .ok (.getfield 15, 3) := yd_op_180 (i := 5) (a := 0) (b := 15) yd_by_cX0_run_4 rfl rfl
theorem dX0_run_147 : decode cX0_run 147 = .ok (.iload_n 2, 1) := yd_op_28 (i := 8) yd_by_cX0_run_4 rfl rfl
theorem dX0_run_148 : decode cX0_run 148 = .ok (.iconst 1, 1) := yd_op_4 (i := 9) yd_by_cX0_run_4 rfl rfl
theorem dX0_run_149 : decode cX0_run 149 = .ok (.isub, 1) := yd_op_100 (i := 10) yd_by_cX0_run_4 rfl rfl
theorem dX0_run_150 : decode cX0_run 150 = .ok (.aload_n 0, 1) := yd_op_42 (i := 11) yd_by_cX0_run_4 rfl rfl
theorem dX0_run_151 : decode cX0_run 151 = .ok (.aload_n 0, 1) := yd_op_42 (i := 12) yd_by_cX0_run_4 rfl rfl
theorem dX0_run_152 : decode cX0_run 152 = .ok (.getfield 15, 3) := yd_op_180 (i := 13) (a := 0) (b := 15) yd_by_cX0_run_4 rfl rfl
theorem dX0_run_155 : decode cX0_run 155 = .ok (.iload_n 2, 1) := yd_op_28 (i := 16) yd_by_cX0_run_4 rfl rfl
theorem dX0_run_156 : decode cX0_run 156 = .ok (.iconst 1, 1) := yd_op_4 (i := 17) yd_by_cX0_run_4 rfl rfl
theorem dX0_run_157 : decode cX0_run 157 = .ok (.isub, 1) := yd_op_100 (i := 18) yd_by_cX0_run_4 rfl rfl
theorem dX0_run_158 : decode cX0_run 158 = .ok (.iaload, 1) := yd_op_46 (i := 19) yd_by_cX0_run_4 rfl rfl
theorem dX0_run_159 : decode cX0_run 159 = .ok (.invokevirtual 41, 3) := yd_op_182 (i := 20) (a := 0) (b := 41) yd_by_cX0_run_4 rfl rfl
theorem dX0_run_162 : decode cX0_run 162 = .ok (.iastore, 1) := yd_op_79 (i := 23) yd_by_cX0_run_4 rfl rfl
theorem dX0_run_163 : decode cX0_run 163 = .ok (.goto 40, 3) := yd_op_167 (i := 24) (a := 0) (b := 40) yd_by_cX0_run_4 rfl rfl
theorem dX0_run_166 : decode cX0_run 166 = .ok (.iload 5, 2) := yd_op_21 (i := 27) (a := 5) yd_by_cX0_run_4 rfl rfl
theorem dX0_run_168 : decode cX0_run 168 = .ok (.ifCond .lt 35, 3) := yd_op_155 (i := 29) (a := 0) (b := 35) yd_by_cX0_run_4 rfl rfl
theorem dX0_run_171 : decode cX0_run 171 = .ok (.iload 5, 2) := yd_op_21 (i := 32) (a := 5) yd_by_cX0_run_4 rfl rfl
set_option maxRecDepth 100000 in
theorem yd_by_cX0_run_5 : ydk cX0_run 173 [16, 33, 162, 0, 28, 28, 42, 180, 0, 15, 190, 162, 0, 19, 42, 180, 0, 15, 28, 42, 180, 0, 9, 21, 5, 46, 79, 132, 2, 1, 132, 3, 1, 167, 255, 54, 42, 180, 0, 15] = true := by decide +kernel
theorem dX0_run_173 : decode cX0_run 173 = .ok (.bipush 33, 2) := yd_op_16 (i := 0) (a := 33) yd_by_cX0_run_5 rfl rfl
theorem dX0_run_175 : decode cX0_run 175 = .ok (.if_icmp .ge 28, 3) := yd_op_162 (i := 2) (a := 0) (b := 28) yd_by_cX0_run_5 rfl rfl
theorem dX0_run_178 : decode cX0_run 178 = .ok (.iload_n 2, 1) := yd_op_28 (i := 5) yd_by_cX0_run_5 rfl rfl
theorem dX0_run_179 : decode cX0_run 179 = .ok (.aload_n 0, 1) := yd_op_42 (i := 6) yd_by_cX0_run_5 rfl rfl
theorem dX0_run_180 : decode cX0_run 180 = .ok (.getfield 15, 3) := yd_op_180 (i := 7) (a := 0) (b := 15) yd_by_cX0_run_5 rfl rfl
theorem dX0_run_183 : decode cX0_run 183 = .ok (.arraylength, 1) := yd_op_190 (i := 10) yd_by_cX0_run_5 rfl rfl
theorem dX0_run_184 : decode cX0_run 184 = .ok (.if_icmp .ge 19, 3) := yd_op_162 (i := 11) (a := 0) (b := 19) yd_by_cX0_run_5 rfl rfl
theorem dX0_run_187 : decode cX0_run 187 = .ok (.aload_n 0, 1) := yd_op_42 (i := 14) yd_by_cX0_run_5 rfl rfl
theorem dX0_run_188 : decode cX0_run 188 = .ok (.getfield 15, 3) := yd_op_180 (i := 15) (a := 0) (b := 15) yd_by_cX0_run_5 rfl rfl
theorem dX0_run_191 : decode cX0_run 191 = .ok (.iload_n 2, 1) := yd_op_28 (i := 18) yd_by_cX0_run_5 rfl rfl
theorem dX0_run_192 : decode cX0_run 192 = .ok (.aload_n 0, 1) := yd_op_42 (i := 19) yd_by_cX0_run_5 rfl rfl
theorem dX0_run_193 : decode cX0_run 193 = .ok (.getfield 9, 3) := yd_op_180 (i := 20) (a := 0) (b := 9) yd_by_cX0_run_5 rfl rfl
theorem dX0_run_196 : decode cX0_run 196 = .ok (.iload 5, 2) := yd_op_21 (i := 23) (a := 5) yd_by_cX0_run_5 rfl rfl
theorem dX0_run_198 : decode cX0_run 198 = .ok (.iaload, 1) := yd_op_46 (i := 25) yd_by_cX0_run_5 rfl rfl
theorem dX0_run_199 : decode cX0_run 199 = .ok (.iastore, 1) := yd_op_79 (i := 26) yd_by_cX0_run_5 rfl rfl
theorem dX0_run_200 : decode cX0_run 200 = .ok (.iinc 2 1, 3) := yd_op_132 (i := 27) (a := 2) (b := 1) yd_by_cX0_run_5 rfl rfl
theorem dX0_run_203 : decode cX0_run 203 = .ok (.iinc 3 1, 3) := yd_op_132 (i := 30) (a := 3) (b := 1) yd_by_cX0_run_5 rfl rfl
theorem dX0_run_206 : decode cX0_run 206 = .ok (.goto (-202), 3) := yd_op_167 (i := 33) (a := 255) (b := 54) yd_by_cX0_run_5 rfl rfl
theorem dX0_run_209 : decode cX0_run 209 = .ok (.aload_n 0, 1) := yd_op_42 (i := 36) yd_by_cX0_run_5 rfl rfl
theorem dX0_run_210 : decode cX0_run 210 = .ok (.getfield 15, 3) := yd_op_180 (i := 37) (a := 0) (b := 15) yd_by_cX0_run_5 rfl rfl
set_option maxRecDepth 100000 in
theorem yd_by_cX0_run_6 : ydk cX0_run 213 [3, 46, 172] = true := by decide +kernel
theorem dX0_run_213 : decode cX0_run 213 = .ok (.iconst 0, 1) := yd_op_3 (i := 0) yd_by_cX0_run_6 rfl rfl
theorem dX0_run_214 : decode cX0_run 214 = .ok (.iaload, 1) := yd_op_46 (i := 1) yd_by_cX0_run_6 rfl rfl
theorem dX0_run_215 : decode cX0_run 215 = .ok (.ireturn, 1) := yd_op_172 (i := 2) yd_by_cX0_run_6 rfl rfl
set_option maxRecDepth 100000 in
theorem yd_by_cX0_takesTwo_0 : ydk cX0_takesTwo 0 [26, 16, 33, 162, 0, 27, 26, 16, 21, 159, 0, 21, 26, 16, 22, 159, 0, 15, 26, 16, 25, 159, 0, 9, 26, 16, 26, 160, 0, 7, 4, 167, 0, 4, 3, 172] = true := by decide +kernel
theorem dX0_takesTwo_0 : decode cX0_takesTwo 0 = .ok (.iload_n 0, 1) := yd_op_26 (i := 0) yd_by_cX0_takesTwo_0 rfl rfl
theorem dX0_takesTwo_1 : decode cX0_takesTwo 1 = .ok (.bipush 33, 2) := yd_op_16 (i := 1) (a := 33) yd_by_cX0_takesTwo_0 rfl rfl
theorem dX0_takesTwo_3 : decode cX0_takesTwo 3 = .ok (.if_icmp .ge 27, 3) := yd_op_162 (i := 3) (a := 0) (b := 27) yd_by_cX0_takesTwo_0 rfl rfl
theorem dX0_takesTwo_6 : decode cX0_takesTwo 6 = .ok (.iload_n 0, 1) := yd_op_26 (i := 6) yd_by_cX0_takesTwo_0 rfl rfl
theorem dX0_takesTwo_7 : decode cX0_takesTwo 7 = .ok (.bipush 21, 2) := yd_op_16 (i := 7) (a := 21) yd_by_cX0_takesTwo_0 rfl rfl
theorem dX0_takesTwo_9 : decode cX0_takesTwo 9 = .ok (.if_icmp .eq 21, 3) := yd_op_159 (i := 9) (a := 0) (b := 21) yd_by_cX0_takesTwo_0 rfl rfl
theorem dX0_takesTwo_12 : decode cX0_takesTwo 12 = .ok (.iload_n 0, 1) := yd_op_26 (i := 12) yd_by_cX0_takesTwo_0 rfl rfl
theorem dX0_takesTwo_13 : decode cX0_takesTwo 13 = .ok (.bipush 22, 2) := yd_op_16 (i := 13) (a := 22) yd_by_cX0_takesTwo_0 rfl rfl
theorem dX0_takesTwo_15 : decode cX0_takesTwo 15 = .ok (.if_icmp .eq 15, 3) := yd_op_159 (i := 15) (a := 0) (b := 15) yd_by_cX0_takesTwo_0 rfl rfl
theorem dX0_takesTwo_18 : decode cX0_takesTwo 18 = .ok (.iload_n 0, 1) := yd_op_26 (i := 18) yd_by_cX0_takesTwo_0 rfl rfl
theorem dX0_takesTwo_19 : decode cX0_takesTwo 19 = .ok (.bipush 25, 2) := yd_op_16 (i := 19) (a := 25) yd_by_cX0_takesTwo_0 rfl rfl
theorem dX0_takesTwo_21 : decode cX0_takesTwo 21 = .ok (.if_icmp .eq 9, 3) := yd_op_159 (i := 21) (a := 0) (b := 9) yd_by_cX0_takesTwo_0 rfl rfl
theorem dX0_takesTwo_24 : decode cX0_takesTwo 24 = .ok (.iload_n 0, 1) := yd_op_26 (i := 24) yd_by_cX0_takesTwo_0 rfl rfl
theorem dX0_takesTwo_25 : decode cX0_takesTwo 25 = .ok (.bipush 26, 2) := yd_op_16 (i := 25) (a := 26) yd_by_cX0_takesTwo_0 rfl rfl
theorem dX0_takesTwo_27 : decode cX0_takesTwo 27 = .ok (.if_icmp .ne 7, 3) := yd_op_160 (i := 27) (a := 0) (b := 7) yd_by_cX0_takesTwo_0 rfl rfl
theorem dX0_takesTwo_30 : decode cX0_takesTwo 30 = .ok (.iconst 1, 1) := yd_op_4 (i := 30) yd_by_cX0_takesTwo_0 rfl rfl
theorem dX0_takesTwo_31 : decode cX0_takesTwo 31 = .ok (.goto 4, 3) := yd_op_167 (i := 31) (a := 0) (b := 4) yd_by_cX0_takesTwo_0 rfl rfl
theorem dX0_takesTwo_34 : decode cX0_takesTwo 34 = .ok (.iconst 0, 1) := yd_op_3 (i := 34) yd_by_cX0_takesTwo_0 rfl rfl
theorem dX0_takesTwo_35 : decode cX0_takesTwo 35 = .ok (.ireturn, 1) := yd_op_172 (i := 35) yd_by_cX0_takesTwo_0 rfl rfl
theorem dX0_joined_1 : decode cX0_joined 1 = .ok (.tableswitch 277 21 62 #[183, 187, 277, 277, 191, 197, 277, 277, 277, 277, 277, 277, 277, 277, 277, 277, 277, 277, 277, 277, 277, 254, 236, 277, 245, 277, 263, 277, 277, 277, 277, 277, 277, 277, 277, 277, 277, 277, 277, 203, 225, 214], 183) := by decide +kernel
set_option maxRecDepth 100000 in
theorem yd_by_cX0_joined_0 : ydk cX0_joined 0 [26, 170, 0, 0, 0, 0, 1, 21, 0, 0, 0, 21, 0, 0, 0, 62, 0, 0, 0, 183, 0, 0, 0, 187, 0, 0, 1, 21, 0, 0, 1, 21, 0, 0, 0, 191, 0, 0, 0, 197, 0, 0, 1, 21, 0, 0, 1, 21, 0, 0, 1, 21, 0, 0, 1, 21, 0, 0, 1, 21, 0, 0, 1, 21, 0, 0, 1, 21, 0, 0, 1, 21, 0, 0, 1, 21, 0, 0, 1, 21, 0, 0, 1, 21, 0, 0, 1, 21, 0, 0, 1, 21, 0, 0, 1, 21, 0, 0, 1, 21, 0, 0, 0, 254, 0, 0, 0, 236, 0, 0, 1, 21, 0, 0, 0, 245, 0, 0, 1, 21, 0, 0, 1, 7, 0, 0, 1, 21, 0, 0, 1, 21, 0, 0, 1, 21, 0, 0, 1, 21, 0, 0, 1, 21, 0, 0, 1, 21, 0, 0, 1, 21, 0, 0, 1, 21, 0, 0, 1, 21, 0, 0, 1, 21, 0, 0, 1, 21, 0, 0, 1, 21, 0, 0, 0, 203, 0, 0, 0, 225, 0, 0, 0, 214, 27, 28, 128, 172, 27, 28, 126, 172, 27, 28, 184, 0, 45, 172, 27, 28, 184, 0, 51, 172, 27, 28, 162, 0, 7] = true := by decide +kernel
theorem dX0_joined_0 : decode cX0_joined 0 = .ok (.iload_n 0, 1) := yd_op_26 (i := 0) yd_by_cX0_joined_0 rfl rfl
theorem dX0_joined_184 : decode cX0_joined 184 = .ok (.iload_n 1, 1) := yd_op_27 (i := 184) yd_by_cX0_joined_0 rfl rfl
theorem dX0_joined_185 : decode cX0_joined 185 = .ok (.iload_n 2, 1) := yd_op_28 (i := 185) yd_by_cX0_joined_0 rfl rfl
theorem dX0_joined_186 : decode cX0_joined 186 = .ok (.ior, 1) := yd_op_128 (i := 186) yd_by_cX0_joined_0 rfl rfl
theorem dX0_joined_187 : decode cX0_joined 187 = .ok (.ireturn, 1) := yd_op_172 (i := 187) yd_by_cX0_joined_0 rfl rfl
theorem dX0_joined_188 : decode cX0_joined 188 = .ok (.iload_n 1, 1) := yd_op_27 (i := 188) yd_by_cX0_joined_0 rfl rfl
theorem dX0_joined_189 : decode cX0_joined 189 = .ok (.iload_n 2, 1) := yd_op_28 (i := 189) yd_by_cX0_joined_0 rfl rfl
theorem dX0_joined_190 : decode cX0_joined 190 = .ok (.iand, 1) := yd_op_126 (i := 190) yd_by_cX0_joined_0 rfl rfl
theorem dX0_joined_191 : decode cX0_joined 191 = .ok (.ireturn, 1) := yd_op_172 (i := 191) yd_by_cX0_joined_0 rfl rfl
theorem dX0_joined_192 : decode cX0_joined 192 = .ok (.iload_n 1, 1) := yd_op_27 (i := 192) yd_by_cX0_joined_0 rfl rfl
theorem dX0_joined_193 : decode cX0_joined 193 = .ok (.iload_n 2, 1) := yd_op_28 (i := 193) yd_by_cX0_joined_0 rfl rfl
theorem dX0_joined_194 : decode cX0_joined 194 = .ok (.invokestatic 45, 3) := yd_op_184 (i := 194) (a := 0) (b := 45) yd_by_cX0_joined_0 rfl rfl
theorem dX0_joined_197 : decode cX0_joined 197 = .ok (.ireturn, 1) := yd_op_172 (i := 197) yd_by_cX0_joined_0 rfl rfl
theorem dX0_joined_198 : decode cX0_joined 198 = .ok (.iload_n 1, 1) := yd_op_27 (i := 198) yd_by_cX0_joined_0 rfl rfl
theorem dX0_joined_199 : decode cX0_joined 199 = .ok (.iload_n 2, 1) := yd_op_28 (i := 199) yd_by_cX0_joined_0 rfl rfl
theorem dX0_joined_200 : decode cX0_joined 200 = .ok (.invokestatic 51, 3) := yd_op_184 (i := 200) (a := 0) (b := 51) yd_by_cX0_joined_0 rfl rfl
theorem dX0_joined_203 : decode cX0_joined 203 = .ok (.ireturn, 1) := yd_op_172 (i := 203) yd_by_cX0_joined_0 rfl rfl
theorem dX0_joined_204 : decode cX0_joined 204 = .ok (.iload_n 1, 1) := yd_op_27 (i := 204) yd_by_cX0_joined_0 rfl rfl
theorem dX0_joined_205 : decode cX0_joined 205 = .ok (.iload_n 2, 1) := yd_op_28 (i := 205) yd_by_cX0_joined_0 rfl rfl
theorem dX0_joined_206 : decode cX0_joined 206 = .ok (.if_icmp .ge 7, 3) := yd_op_162 (i := 206) (a := 0) (b := 7) yd_by_cX0_joined_0 rfl rfl
set_option maxRecDepth 100000 in
theorem yd_by_cX0_joined_1 : ydk cX0_joined 209 [4, 167, 0, 4, 3, 172, 27, 28, 164, 0, 7, 4, 167, 0, 4, 3, 172, 27, 28, 160, 0, 7, 4, 167, 0, 4, 3, 172, 27, 133] = true := by decide +kernel
theorem dX0_joined_209 : decode cX0_joined 209 = .ok (.iconst 1, 1) := yd_op_4 (i := 0) yd_by_cX0_joined_1 rfl rfl
theorem dX0_joined_210 : decode cX0_joined 210 = .ok (.goto 4, 3) := yd_op_167 (i := 1) (a := 0) (b := 4) yd_by_cX0_joined_1 rfl rfl
theorem dX0_joined_213 : decode cX0_joined 213 = .ok (.iconst 0, 1) := yd_op_3 (i := 4) yd_by_cX0_joined_1 rfl rfl
theorem dX0_joined_214 : decode cX0_joined 214 = .ok (.ireturn, 1) := yd_op_172 (i := 5) yd_by_cX0_joined_1 rfl rfl
theorem dX0_joined_215 : decode cX0_joined 215 = .ok (.iload_n 1, 1) := yd_op_27 (i := 6) yd_by_cX0_joined_1 rfl rfl
theorem dX0_joined_216 : decode cX0_joined 216 = .ok (.iload_n 2, 1) := yd_op_28 (i := 7) yd_by_cX0_joined_1 rfl rfl
theorem dX0_joined_217 : decode cX0_joined 217 = .ok (.if_icmp .le 7, 3) := yd_op_164 (i := 8) (a := 0) (b := 7) yd_by_cX0_joined_1 rfl rfl
theorem dX0_joined_220 : decode cX0_joined 220 = .ok (.iconst 1, 1) := yd_op_4 (i := 11) yd_by_cX0_joined_1 rfl rfl
theorem dX0_joined_221 : decode cX0_joined 221 = .ok (.goto 4, 3) := yd_op_167 (i := 12) (a := 0) (b := 4) yd_by_cX0_joined_1 rfl rfl
theorem dX0_joined_224 : decode cX0_joined 224 = .ok (.iconst 0, 1) := yd_op_3 (i := 15) yd_by_cX0_joined_1 rfl rfl
theorem dX0_joined_225 : decode cX0_joined 225 = .ok (.ireturn, 1) := yd_op_172 (i := 16) yd_by_cX0_joined_1 rfl rfl
theorem dX0_joined_226 : decode cX0_joined 226 = .ok (.iload_n 1, 1) := yd_op_27 (i := 17) yd_by_cX0_joined_1 rfl rfl
theorem dX0_joined_227 : decode cX0_joined 227 = .ok (.iload_n 2, 1) := yd_op_28 (i := 18) yd_by_cX0_joined_1 rfl rfl
theorem dX0_joined_228 : decode cX0_joined 228 = .ok (.if_icmp .ne 7, 3) := yd_op_160 (i := 19) (a := 0) (b := 7) yd_by_cX0_joined_1 rfl rfl
theorem dX0_joined_231 : decode cX0_joined 231 = .ok (.iconst 1, 1) := yd_op_4 (i := 22) yd_by_cX0_joined_1 rfl rfl
theorem dX0_joined_232 : decode cX0_joined 232 = .ok (.goto 4, 3) := yd_op_167 (i := 23) (a := 0) (b := 4) yd_by_cX0_joined_1 rfl rfl
theorem dX0_joined_235 : decode cX0_joined 235 = .ok (.iconst 0, 1) := yd_op_3 (i := 26) yd_by_cX0_joined_1 rfl rfl
theorem dX0_joined_236 : decode cX0_joined 236 = .ok (.ireturn, 1) := yd_op_172 (i := 27) yd_by_cX0_joined_1 rfl rfl
theorem dX0_joined_237 : decode cX0_joined 237 = .ok (.iload_n 1, 1) := yd_op_27 (i := 28) yd_by_cX0_joined_1 rfl rfl
theorem dX0_joined_238 : decode cX0_joined 238 = .ok (.i2l, 1) := yd_op_133 (i := 29) yd_by_cX0_joined_1 rfl rfl
set_option maxRecDepth 100000 in
theorem yd_by_cX0_joined_2 : ydk cX0_joined 239 [28, 133, 97, 184, 0, 54, 172, 27, 133, 28, 133, 101, 184, 0, 54, 172, 27, 133, 28, 133, 105, 184, 0, 54, 172, 28] = true := by decide +kernel
theorem dX0_joined_239 : decode cX0_joined 239 = .ok (.iload_n 2, 1) := yd_op_28 (i := 0) yd_by_cX0_joined_2 rfl rfl
theorem dX0_joined_240 : decode cX0_joined 240 = .ok (.i2l, 1) := yd_op_133 (i := 1) yd_by_cX0_joined_2 rfl rfl
theorem dX0_joined_241 : decode cX0_joined 241 = .ok (.ladd, 1) := yd_op_97 (i := 2) yd_by_cX0_joined_2 rfl rfl
theorem dX0_joined_242 : decode cX0_joined 242 = .ok (.invokestatic 54, 3) := yd_op_184 (i := 3) (a := 0) (b := 54) yd_by_cX0_joined_2 rfl rfl
theorem dX0_joined_245 : decode cX0_joined 245 = .ok (.ireturn, 1) := yd_op_172 (i := 6) yd_by_cX0_joined_2 rfl rfl
theorem dX0_joined_246 : decode cX0_joined 246 = .ok (.iload_n 1, 1) := yd_op_27 (i := 7) yd_by_cX0_joined_2 rfl rfl
theorem dX0_joined_247 : decode cX0_joined 247 = .ok (.i2l, 1) := yd_op_133 (i := 8) yd_by_cX0_joined_2 rfl rfl
theorem dX0_joined_248 : decode cX0_joined 248 = .ok (.iload_n 2, 1) := yd_op_28 (i := 9) yd_by_cX0_joined_2 rfl rfl
theorem dX0_joined_249 : decode cX0_joined 249 = .ok (.i2l, 1) := yd_op_133 (i := 10) yd_by_cX0_joined_2 rfl rfl
theorem dX0_joined_250 : decode cX0_joined 250 = .ok (.lsub, 1) := yd_op_101 (i := 11) yd_by_cX0_joined_2 rfl rfl
theorem dX0_joined_251 : decode cX0_joined 251 = .ok (.invokestatic 54, 3) := yd_op_184 (i := 12) (a := 0) (b := 54) yd_by_cX0_joined_2 rfl rfl
theorem dX0_joined_254 : decode cX0_joined 254 = .ok (.ireturn, 1) := yd_op_172 (i := 15) yd_by_cX0_joined_2 rfl rfl
theorem dX0_joined_255 : decode cX0_joined 255 = .ok (.iload_n 1, 1) := yd_op_27 (i := 16) yd_by_cX0_joined_2 rfl rfl
theorem dX0_joined_256 : decode cX0_joined 256 = .ok (.i2l, 1) := yd_op_133 (i := 17) yd_by_cX0_joined_2 rfl rfl
theorem dX0_joined_257 : decode cX0_joined 257 = .ok (.iload_n 2, 1) := yd_op_28 (i := 18) yd_by_cX0_joined_2 rfl rfl
theorem dX0_joined_258 : decode cX0_joined 258 = .ok (.i2l, 1) := yd_op_133 (i := 19) yd_by_cX0_joined_2 rfl rfl
theorem dX0_joined_259 : decode cX0_joined 259 = .ok (.lmul, 1) := yd_op_105 (i := 20) yd_by_cX0_joined_2 rfl rfl
theorem dX0_joined_260 : decode cX0_joined 260 = .ok (.invokestatic 54, 3) := yd_op_184 (i := 21) (a := 0) (b := 54) yd_by_cX0_joined_2 rfl rfl
theorem dX0_joined_263 : decode cX0_joined 263 = .ok (.ireturn, 1) := yd_op_172 (i := 24) yd_by_cX0_joined_2 rfl rfl
theorem dX0_joined_264 : decode cX0_joined 264 = .ok (.iload_n 2, 1) := yd_op_28 (i := 25) yd_by_cX0_joined_2 rfl rfl
set_option maxRecDepth 100000 in
theorem yd_by_cX0_joined_3 : ydk cX0_joined 265 [154, 0, 7, 3, 167, 0, 8, 27, 28, 184, 0, 58, 172, 3, 172] = true := by decide +kernel
theorem dX0_joined_265 : decode cX0_joined 265 = .ok (.ifCond .ne 7, 3) := yd_op_154 (i := 0) (a := 0) (b := 7) yd_by_cX0_joined_3 rfl rfl
theorem dX0_joined_268 : decode cX0_joined 268 = .ok (.iconst 0, 1) := yd_op_3 (i := 3) yd_by_cX0_joined_3 rfl rfl
theorem dX0_joined_269 : decode cX0_joined 269 = .ok (.goto 8, 3) := yd_op_167 (i := 4) (a := 0) (b := 8) yd_by_cX0_joined_3 rfl rfl
theorem dX0_joined_272 : decode cX0_joined 272 = .ok (.iload_n 1, 1) := yd_op_27 (i := 7) yd_by_cX0_joined_3 rfl rfl
theorem dX0_joined_273 : decode cX0_joined 273 = .ok (.iload_n 2, 1) := yd_op_28 (i := 8) yd_by_cX0_joined_3 rfl rfl
theorem dX0_joined_274 : decode cX0_joined 274 = .ok (.invokestatic 58, 3) := yd_op_184 (i := 9) (a := 0) (b := 58) yd_by_cX0_joined_3 rfl rfl
theorem dX0_joined_277 : decode cX0_joined 277 = .ok (.ireturn, 1) := yd_op_172 (i := 12) yd_by_cX0_joined_3 rfl rfl
theorem dX0_joined_278 : decode cX0_joined 278 = .ok (.iconst 0, 1) := yd_op_3 (i := 13) yd_by_cX0_joined_3 rfl rfl
theorem dX0_joined_279 : decode cX0_joined 279 = .ok (.ireturn, 1) := yd_op_172 (i := 14) yd_by_cX0_joined_3 rfl rfl
set_option maxRecDepth 100000 in
theorem yd_by_cX0_limited_0 : ydk cX0_limited 0 [30, 20, 0, 61, 148, 158, 0, 6, 18, 63, 172, 30, 20, 0, 64, 148, 156, 0, 8, 18, 66, 167, 0, 5, 30, 136, 172] = true := by decide +kernel
theorem dX0_limited_0 : decode cX0_limited 0 = .ok (.lload_n 0, 1) := yd_op_30 (i := 0) yd_by_cX0_limited_0 rfl rfl
theorem dX0_limited_1 : decode cX0_limited 1 = .ok (.ldc2_w 61, 3) := yd_op_20 (i := 1) (a := 0) (b := 61) yd_by_cX0_limited_0 rfl rfl
theorem dX0_limited_4 : decode cX0_limited 4 = .ok (.lcmp, 1) := yd_op_148 (i := 4) yd_by_cX0_limited_0 rfl rfl
theorem dX0_limited_5 : decode cX0_limited 5 = .ok (.ifCond .le 6, 3) := yd_op_158 (i := 5) (a := 0) (b := 6) yd_by_cX0_limited_0 rfl rfl
theorem dX0_limited_8 : decode cX0_limited 8 = .ok (.ldc 63, 2) := yd_op_18 (i := 8) (a := 63) yd_by_cX0_limited_0 rfl rfl
theorem dX0_limited_10 : decode cX0_limited 10 = .ok (.ireturn, 1) := yd_op_172 (i := 10) yd_by_cX0_limited_0 rfl rfl
theorem dX0_limited_11 : decode cX0_limited 11 = .ok (.lload_n 0, 1) := yd_op_30 (i := 11) yd_by_cX0_limited_0 rfl rfl
theorem dX0_limited_12 : decode cX0_limited 12 = .ok (.ldc2_w 64, 3) := yd_op_20 (i := 12) (a := 0) (b := 64) yd_by_cX0_limited_0 rfl rfl
theorem dX0_limited_15 : decode cX0_limited 15 = .ok (.lcmp, 1) := yd_op_148 (i := 15) yd_by_cX0_limited_0 rfl rfl
theorem dX0_limited_16 : decode cX0_limited 16 = .ok (.ifCond .ge 8, 3) := yd_op_156 (i := 16) (a := 0) (b := 8) yd_by_cX0_limited_0 rfl rfl
theorem dX0_limited_19 : decode cX0_limited 19 = .ok (.ldc 66, 2) := yd_op_18 (i := 19) (a := 66) yd_by_cX0_limited_0 rfl rfl
theorem dX0_limited_21 : decode cX0_limited 21 = .ok (.goto 5, 3) := yd_op_167 (i := 21) (a := 0) (b := 5) yd_by_cX0_limited_0 rfl rfl
theorem dX0_limited_24 : decode cX0_limited 24 = .ok (.lload_n 0, 1) := yd_op_30 (i := 24) yd_by_cX0_limited_0 rfl rfl
theorem dX0_limited_25 : decode cX0_limited 25 = .ok (.l2i, 1) := yd_op_136 (i := 25) yd_by_cX0_limited_0 rfl rfl
theorem dX0_limited_26 : decode cX0_limited 26 = .ok (.ireturn, 1) := yd_op_172 (i := 26) yd_by_cX0_limited_0 rfl rfl
set_option maxRecDepth 100000 in
theorem yd_by_cX0_farTo_0 : ydk cX0_farTo 0 [27, 155, 0, 20, 27, 42, 180, 0, 21, 162, 0, 12, 42, 180, 0, 18, 27, 46, 167, 0, 4, 3, 172] = true := by decide +kernel
theorem dX0_farTo_0 : decode cX0_farTo 0 = .ok (.iload_n 1, 1) := yd_op_27 (i := 0) yd_by_cX0_farTo_0 rfl rfl
theorem dX0_farTo_1 : decode cX0_farTo 1 = .ok (.ifCond .lt 20, 3) := yd_op_155 (i := 1) (a := 0) (b := 20) yd_by_cX0_farTo_0 rfl rfl
theorem dX0_farTo_4 : decode cX0_farTo 4 = .ok (.iload_n 1, 1) := yd_op_27 (i := 4) yd_by_cX0_farTo_0 rfl rfl
theorem dX0_farTo_5 : decode cX0_farTo 5 = .ok (.aload_n 0, 1) := yd_op_42 (i := 5) yd_by_cX0_farTo_0 rfl rfl
theorem dX0_farTo_6 : decode cX0_farTo 6 = .ok (.getfield 21, 3) := yd_op_180 (i := 6) (a := 0) (b := 21) yd_by_cX0_farTo_0 rfl rfl
theorem dX0_farTo_9 : decode cX0_farTo 9 = .ok (.if_icmp .ge 12, 3) := yd_op_162 (i := 9) (a := 0) (b := 12) yd_by_cX0_farTo_0 rfl rfl
theorem dX0_farTo_12 : decode cX0_farTo 12 = .ok (.aload_n 0, 1) := yd_op_42 (i := 12) yd_by_cX0_farTo_0 rfl rfl
theorem dX0_farTo_13 : decode cX0_farTo 13 = .ok (.getfield 18, 3) := yd_op_180 (i := 13) (a := 0) (b := 18) yd_by_cX0_farTo_0 rfl rfl
theorem dX0_farTo_16 : decode cX0_farTo 16 = .ok (.iload_n 1, 1) := yd_op_27 (i := 16) yd_by_cX0_farTo_0 rfl rfl
theorem dX0_farTo_17 : decode cX0_farTo 17 = .ok (.iaload, 1) := yd_op_46 (i := 17) yd_by_cX0_farTo_0 rfl rfl
theorem dX0_farTo_18 : decode cX0_farTo 18 = .ok (.goto 4, 3) := yd_op_167 (i := 18) (a := 0) (b := 4) yd_by_cX0_farTo_0 rfl rfl
theorem dX0_farTo_21 : decode cX0_farTo 21 = .ok (.iconst 0, 1) := yd_op_3 (i := 21) yd_by_cX0_farTo_0 rfl rfl
theorem dX0_farTo_22 : decode cX0_farTo 22 = .ok (.ireturn, 1) := yd_op_172 (i := 22) yd_by_cX0_farTo_0 rfl rfl
set_option maxRecDepth 100000 in
theorem yd_by_cX1_init_0 : ydk cX1_init 0 [42, 183, 0, 3, 42, 5, 181, 0, 9, 42, 43, 181, 0, 15, 42, 44, 181, 0, 19, 177] = true := by decide +kernel
theorem dX1_init_0 : decode cX1_init 0 = .ok (.aload_n 0, 1) := yd_op_42 (i := 0) yd_by_cX1_init_0 rfl rfl
theorem dX1_init_1 : decode cX1_init 1 = .ok (.invokespecial 3, 3) := yd_op_183 (i := 1) (a := 0) (b := 3) yd_by_cX1_init_0 rfl rfl
theorem dX1_init_4 : decode cX1_init 4 = .ok (.aload_n 0, 1) := yd_op_42 (i := 4) yd_by_cX1_init_0 rfl rfl
theorem dX1_init_5 : decode cX1_init 5 = .ok (.iconst 2, 1) := yd_op_5 (i := 5) yd_by_cX1_init_0 rfl rfl
theorem dX1_init_6 : decode cX1_init 6 = .ok (.putfield 9, 3) := yd_op_181 (i := 6) (a := 0) (b := 9) yd_by_cX1_init_0 rfl rfl
theorem dX1_init_9 : decode cX1_init 9 = .ok (.aload_n 0, 1) := yd_op_42 (i := 9) yd_by_cX1_init_0 rfl rfl
theorem dX1_init_10 : decode cX1_init 10 = .ok (.aload_n 1, 1) := yd_op_43 (i := 10) yd_by_cX1_init_0 rfl rfl
theorem dX1_init_11 : decode cX1_init 11 = .ok (.putfield 15, 3) := yd_op_181 (i := 11) (a := 0) (b := 15) yd_by_cX1_init_0 rfl rfl
theorem dX1_init_14 : decode cX1_init 14 = .ok (.aload_n 0, 1) := yd_op_42 (i := 14) yd_by_cX1_init_0 rfl rfl
theorem dX1_init_15 : decode cX1_init 15 = .ok (.aload_n 2, 1) := yd_op_44 (i := 15) yd_by_cX1_init_0 rfl rfl
theorem dX1_init_16 : decode cX1_init 16 = .ok (.putfield 19, 3) := yd_op_181 (i := 16) (a := 0) (b := 19) yd_by_cX1_init_0 rfl rfl
theorem dX1_init_19 : decode cX1_init 19 = .ok (.return_, 1) := yd_op_177 (i := 19) yd_by_cX1_init_0 rfl rfl
set_option maxRecDepth 100000 in
theorem yd_by_cX1_readSum_0 : ydk cX1_readSum 0 [42, 43, 181, 0, 19, 42, 28, 181, 0, 9, 43, 3, 181, 0, 23, 42, 3, 182, 0, 28, 177] = true := by decide +kernel
theorem dX1_readSum_0 : decode cX1_readSum 0 = .ok (.aload_n 0, 1) := yd_op_42 (i := 0) yd_by_cX1_readSum_0 rfl rfl
theorem dX1_readSum_1 : decode cX1_readSum 1 = .ok (.aload_n 1, 1) := yd_op_43 (i := 1) yd_by_cX1_readSum_0 rfl rfl
theorem dX1_readSum_2 : decode cX1_readSum 2 = .ok (.putfield 19, 3) := yd_op_181 (i := 2) (a := 0) (b := 19) yd_by_cX1_readSum_0 rfl rfl
theorem dX1_readSum_5 : decode cX1_readSum 5 = .ok (.aload_n 0, 1) := yd_op_42 (i := 5) yd_by_cX1_readSum_0 rfl rfl
theorem dX1_readSum_6 : decode cX1_readSum 6 = .ok (.iload_n 2, 1) := yd_op_28 (i := 6) yd_by_cX1_readSum_0 rfl rfl
theorem dX1_readSum_7 : decode cX1_readSum 7 = .ok (.putfield 9, 3) := yd_op_181 (i := 7) (a := 0) (b := 9) yd_by_cX1_readSum_0 rfl rfl
theorem dX1_readSum_10 : decode cX1_readSum 10 = .ok (.aload_n 1, 1) := yd_op_43 (i := 10) yd_by_cX1_readSum_0 rfl rfl
theorem dX1_readSum_11 : decode cX1_readSum 11 = .ok (.iconst 0, 1) := yd_op_3 (i := 11) yd_by_cX1_readSum_0 rfl rfl
theorem dX1_readSum_12 : decode cX1_readSum 12 = .ok (.putfield 23, 3) := yd_op_181 (i := 12) (a := 0) (b := 23) yd_by_cX1_readSum_0 rfl rfl
theorem dX1_readSum_15 : decode cX1_readSum 15 = .ok (.aload_n 0, 1) := yd_op_42 (i := 15) yd_by_cX1_readSum_0 rfl rfl
theorem dX1_readSum_16 : decode cX1_readSum 16 = .ok (.iconst 0, 1) := yd_op_3 (i := 16) yd_by_cX1_readSum_0 rfl rfl
theorem dX1_readSum_17 : decode cX1_readSum 17 = .ok (.invokevirtual 28, 3) := yd_op_182 (i := 17) (a := 0) (b := 28) yd_by_cX1_readSum_0 rfl rfl
theorem dX1_readSum_20 : decode cX1_readSum 20 = .ok (.return_, 1) := yd_op_177 (i := 20) yd_by_cX1_readSum_0 rfl rfl
set_option maxRecDepth 100000 in
theorem yd_by_cX1_readTest_0 : ydk cX1_readTest 0 [42, 43, 181, 0, 19, 42, 28, 181, 0, 9, 43, 3, 181, 0, 23, 42, 3, 182, 0, 32, 177] = true := by decide +kernel
theorem dX1_readTest_0 : decode cX1_readTest 0 = .ok (.aload_n 0, 1) := yd_op_42 (i := 0) yd_by_cX1_readTest_0 rfl rfl
theorem dX1_readTest_1 : decode cX1_readTest 1 = .ok (.aload_n 1, 1) := yd_op_43 (i := 1) yd_by_cX1_readTest_0 rfl rfl
theorem dX1_readTest_2 : decode cX1_readTest 2 = .ok (.putfield 19, 3) := yd_op_181 (i := 2) (a := 0) (b := 19) yd_by_cX1_readTest_0 rfl rfl
theorem dX1_readTest_5 : decode cX1_readTest 5 = .ok (.aload_n 0, 1) := yd_op_42 (i := 5) yd_by_cX1_readTest_0 rfl rfl
theorem dX1_readTest_6 : decode cX1_readTest 6 = .ok (.iload_n 2, 1) := yd_op_28 (i := 6) yd_by_cX1_readTest_0 rfl rfl
theorem dX1_readTest_7 : decode cX1_readTest 7 = .ok (.putfield 9, 3) := yd_op_181 (i := 7) (a := 0) (b := 9) yd_by_cX1_readTest_0 rfl rfl
theorem dX1_readTest_10 : decode cX1_readTest 10 = .ok (.aload_n 1, 1) := yd_op_43 (i := 10) yd_by_cX1_readTest_0 rfl rfl
theorem dX1_readTest_11 : decode cX1_readTest 11 = .ok (.iconst 0, 1) := yd_op_3 (i := 11) yd_by_cX1_readTest_0 rfl rfl
theorem dX1_readTest_12 : decode cX1_readTest 12 = .ok (.putfield 23, 3) := yd_op_181 (i := 12) (a := 0) (b := 23) yd_by_cX1_readTest_0 rfl rfl
theorem dX1_readTest_15 : decode cX1_readTest 15 = .ok (.aload_n 0, 1) := yd_op_42 (i := 15) yd_by_cX1_readTest_0 rfl rfl
theorem dX1_readTest_16 : decode cX1_readTest 16 = .ok (.iconst 0, 1) := yd_op_3 (i := 16) yd_by_cX1_readTest_0 rfl rfl
theorem dX1_readTest_17 : decode cX1_readTest 17 = .ok (.invokevirtual 32, 3) := yd_op_182 (i := 17) (a := 0) (b := 32) yd_by_cX1_readTest_0 rfl rfl
theorem dX1_readTest_20 : decode cX1_readTest 20 = .ok (.return_, 1) := yd_op_177 (i := 20) yd_by_cX1_readTest_0 rfl rfl
set_option maxRecDepth 100000 in
theorem yd_by_cX1_readQuestion_0 : ydk cX1_readQuestion 0 [42, 180, 0, 15, 44, 182, 0, 35, 42, 180, 0, 15, 182, 0, 41, 62, 29, 16, 27, 159, 0, 15, 29, 16, 28, 159, 0, 9, 29, 16, 29, 160, 0, 19, 42, 180, 0, 15, 182, 0, 45] = true := by decide +kernel
theorem dX1_readQuestion_0 : decode cX1_readQuestion 0 = .ok (.aload_n 0, 1) := yd_op_42 (i := 0) yd_by_cX1_readQuestion_0 rfl rfl
theorem dX1_readQuestion_1 : decode cX1_readQuestion 1 = .ok (.getfield 15, 3) := yd_op_180 (i := 1) (a := 0) (b := 15) yd_by_cX1_readQuestion_0 rfl rfl
theorem dX1_readQuestion_4 : decode cX1_readQuestion 4 = .ok (.aload_n 2, 1) := yd_op_44 (i := 4) yd_by_cX1_readQuestion_0 rfl rfl
theorem dX1_readQuestion_5 : decode cX1_readQuestion 5 = .ok (.invokevirtual 35, 3) := yd_op_182 (i := 5) (a := 0) (b := 35) yd_by_cX1_readQuestion_0 rfl rfl
theorem dX1_readQuestion_8 : decode cX1_readQuestion 8 = .ok (.aload_n 0, 1) := yd_op_42 (i := 8) yd_by_cX1_readQuestion_0 rfl rfl
theorem dX1_readQuestion_9 : decode cX1_readQuestion 9 = .ok (.getfield 15, 3) := yd_op_180 (i := 9) (a := 0) (b := 15) yd_by_cX1_readQuestion_0 rfl rfl
theorem dX1_readQuestion_12 : decode cX1_readQuestion 12 = .ok (.invokevirtual 41, 3) := yd_op_182 (i := 12) (a := 0) (b := 41) yd_by_cX1_readQuestion_0 rfl rfl
theorem dX1_readQuestion_15 : decode cX1_readQuestion 15 = .ok (.istore_n 3, 1) := yd_op_62 (i := 15) yd_by_cX1_readQuestion_0 rfl rfl
theorem dX1_readQuestion_16 : decode cX1_readQuestion 16 = .ok (.iload_n 3, 1) := yd_op_29 (i := 16) yd_by_cX1_readQuestion_0 rfl rfl
theorem dX1_readQuestion_17 : decode cX1_readQuestion 17 = .ok (.bipush 27, 2) := yd_op_16 (i := 17) (a := 27) yd_by_cX1_readQuestion_0 rfl rfl
theorem dX1_readQuestion_19 : decode cX1_readQuestion 19 = .ok (.if_icmp .eq 15, 3) := yd_op_159 (i := 19) (a := 0) (b := 15) yd_by_cX1_readQuestion_0 rfl rfl
theorem dX1_readQuestion_22 : decode cX1_readQuestion 22 = .ok (.iload_n 3, 1) := yd_op_29 (i := 22) yd_by_cX1_readQuestion_0 rfl rfl
theorem dX1_readQuestion_23 : decode cX1_readQuestion 23 = .ok (.bipush 28, 2) := yd_op_16 (i := 23) (a := 28) yd_by_cX1_readQuestion_0 rfl rfl
theorem dX1_readQuestion_25 : decode cX1_readQuestion 25 = .ok (.if_icmp .eq 9, 3) := yd_op_159 (i := 25) (a := 0) (b := 9) yd_by_cX1_readQuestion_0 rfl rfl
theorem dX1_readQuestion_28 : decode cX1_readQuestion 28 = .ok (.iload_n 3, 1) := yd_op_29 (i := 28) yd_by_cX1_readQuestion_0 rfl rfl
theorem dX1_readQuestion_29 : decode cX1_readQuestion 29 = .ok (.bipush 29, 2) := yd_op_16 (i := 29) (a := 29) yd_by_cX1_readQuestion_0 rfl rfl
theorem dX1_readQuestion_31 : decode cX1_readQuestion 31 = .ok (.if_icmp .ne 19, 3) := yd_op_160 (i := 31) (a := 0) (b := 19) yd_by_cX1_readQuestion_0 rfl rfl
theorem dX1_readQuestion_34 : decode cX1_readQuestion 34 = .ok (.aload_n 0, 1) := yd_op_42 (i := 34) yd_by_cX1_readQuestion_0 rfl rfl
theorem dX1_readQuestion_35 : decode cX1_readQuestion 35 = .ok (.getfield 15, 3) := yd_op_180 (i := 35) (a := 0) (b := 15) yd_by_cX1_readQuestion_0 rfl rfl
theorem dX1_readQuestion_38 : decode cX1_readQuestion 38 = .ok (.invokevirtual 45, 3) := yd_op_182 (i := 38) (a := 0) (b := 45) yd_by_cX1_readQuestion_0 rfl rfl
set_option maxRecDepth 100000 in
theorem yd_by_cX1_readQuestion_1 : ydk cX1_readQuestion 41 [42, 43, 5, 182, 0, 48, 167, 0, 52, 29, 16, 30, 159, 0, 15, 29, 16, 31, 159, 0, 9, 29, 16, 32, 160, 0, 19, 42, 180, 0, 15, 182, 0, 45, 42, 43, 5] = true := by decide +kernel
theorem dX1_readQuestion_41 : decode cX1_readQuestion 41 = .ok (.aload_n 0, 1) := yd_op_42 (i := 0) yd_by_cX1_readQuestion_1 rfl rfl
theorem dX1_readQuestion_42 : decode cX1_readQuestion 42 = .ok (.aload_n 1, 1) := yd_op_43 (i := 1) yd_by_cX1_readQuestion_1 rfl rfl
theorem dX1_readQuestion_43 : decode cX1_readQuestion 43 = .ok (.iconst 2, 1) := yd_op_5 (i := 2) yd_by_cX1_readQuestion_1 rfl rfl
theorem dX1_readQuestion_44 : decode cX1_readQuestion 44 = .ok (.invokevirtual 48, 3) := yd_op_182 (i := 3) (a := 0) (b := 48) yd_by_cX1_readQuestion_1 rfl rfl
theorem dX1_readQuestion_47 : decode cX1_readQuestion 47 = .ok (.goto 52, 3) := yd_op_167 (i := 6) (a := 0) (b := 52) yd_by_cX1_readQuestion_1 rfl rfl
theorem dX1_readQuestion_50 : decode cX1_readQuestion 50 = .ok (.iload_n 3, 1) := yd_op_29 (i := 9) yd_by_cX1_readQuestion_1 rfl rfl
theorem dX1_readQuestion_51 : decode cX1_readQuestion 51 = .ok (.bipush 30, 2) := yd_op_16 (i := 10) (a := 30) yd_by_cX1_readQuestion_1 rfl rfl
theorem dX1_readQuestion_53 : decode cX1_readQuestion 53 = .ok (.if_icmp .eq 15, 3) := yd_op_159 (i := 12) (a := 0) (b := 15) yd_by_cX1_readQuestion_1 rfl rfl
theorem dX1_readQuestion_56 : decode cX1_readQuestion 56 = .ok (.iload_n 3, 1) := yd_op_29 (i := 15) yd_by_cX1_readQuestion_1 rfl rfl
theorem dX1_readQuestion_57 : decode cX1_readQuestion 57 = .ok (.bipush 31, 2) := yd_op_16 (i := 16) (a := 31) yd_by_cX1_readQuestion_1 rfl rfl
theorem dX1_readQuestion_59 : decode cX1_readQuestion 59 = .ok (.if_icmp .eq 9, 3) := yd_op_159 (i := 18) (a := 0) (b := 9) yd_by_cX1_readQuestion_1 rfl rfl
theorem dX1_readQuestion_62 : decode cX1_readQuestion 62 = .ok (.iload_n 3, 1) := yd_op_29 (i := 21) yd_by_cX1_readQuestion_1 rfl rfl
theorem dX1_readQuestion_63 : decode cX1_readQuestion 63 = .ok (.bipush 32, 2) := yd_op_16 (i := 22) (a := 32) yd_by_cX1_readQuestion_1 rfl rfl
theorem dX1_readQuestion_65 : decode cX1_readQuestion 65 = .ok (.if_icmp .ne 19, 3) := yd_op_160 (i := 24) (a := 0) (b := 19) yd_by_cX1_readQuestion_1 rfl rfl
theorem dX1_readQuestion_68 : decode cX1_readQuestion 68 = .ok (.aload_n 0, 1) := yd_op_42 (i := 27) yd_by_cX1_readQuestion_1 rfl rfl
theorem dX1_readQuestion_69 : decode cX1_readQuestion 69 = .ok (.getfield 15, 3) := yd_op_180 (i := 28) (a := 0) (b := 15) yd_by_cX1_readQuestion_1 rfl rfl
theorem dX1_readQuestion_72 : decode cX1_readQuestion 72 = .ok (.invokevirtual 45, 3) := yd_op_182 (i := 31) (a := 0) (b := 45) yd_by_cX1_readQuestion_1 rfl rfl
theorem dX1_readQuestion_75 : decode cX1_readQuestion 75 = .ok (.aload_n 0, 1) := yd_op_42 (i := 34) yd_by_cX1_readQuestion_1 rfl rfl
theorem dX1_readQuestion_76 : decode cX1_readQuestion 76 = .ok (.aload_n 1, 1) := yd_op_43 (i := 35) yd_by_cX1_readQuestion_1 rfl rfl
theorem dX1_readQuestion_77 : decode cX1_readQuestion 77 = .ok (.iconst 2, 1) := yd_op_5 (i := 36) yd_by_cX1_readQuestion_1 rfl rfl
set_option maxRecDepth 100000 in
theorem yd_by_cX1_readQuestion_2 : ydk cX1_readQuestion 78 [182, 0, 52, 167, 0, 18, 42, 180, 0, 15, 4, 42, 180, 0, 15, 182, 0, 55, 182, 0, 58, 42, 180, 0, 15, 182, 0, 62, 153, 0, 18, 42, 180, 0, 15, 4, 42, 180, 0, 15, 182, 0, 55, 182, 0, 58] = true := by decide +kernel
theorem dX1_readQuestion_78 : decode cX1_readQuestion 78 = .ok (.invokevirtual 52, 3) := yd_op_182 (i := 0) (a := 0) (b := 52) yd_by_cX1_readQuestion_2 rfl rfl
theorem dX1_readQuestion_81 : decode cX1_readQuestion 81 = .ok (.goto 18, 3) := yd_op_167 (i := 3) (a := 0) (b := 18) yd_by_cX1_readQuestion_2 rfl rfl
theorem dX1_readQuestion_84 : decode cX1_readQuestion 84 = .ok (.aload_n 0, 1) := yd_op_42 (i := 6) yd_by_cX1_readQuestion_2 rfl rfl
theorem dX1_readQuestion_85 : decode cX1_readQuestion 85 = .ok (.getfield 15, 3) := yd_op_180 (i := 7) (a := 0) (b := 15) yd_by_cX1_readQuestion_2 rfl rfl
theorem dX1_readQuestion_88 : decode cX1_readQuestion 88 = .ok (.iconst 1, 1) := yd_op_4 (i := 10) yd_by_cX1_readQuestion_2 rfl rfl
theorem dX1_readQuestion_89 : decode cX1_readQuestion 89 = .ok (.aload_n 0, 1) := yd_op_42 (i := 11) yd_by_cX1_readQuestion_2 rfl rfl
theorem dX1_readQuestion_90 : decode cX1_readQuestion 90 = .ok (.getfield 15, 3) := yd_op_180 (i := 12) (a := 0) (b := 15) yd_by_cX1_readQuestion_2 rfl rfl
theorem dX1_readQuestion_93 : decode cX1_readQuestion 93 = .ok (.invokevirtual 55, 3) := yd_op_182 (i := 15) (a := 0) (b := 55) yd_by_cX1_readQuestion_2 rfl rfl
theorem dX1_readQuestion_96 : decode cX1_readQuestion 96 = .ok (.invokevirtual 58, 3) := yd_op_182 (i := 18) (a := 0) (b := 58) yd_by_cX1_readQuestion_2 rfl rfl
theorem dX1_readQuestion_99 : decode cX1_readQuestion 99 = .ok (.aload_n 0, 1) := yd_op_42 (i := 21) yd_by_cX1_readQuestion_2 rfl rfl
theorem dX1_readQuestion_100 : decode cX1_readQuestion 100 = .ok (.getfield 15, 3) := yd_op_180 (i := 22) (a := 0) (b := 15) yd_by_cX1_readQuestion_2 rfl rfl
theorem dX1_readQuestion_103 : decode cX1_readQuestion 103 = .ok (.invokevirtual 62, 3) := yd_op_182 (i := 25) (a := 0) (b := 62) yd_by_cX1_readQuestion_2 rfl rfl
theorem dX1_readQuestion_106 : decode cX1_readQuestion 106 = .ok (.ifCond .eq 18, 3) := yd_op_153 (i := 28) (a := 0) (b := 18) yd_by_cX1_readQuestion_2 rfl rfl
theorem dX1_readQuestion_109 : decode cX1_readQuestion 109 = .ok (.aload_n 0, 1) := yd_op_42 (i := 31) yd_by_cX1_readQuestion_2 rfl rfl
theorem dX1_readQuestion_110 : decode cX1_readQuestion 110 = .ok (.getfield 15, 3) := yd_op_180 (i := 32) (a := 0) (b := 15) yd_by_cX1_readQuestion_2 rfl rfl
theorem dX1_readQuestion_113 : decode cX1_readQuestion 113 = .ok (.iconst 1, 1) := yd_op_4 (i := 35) yd_by_cX1_readQuestion_2 rfl rfl
theorem dX1_readQuestion_114 : decode cX1_readQuestion 114 = .ok (.aload_n 0, 1) := yd_op_42 (i := 36) yd_by_cX1_readQuestion_2 rfl rfl
theorem dX1_readQuestion_115 : decode cX1_readQuestion 115 = .ok (.getfield 15, 3) := yd_op_180 (i := 37) (a := 0) (b := 15) yd_by_cX1_readQuestion_2 rfl rfl
theorem dX1_readQuestion_118 : decode cX1_readQuestion 118 = .ok (.invokevirtual 55, 3) := yd_op_182 (i := 40) (a := 0) (b := 55) yd_by_cX1_readQuestion_2 rfl rfl
theorem dX1_readQuestion_121 : decode cX1_readQuestion 121 = .ok (.invokevirtual 58, 3) := yd_op_182 (i := 43) (a := 0) (b := 58) yd_by_cX1_readQuestion_2 rfl rfl
set_option maxRecDepth 100000 in
theorem yd_by_cX1_readQuestion_3 : ydk cX1_readQuestion 124 [29, 172] = true := by decide +kernel
theorem dX1_readQuestion_124 : decode cX1_readQuestion 124 = .ok (.iload_n 3, 1) := yd_op_29 (i := 0) yd_by_cX1_readQuestion_3 rfl rfl
theorem dX1_readQuestion_125 : decode cX1_readQuestion 125 = .ok (.ireturn, 1) := yd_op_172 (i := 1) yd_by_cX1_readQuestion_3 rfl rfl
set_option maxRecDepth 100000 in
theorem yd_by_cX1_test_0 : ydk cX1_test 0 [42, 27, 182, 0, 66, 3, 61, 28, 17, 6, 64, 162, 0, 42, 42, 180, 0, 15, 182, 0, 41, 16, 21, 160, 0, 30, 42, 180, 0, 15, 182, 0, 45, 42, 27, 182, 0, 66, 42] = true := by decide +kernel
theorem dX1_test_0 : decode cX1_test 0 = .ok (.aload_n 0, 1) := yd_op_42 (i := 0) yd_by_cX1_test_0 rfl rfl
theorem dX1_test_1 : decode cX1_test 1 = .ok (.iload_n 1, 1) := yd_op_27 (i := 1) yd_by_cX1_test_0 rfl rfl
theorem dX1_test_2 : decode cX1_test 2 = .ok (.invokevirtual 66, 3) := yd_op_182 (i := 2) (a := 0) (b := 66) yd_by_cX1_test_0 rfl rfl
theorem dX1_test_5 : decode cX1_test 5 = .ok (.iconst 0, 1) := yd_op_3 (i := 5) yd_by_cX1_test_0 rfl rfl
theorem dX1_test_6 : decode cX1_test 6 = .ok (.istore_n 2, 1) := yd_op_61 (i := 6) yd_by_cX1_test_0 rfl rfl
theorem dX1_test_7 : decode cX1_test 7 = .ok (.iload_n 2, 1) := yd_op_28 (i := 7) yd_by_cX1_test_0 rfl rfl
theorem dX1_test_8 : decode cX1_test 8 = .ok (.sipush 1600, 3) := yd_op_17 (i := 8) (a := 6) (b := 64) yd_by_cX1_test_0 rfl rfl
theorem dX1_test_11 : decode cX1_test 11 = .ok (.if_icmp .ge 42, 3) := yd_op_162 (i := 11) (a := 0) (b := 42) yd_by_cX1_test_0 rfl rfl
theorem dX1_test_14 : decode cX1_test 14 = .ok (.aload_n 0, 1) := yd_op_42 (i := 14) yd_by_cX1_test_0 rfl rfl
theorem dX1_test_15 : decode cX1_test 15 = .ok (.getfield 15, 3) := yd_op_180 (i := 15) (a := 0) (b := 15) yd_by_cX1_test_0 rfl rfl
theorem dX1_test_18 : decode cX1_test 18 = .ok (.invokevirtual 41, 3) := yd_op_182 (i := 18) (a := 0) (b := 41) yd_by_cX1_test_0 rfl rfl
theorem dX1_test_21 : decode cX1_test 21 = .ok (.bipush 21, 2) := yd_op_16 (i := 21) (a := 21) yd_by_cX1_test_0 rfl rfl
theorem dX1_test_23 : decode cX1_test 23 = .ok (.if_icmp .ne 30, 3) := yd_op_160 (i := 23) (a := 0) (b := 30) yd_by_cX1_test_0 rfl rfl
theorem dX1_test_26 : decode cX1_test 26 = .ok (.aload_n 0, 1) := yd_op_42 (i := 26) yd_by_cX1_test_0 rfl rfl
theorem dX1_test_27 : decode cX1_test 27 = .ok (.getfield 15, 3) := yd_op_180 (i := 27) (a := 0) (b := 15) yd_by_cX1_test_0 rfl rfl
theorem dX1_test_30 : decode cX1_test 30 = .ok (.invokevirtual 45, 3) := yd_op_182 (i := 30) (a := 0) (b := 45) yd_by_cX1_test_0 rfl rfl
theorem dX1_test_33 : decode cX1_test 33 = .ok (.aload_n 0, 1) := yd_op_42 (i := 33) yd_by_cX1_test_0 rfl rfl
theorem dX1_test_34 : decode cX1_test 34 = .ok (.iload_n 1, 1) := yd_op_27 (i := 34) yd_by_cX1_test_0 rfl rfl
theorem dX1_test_35 : decode cX1_test 35 = .ok (.invokevirtual 66, 3) := yd_op_182 (i := 35) (a := 0) (b := 66) yd_by_cX1_test_0 rfl rfl
theorem dX1_test_38 : decode cX1_test 38 = .ok (.aload_n 0, 1) := yd_op_42 (i := 38) yd_by_cX1_test_0 rfl rfl
set_option maxRecDepth 100000 in
theorem yd_by_cX1_test_1 : ydk cX1_test 39 [180, 0, 19, 16, 21, 182, 0, 69, 132, 2, 1, 167, 255, 213, 177] = true := by decide +kernel
theorem dX1_test_39 : decode cX1_test 39 = .ok (.getfield 19, 3) := yd_op_180 (i := 0) (a := 0) (b := 19) yd_by_cX1_test_1 rfl rfl
theorem dX1_test_42 : decode cX1_test 42 = .ok (.bipush 21, 2) := yd_op_16 (i := 3) (a := 21) yd_by_cX1_test_1 rfl rfl
theorem dX1_test_44 : decode cX1_test 44 = .ok (.invokevirtual 69, 3) := yd_op_182 (i := 5) (a := 0) (b := 69) yd_by_cX1_test_1 rfl rfl
theorem dX1_test_47 : decode cX1_test 47 = .ok (.iinc 2 1, 3) := yd_op_132 (i := 8) (a := 2) (b := 1) yd_by_cX1_test_1 rfl rfl
theorem dX1_test_50 : decode cX1_test 50 = .ok (.goto (-43), 3) := yd_op_167 (i := 11) (a := 255) (b := 213) yd_by_cX1_test_1 rfl rfl
theorem dX1_test_53 : decode cX1_test 53 = .ok (.return_, 1) := yd_op_177 (i := 14) yd_by_cX1_test_1 rfl rfl
set_option maxRecDepth 100000 in
theorem yd_by_cX1_both_0 : ydk cX1_both 0 [42, 27, 182, 0, 72, 3, 61, 28, 17, 6, 64, 162, 0, 42, 42, 180, 0, 15, 182, 0, 41, 16, 22, 160, 0, 30, 42, 180, 0, 15, 182, 0, 45, 42, 27, 182, 0, 72, 42] = true := by decide +kernel
theorem dX1_both_0 : decode cX1_both 0 = .ok (.aload_n 0, 1) := yd_op_42 (i := 0) yd_by_cX1_both_0 rfl rfl
theorem dX1_both_1 : decode cX1_both 1 = .ok (.iload_n 1, 1) := yd_op_27 (i := 1) yd_by_cX1_both_0 rfl rfl
theorem dX1_both_2 : decode cX1_both 2 = .ok (.invokevirtual 72, 3) := yd_op_182 (i := 2) (a := 0) (b := 72) yd_by_cX1_both_0 rfl rfl
theorem dX1_both_5 : decode cX1_both 5 = .ok (.iconst 0, 1) := yd_op_3 (i := 5) yd_by_cX1_both_0 rfl rfl
theorem dX1_both_6 : decode cX1_both 6 = .ok (.istore_n 2, 1) := yd_op_61 (i := 6) yd_by_cX1_both_0 rfl rfl
theorem dX1_both_7 : decode cX1_both 7 = .ok (.iload_n 2, 1) := yd_op_28 (i := 7) yd_by_cX1_both_0 rfl rfl
theorem dX1_both_8 : decode cX1_both 8 = .ok (.sipush 1600, 3) := yd_op_17 (i := 8) (a := 6) (b := 64) yd_by_cX1_both_0 rfl rfl
theorem dX1_both_11 : decode cX1_both 11 = .ok (.if_icmp .ge 42, 3) := yd_op_162 (i := 11) (a := 0) (b := 42) yd_by_cX1_both_0 rfl rfl
theorem dX1_both_14 : decode cX1_both 14 = .ok (.aload_n 0, 1) := yd_op_42 (i := 14) yd_by_cX1_both_0 rfl rfl
theorem dX1_both_15 : decode cX1_both 15 = .ok (.getfield 15, 3) := yd_op_180 (i := 15) (a := 0) (b := 15) yd_by_cX1_both_0 rfl rfl
theorem dX1_both_18 : decode cX1_both 18 = .ok (.invokevirtual 41, 3) := yd_op_182 (i := 18) (a := 0) (b := 41) yd_by_cX1_both_0 rfl rfl
theorem dX1_both_21 : decode cX1_both 21 = .ok (.bipush 22, 2) := yd_op_16 (i := 21) (a := 22) yd_by_cX1_both_0 rfl rfl
theorem dX1_both_23 : decode cX1_both 23 = .ok (.if_icmp .ne 30, 3) := yd_op_160 (i := 23) (a := 0) (b := 30) yd_by_cX1_both_0 rfl rfl
theorem dX1_both_26 : decode cX1_both 26 = .ok (.aload_n 0, 1) := yd_op_42 (i := 26) yd_by_cX1_both_0 rfl rfl
theorem dX1_both_27 : decode cX1_both 27 = .ok (.getfield 15, 3) := yd_op_180 (i := 27) (a := 0) (b := 15) yd_by_cX1_both_0 rfl rfl
theorem dX1_both_30 : decode cX1_both 30 = .ok (.invokevirtual 45, 3) := yd_op_182 (i := 30) (a := 0) (b := 45) yd_by_cX1_both_0 rfl rfl
theorem dX1_both_33 : decode cX1_both 33 = .ok (.aload_n 0, 1) := yd_op_42 (i := 33) yd_by_cX1_both_0 rfl rfl
theorem dX1_both_34 : decode cX1_both 34 = .ok (.iload_n 1, 1) := yd_op_27 (i := 34) yd_by_cX1_both_0 rfl rfl
theorem dX1_both_35 : decode cX1_both 35 = .ok (.invokevirtual 72, 3) := yd_op_182 (i := 35) (a := 0) (b := 72) yd_by_cX1_both_0 rfl rfl
theorem dX1_both_38 : decode cX1_both 38 = .ok (.aload_n 0, 1) := yd_op_42 (i := 38) yd_by_cX1_both_0 rfl rfl
set_option maxRecDepth 100000 in
theorem yd_by_cX1_both_1 : ydk cX1_both 39 [180, 0, 19, 16, 22, 182, 0, 69, 132, 2, 1, 167, 255, 213, 177] = true := by decide +kernel
theorem dX1_both_39 : decode cX1_both 39 = .ok (.getfield 19, 3) := yd_op_180 (i := 0) (a := 0) (b := 19) yd_by_cX1_both_1 rfl rfl
theorem dX1_both_42 : decode cX1_both 42 = .ok (.bipush 22, 2) := yd_op_16 (i := 3) (a := 22) yd_by_cX1_both_1 rfl rfl
theorem dX1_both_44 : decode cX1_both 44 = .ok (.invokevirtual 69, 3) := yd_op_182 (i := 5) (a := 0) (b := 69) yd_by_cX1_both_1 rfl rfl
theorem dX1_both_47 : decode cX1_both 47 = .ok (.iinc 2 1, 3) := yd_op_132 (i := 8) (a := 2) (b := 1) yd_by_cX1_both_1 rfl rfl
theorem dX1_both_50 : decode cX1_both 50 = .ok (.goto (-43), 3) := yd_op_167 (i := 11) (a := 255) (b := 213) yd_by_cX1_both_1 rfl rfl
theorem dX1_both_53 : decode cX1_both 53 = .ok (.return_, 1) := yd_op_177 (i := 14) yd_by_cX1_both_1 rfl rfl
set_option maxRecDepth 100000 in
theorem yd_by_cX1_fact_0 : ydk cX1_fact 0 [42, 180, 0, 15, 182, 0, 41, 16, 23, 160, 0, 30, 42, 27, 182, 0, 75, 153, 0, 97, 42, 27, 4, 96, 182, 0, 72, 42, 180, 0, 19, 16, 23, 182, 0, 69, 167, 0, 78, 42] = true := by decide +kernel
theorem dX1_fact_0 : decode cX1_fact 0 = .ok (.aload_n 0, 1) := yd_op_42 (i := 0) yd_by_cX1_fact_0 rfl rfl
theorem dX1_fact_1 : decode cX1_fact 1 = .ok (.getfield 15, 3) := yd_op_180 (i := 1) (a := 0) (b := 15) yd_by_cX1_fact_0 rfl rfl
theorem dX1_fact_4 : decode cX1_fact 4 = .ok (.invokevirtual 41, 3) := yd_op_182 (i := 4) (a := 0) (b := 41) yd_by_cX1_fact_0 rfl rfl
theorem dX1_fact_7 : decode cX1_fact 7 = .ok (.bipush 23, 2) := yd_op_16 (i := 7) (a := 23) yd_by_cX1_fact_0 rfl rfl
theorem dX1_fact_9 : decode cX1_fact 9 = .ok (.if_icmp .ne 30, 3) := yd_op_160 (i := 9) (a := 0) (b := 30) yd_by_cX1_fact_0 rfl rfl
theorem dX1_fact_12 : decode cX1_fact 12 = .ok (.aload_n 0, 1) := yd_op_42 (i := 12) yd_by_cX1_fact_0 rfl rfl
theorem dX1_fact_13 : decode cX1_fact 13 = .ok (.iload_n 1, 1) := yd_op_27 (i := 13) yd_by_cX1_fact_0 rfl rfl
theorem dX1_fact_14 : decode cX1_fact 14 = .ok (.invokevirtual 75, 3) := yd_op_182 (i := 14) (a := 0) (b := 75) yd_by_cX1_fact_0 rfl rfl
theorem dX1_fact_17 : decode cX1_fact 17 = .ok (.ifCond .eq 97, 3) := yd_op_153 (i := 17) (a := 0) (b := 97) yd_by_cX1_fact_0 rfl rfl
theorem dX1_fact_20 : decode cX1_fact 20 = .ok (.aload_n 0, 1) := yd_op_42 (i := 20) yd_by_cX1_fact_0 rfl rfl
theorem dX1_fact_21 : decode cX1_fact 21 = .ok (.iload_n 1, 1) := yd_op_27 (i := 21) yd_by_cX1_fact_0 rfl rfl
theorem dX1_fact_22 : decode cX1_fact 22 = .ok (.iconst 1, 1) := yd_op_4 (i := 22) yd_by_cX1_fact_0 rfl rfl
theorem dX1_fact_23 : decode cX1_fact 23 = .ok (.iadd, 1) := yd_op_96 (i := 23) yd_by_cX1_fact_0 rfl rfl
theorem dX1_fact_24 : decode cX1_fact 24 = .ok (.invokevirtual 72, 3) := yd_op_182 (i := 24) (a := 0) (b := 72) yd_by_cX1_fact_0 rfl rfl
theorem dX1_fact_27 : decode cX1_fact 27 = .ok (.aload_n 0, 1) := yd_op_42 (i := 27) yd_by_cX1_fact_0 rfl rfl
theorem dX1_fact_28 : decode cX1_fact 28 = .ok (.getfield 19, 3) := yd_op_180 (i := 28) (a := 0) (b := 19) yd_by_cX1_fact_0 rfl rfl
theorem dX1_fact_31 : decode cX1_fact 31 = .ok (.bipush 23, 2) := yd_op_16 (i := 31) (a := 23) yd_by_cX1_fact_0 rfl rfl
theorem dX1_fact_33 : decode cX1_fact 33 = .ok (.invokevirtual 69, 3) := yd_op_182 (i := 33) (a := 0) (b := 69) yd_by_cX1_fact_0 rfl rfl
theorem dX1_fact_36 : decode cX1_fact 36 = .ok (.goto 78, 3) := yd_op_167 (i := 36) (a := 0) (b := 78) yd_by_cX1_fact_0 rfl rfl
theorem dX1_fact_39 : decode cX1_fact 39 = .ok (.aload_n 0, 1) := yd_op_42 (i := 39) yd_by_cX1_fact_0 rfl rfl
set_option maxRecDepth 100000 in
theorem yd_by_cX1_fact_1 : ydk cX1_fact 40 [180, 0, 15, 182, 0, 79, 16, 91, 160, 0, 30, 42, 27, 182, 0, 75, 153, 0, 58, 42, 27, 4, 96, 182, 0, 32, 42, 180, 0, 15, 16, 93, 182, 0, 82, 167, 0, 39, 42, 180, 0, 15] = true := by decide +kernel
theorem dX1_fact_40 : decode cX1_fact 40 = .ok (.getfield 15, 3) := yd_op_180 (i := 0) (a := 0) (b := 15) yd_by_cX1_fact_1 rfl rfl
theorem dX1_fact_43 : decode cX1_fact 43 = .ok (.invokevirtual 79, 3) := yd_op_182 (i := 3) (a := 0) (b := 79) yd_by_cX1_fact_1 rfl rfl
theorem dX1_fact_46 : decode cX1_fact 46 = .ok (.bipush 91, 2) := yd_op_16 (i := 6) (a := 91) yd_by_cX1_fact_1 rfl rfl
theorem dX1_fact_48 : decode cX1_fact 48 = .ok (.if_icmp .ne 30, 3) := yd_op_160 (i := 8) (a := 0) (b := 30) yd_by_cX1_fact_1 rfl rfl
theorem dX1_fact_51 : decode cX1_fact 51 = .ok (.aload_n 0, 1) := yd_op_42 (i := 11) yd_by_cX1_fact_1 rfl rfl
theorem dX1_fact_52 : decode cX1_fact 52 = .ok (.iload_n 1, 1) := yd_op_27 (i := 12) yd_by_cX1_fact_1 rfl rfl
theorem dX1_fact_53 : decode cX1_fact 53 = .ok (.invokevirtual 75, 3) := yd_op_182 (i := 13) (a := 0) (b := 75) yd_by_cX1_fact_1 rfl rfl
theorem dX1_fact_56 : decode cX1_fact 56 = .ok (.ifCond .eq 58, 3) := yd_op_153 (i := 16) (a := 0) (b := 58) yd_by_cX1_fact_1 rfl rfl
theorem dX1_fact_59 : decode cX1_fact 59 = .ok (.aload_n 0, 1) := yd_op_42 (i := 19) yd_by_cX1_fact_1 rfl rfl
theorem dX1_fact_60 : decode cX1_fact 60 = .ok (.iload_n 1, 1) := yd_op_27 (i := 20) yd_by_cX1_fact_1 rfl rfl
theorem dX1_fact_61 : decode cX1_fact 61 = .ok (.iconst 1, 1) := yd_op_4 (i := 21) yd_by_cX1_fact_1 rfl rfl
theorem dX1_fact_62 : decode cX1_fact 62 = .ok (.iadd, 1) := yd_op_96 (i := 22) yd_by_cX1_fact_1 rfl rfl
theorem dX1_fact_63 : decode cX1_fact 63 = .ok (.invokevirtual 32, 3) := yd_op_182 (i := 23) (a := 0) (b := 32) yd_by_cX1_fact_1 rfl rfl
theorem dX1_fact_66 : decode cX1_fact 66 = .ok (.aload_n 0, 1) := yd_op_42 (i := 26) yd_by_cX1_fact_1 rfl rfl
theorem dX1_fact_67 : decode cX1_fact 67 = .ok (.getfield 15, 3) := yd_op_180 (i := 27) (a := 0) (b := 15) yd_by_cX1_fact_1 rfl rfl
theorem dX1_fact_70 : decode cX1_fact 70 = .ok (.bipush 93, 2) := yd_op_16 (i := 30) (a := 93) yd_by_cX1_fact_1 rfl rfl
theorem dX1_fact_72 : decode cX1_fact 72 = .ok (.invokevirtual 82, 3) := yd_op_182 (i := 32) (a := 0) (b := 82) yd_by_cX1_fact_1 rfl rfl
theorem dX1_fact_75 : decode cX1_fact 75 = .ok (.goto 39, 3) := yd_op_167 (i := 35) (a := 0) (b := 39) yd_by_cX1_fact_1 rfl rfl
theorem dX1_fact_78 : decode cX1_fact 78 = .ok (.aload_n 0, 1) := yd_op_42 (i := 38) yd_by_cX1_fact_1 rfl rfl
theorem dX1_fact_79 : decode cX1_fact 79 = .ok (.getfield 15, 3) := yd_op_180 (i := 39) (a := 0) (b := 15) yd_by_cX1_fact_1 rfl rfl
set_option maxRecDepth 100000 in
theorem yd_by_cX1_fact_2 : ydk cX1_fact 82 [182, 0, 41, 16, 24, 160, 0, 22, 42, 180, 0, 15, 182, 0, 45, 42, 180, 0, 19, 16, 24, 182, 0, 69, 167, 0, 8, 42, 27, 182, 0, 85, 177] = true := by decide +kernel
theorem dX1_fact_82 : decode cX1_fact 82 = .ok (.invokevirtual 41, 3) := yd_op_182 (i := 0) (a := 0) (b := 41) yd_by_cX1_fact_2 rfl rfl
theorem dX1_fact_85 : decode cX1_fact 85 = .ok (.bipush 24, 2) := yd_op_16 (i := 3) (a := 24) yd_by_cX1_fact_2 rfl rfl
theorem dX1_fact_87 : decode cX1_fact 87 = .ok (.if_icmp .ne 22, 3) := yd_op_160 (i := 5) (a := 0) (b := 22) yd_by_cX1_fact_2 rfl rfl
theorem dX1_fact_90 : decode cX1_fact 90 = .ok (.aload_n 0, 1) := yd_op_42 (i := 8) yd_by_cX1_fact_2 rfl rfl
theorem dX1_fact_91 : decode cX1_fact 91 = .ok (.getfield 15, 3) := yd_op_180 (i := 9) (a := 0) (b := 15) yd_by_cX1_fact_2 rfl rfl
theorem dX1_fact_94 : decode cX1_fact 94 = .ok (.invokevirtual 45, 3) := yd_op_182 (i := 12) (a := 0) (b := 45) yd_by_cX1_fact_2 rfl rfl
theorem dX1_fact_97 : decode cX1_fact 97 = .ok (.aload_n 0, 1) := yd_op_42 (i := 15) yd_by_cX1_fact_2 rfl rfl
theorem dX1_fact_98 : decode cX1_fact 98 = .ok (.getfield 19, 3) := yd_op_180 (i := 16) (a := 0) (b := 19) yd_by_cX1_fact_2 rfl rfl
theorem dX1_fact_101 : decode cX1_fact 101 = .ok (.bipush 24, 2) := yd_op_16 (i := 19) (a := 24) yd_by_cX1_fact_2 rfl rfl
theorem dX1_fact_103 : decode cX1_fact 103 = .ok (.invokevirtual 69, 3) := yd_op_182 (i := 21) (a := 0) (b := 69) yd_by_cX1_fact_2 rfl rfl
theorem dX1_fact_106 : decode cX1_fact 106 = .ok (.goto 8, 3) := yd_op_167 (i := 24) (a := 0) (b := 8) yd_by_cX1_fact_2 rfl rfl
theorem dX1_fact_109 : decode cX1_fact 109 = .ok (.aload_n 0, 1) := yd_op_42 (i := 27) yd_by_cX1_fact_2 rfl rfl
theorem dX1_fact_110 : decode cX1_fact 110 = .ok (.iload_n 1, 1) := yd_op_27 (i := 28) yd_by_cX1_fact_2 rfl rfl
theorem dX1_fact_111 : decode cX1_fact 111 = .ok (.invokevirtual 85, 3) := yd_op_182 (i := 29) (a := 0) (b := 85) yd_by_cX1_fact_2 rfl rfl
theorem dX1_fact_114 : decode cX1_fact 114 = .ok (.return_, 1) := yd_op_177 (i := 32) yd_by_cX1_fact_2 rfl rfl
set_option maxRecDepth 100000 in
theorem yd_by_cX1_comparison_0 : ydk cX1_comparison 0 [42, 27, 182, 0, 28, 42, 180, 0, 15, 182, 0, 79, 61, 28, 16, 60, 159, 0, 15, 28, 16, 62, 159, 0, 9, 28, 16, 61, 160, 0, 26, 42, 180, 0, 15, 182, 0, 45, 42] = true := by decide +kernel
theorem dX1_comparison_0 : decode cX1_comparison 0 = .ok (.aload_n 0, 1) := yd_op_42 (i := 0) yd_by_cX1_comparison_0 rfl rfl
theorem dX1_comparison_1 : decode cX1_comparison 1 = .ok (.iload_n 1, 1) := yd_op_27 (i := 1) yd_by_cX1_comparison_0 rfl rfl
theorem dX1_comparison_2 : decode cX1_comparison 2 = .ok (.invokevirtual 28, 3) := yd_op_182 (i := 2) (a := 0) (b := 28) yd_by_cX1_comparison_0 rfl rfl
theorem dX1_comparison_5 : decode cX1_comparison 5 = .ok (.aload_n 0, 1) := yd_op_42 (i := 5) yd_by_cX1_comparison_0 rfl rfl
theorem dX1_comparison_6 : decode cX1_comparison 6 = .ok (.getfield 15, 3) := yd_op_180 (i := 6) (a := 0) (b := 15) yd_by_cX1_comparison_0 rfl rfl
theorem dX1_comparison_9 : decode cX1_comparison 9 = .ok (.invokevirtual 79, 3) := yd_op_182 (i := 9) (a := 0) (b := 79) yd_by_cX1_comparison_0 rfl rfl
theorem dX1_comparison_12 : decode cX1_comparison 12 = .ok (.istore_n 2, 1) := yd_op_61 (i := 12) yd_by_cX1_comparison_0 rfl rfl
theorem dX1_comparison_13 : decode cX1_comparison 13 = .ok (.iload_n 2, 1) := yd_op_28 (i := 13) yd_by_cX1_comparison_0 rfl rfl
theorem dX1_comparison_14 : decode cX1_comparison 14 = .ok (.bipush 60, 2) := yd_op_16 (i := 14) (a := 60) yd_by_cX1_comparison_0 rfl rfl
theorem dX1_comparison_16 : decode cX1_comparison 16 = .ok (.if_icmp .eq 15, 3) := yd_op_159 (i := 16) (a := 0) (b := 15) yd_by_cX1_comparison_0 rfl rfl
theorem dX1_comparison_19 : decode cX1_comparison 19 = .ok (.iload_n 2, 1) := yd_op_28 (i := 19) yd_by_cX1_comparison_0 rfl rfl
theorem dX1_comparison_20 : decode cX1_comparison 20 = .ok (.bipush 62, 2) := yd_op_16 (i := 20) (a := 62) yd_by_cX1_comparison_0 rfl rfl
theorem dX1_comparison_22 : decode cX1_comparison 22 = .ok (.if_icmp .eq 9, 3) := yd_op_159 (i := 22) (a := 0) (b := 9) yd_by_cX1_comparison_0 rfl rfl
theorem dX1_comparison_25 : decode cX1_comparison 25 = .ok (.iload_n 2, 1) := yd_op_28 (i := 25) yd_by_cX1_comparison_0 rfl rfl
theorem dX1_comparison_26 : decode cX1_comparison 26 = .ok (.bipush 61, 2) := yd_op_16 (i := 26) (a := 61) yd_by_cX1_comparison_0 rfl rfl
theorem dX1_comparison_28 : decode cX1_comparison 28 = .ok (.if_icmp .ne 26, 3) := yd_op_160 (i := 28) (a := 0) (b := 26) yd_by_cX1_comparison_0 rfl rfl
theorem dX1_comparison_31 : decode cX1_comparison 31 = .ok (.aload_n 0, 1) := yd_op_42 (i := 31) yd_by_cX1_comparison_0 rfl rfl
theorem dX1_comparison_32 : decode cX1_comparison 32 = .ok (.getfield 15, 3) := yd_op_180 (i := 32) (a := 0) (b := 15) yd_by_cX1_comparison_0 rfl rfl
theorem dX1_comparison_35 : decode cX1_comparison 35 = .ok (.invokevirtual 45, 3) := yd_op_182 (i := 35) (a := 0) (b := 45) yd_by_cX1_comparison_0 rfl rfl
theorem dX1_comparison_38 : decode cX1_comparison 38 = .ok (.aload_n 0, 1) := yd_op_42 (i := 38) yd_by_cX1_comparison_0 rfl rfl
set_option maxRecDepth 100000 in
theorem yd_by_cX1_comparison_1 : ydk cX1_comparison 39 [27, 182, 0, 28, 42, 180, 0, 19, 28, 182, 0, 69, 167, 0, 18, 42, 180, 0, 15, 4, 42, 180, 0, 15, 182, 0, 55, 182, 0, 58, 177] = true := by decide +kernel
theorem dX1_comparison_39 : decode cX1_comparison 39 = .ok (.iload_n 1, 1) := yd_op_27 (i := 0) yd_by_cX1_comparison_1 rfl rfl
theorem dX1_comparison_40 : decode cX1_comparison 40 = .ok (.invokevirtual 28, 3) := yd_op_182 (i := 1) (a := 0) (b := 28) yd_by_cX1_comparison_1 rfl rfl
theorem dX1_comparison_43 : decode cX1_comparison 43 = .ok (.aload_n 0, 1) := yd_op_42 (i := 4) yd_by_cX1_comparison_1 rfl rfl
theorem dX1_comparison_44 : decode cX1_comparison 44 = .ok (.getfield 19, 3) := yd_op_180 (i := 5) (a := 0) (b := 19) yd_by_cX1_comparison_1 rfl rfl
theorem dX1_comparison_47 : decode cX1_comparison 47 = .ok (.iload_n 2, 1) := yd_op_28 (i := 8) yd_by_cX1_comparison_1 rfl rfl
theorem dX1_comparison_48 : decode cX1_comparison 48 = .ok (.invokevirtual 69, 3) := yd_op_182 (i := 9) (a := 0) (b := 69) yd_by_cX1_comparison_1 rfl rfl
theorem dX1_comparison_51 : decode cX1_comparison 51 = .ok (.goto 18, 3) := yd_op_167 (i := 12) (a := 0) (b := 18) yd_by_cX1_comparison_1 rfl rfl
theorem dX1_comparison_54 : decode cX1_comparison 54 = .ok (.aload_n 0, 1) := yd_op_42 (i := 15) yd_by_cX1_comparison_1 rfl rfl
theorem dX1_comparison_55 : decode cX1_comparison 55 = .ok (.getfield 15, 3) := yd_op_180 (i := 16) (a := 0) (b := 15) yd_by_cX1_comparison_1 rfl rfl
theorem dX1_comparison_58 : decode cX1_comparison 58 = .ok (.iconst 1, 1) := yd_op_4 (i := 19) yd_by_cX1_comparison_1 rfl rfl
theorem dX1_comparison_59 : decode cX1_comparison 59 = .ok (.aload_n 0, 1) := yd_op_42 (i := 20) yd_by_cX1_comparison_1 rfl rfl
theorem dX1_comparison_60 : decode cX1_comparison 60 = .ok (.getfield 15, 3) := yd_op_180 (i := 21) (a := 0) (b := 15) yd_by_cX1_comparison_1 rfl rfl
theorem dX1_comparison_63 : decode cX1_comparison 63 = .ok (.invokevirtual 55, 3) := yd_op_182 (i := 24) (a := 0) (b := 55) yd_by_cX1_comparison_1 rfl rfl
theorem dX1_comparison_66 : decode cX1_comparison 66 = .ok (.invokevirtual 58, 3) := yd_op_182 (i := 27) (a := 0) (b := 58) yd_by_cX1_comparison_1 rfl rfl
theorem dX1_comparison_69 : decode cX1_comparison 69 = .ok (.return_, 1) := yd_op_177 (i := 30) yd_by_cX1_comparison_1 rfl rfl
set_option maxRecDepth 100000 in
theorem yd_by_cX1_sum_0 : ydk cX1_sum 0 [42, 27, 182, 0, 88, 3, 61, 28, 17, 6, 64, 162, 0, 61, 42, 180, 0, 15, 182, 0, 79, 16, 43, 159, 0, 15, 42, 180, 0, 15, 182, 0, 79, 16, 45, 160, 0, 37, 42, 180, 0, 15] = true := by decide +kernel
theorem dX1_sum_0 : decode cX1_sum 0 = .ok (.aload_n 0, 1) := yd_op_42 (i := 0) yd_by_cX1_sum_0 rfl rfl
theorem dX1_sum_1 : decode cX1_sum 1 = .ok (.iload_n 1, 1) := yd_op_27 (i := 1) yd_by_cX1_sum_0 rfl rfl
theorem dX1_sum_2 : decode cX1_sum 2 = .ok (.invokevirtual 88, 3) := yd_op_182 (i := 2) (a := 0) (b := 88) yd_by_cX1_sum_0 rfl rfl
theorem dX1_sum_5 : decode cX1_sum 5 = .ok (.iconst 0, 1) := yd_op_3 (i := 5) yd_by_cX1_sum_0 rfl rfl
theorem dX1_sum_6 : decode cX1_sum 6 = .ok (.istore_n 2, 1) := yd_op_61 (i := 6) yd_by_cX1_sum_0 rfl rfl
theorem dX1_sum_7 : decode cX1_sum 7 = .ok (.iload_n 2, 1) := yd_op_28 (i := 7) yd_by_cX1_sum_0 rfl rfl
theorem dX1_sum_8 : decode cX1_sum 8 = .ok (.sipush 1600, 3) := yd_op_17 (i := 8) (a := 6) (b := 64) yd_by_cX1_sum_0 rfl rfl
theorem dX1_sum_11 : decode cX1_sum 11 = .ok (.if_icmp .ge 61, 3) := yd_op_162 (i := 11) (a := 0) (b := 61) yd_by_cX1_sum_0 rfl rfl
theorem dX1_sum_14 : decode cX1_sum 14 = .ok (.aload_n 0, 1) := yd_op_42 (i := 14) yd_by_cX1_sum_0 rfl rfl
theorem dX1_sum_15 : decode cX1_sum 15 = .ok (.getfield 15, 3) := yd_op_180 (i := 15) (a := 0) (b := 15) yd_by_cX1_sum_0 rfl rfl
theorem dX1_sum_18 : decode cX1_sum 18 = .ok (.invokevirtual 79, 3) := yd_op_182 (i := 18) (a := 0) (b := 79) yd_by_cX1_sum_0 rfl rfl
theorem dX1_sum_21 : decode cX1_sum 21 = .ok (.bipush 43, 2) := yd_op_16 (i := 21) (a := 43) yd_by_cX1_sum_0 rfl rfl
theorem dX1_sum_23 : decode cX1_sum 23 = .ok (.if_icmp .eq 15, 3) := yd_op_159 (i := 23) (a := 0) (b := 15) yd_by_cX1_sum_0 rfl rfl
theorem dX1_sum_26 : decode cX1_sum 26 = .ok (.aload_n 0, 1) := yd_op_42 (i := 26) yd_by_cX1_sum_0 rfl rfl
theorem dX1_sum_27 : decode cX1_sum 27 = .ok (.getfield 15, 3) := yd_op_180 (i := 27) (a := 0) (b := 15) yd_by_cX1_sum_0 rfl rfl
theorem dX1_sum_30 : decode cX1_sum 30 = .ok (.invokevirtual 79, 3) := yd_op_182 (i := 30) (a := 0) (b := 79) yd_by_cX1_sum_0 rfl rfl
theorem dX1_sum_33 : decode cX1_sum 33 = .ok (.bipush 45, 2) := yd_op_16 (i := 33) (a := 45) yd_by_cX1_sum_0 rfl rfl
theorem dX1_sum_35 : decode cX1_sum 35 = .ok (.if_icmp .ne 37, 3) := yd_op_160 (i := 35) (a := 0) (b := 37) yd_by_cX1_sum_0 rfl rfl
theorem dX1_sum_38 : decode cX1_sum 38 = .ok (.aload_n 0, 1) := yd_op_42 (i := 38) yd_by_cX1_sum_0 rfl rfl
theorem dX1_sum_39 : decode cX1_sum 39 = .ok (.getfield 15, 3) := yd_op_180 (i := 39) (a := 0) (b := 15) yd_by_cX1_sum_0 rfl rfl
set_option maxRecDepth 100000 in
theorem yd_by_cX1_sum_1 : ydk cX1_sum 42 [182, 0, 79, 62, 42, 180, 0, 15, 182, 0, 45, 42, 27, 182, 0, 88, 42, 180, 0, 19, 29, 182, 0, 69, 132, 2, 1, 167, 255, 194, 177] = true := by decide +kernel
theorem dX1_sum_42 : decode cX1_sum 42 = .ok (.invokevirtual 79, 3) := yd_op_182 (i := 0) (a := 0) (b := 79) yd_by_cX1_sum_1 rfl rfl
theorem dX1_sum_45 : decode cX1_sum 45 = .ok (.istore_n 3, 1) := yd_op_62 (i := 3) yd_by_cX1_sum_1 rfl rfl
theorem dX1_sum_46 : decode cX1_sum 46 = .ok (.aload_n 0, 1) := yd_op_42 (i := 4) yd_by_cX1_sum_1 rfl rfl
theorem dX1_sum_47 : decode cX1_sum 47 = .ok (.getfield 15, 3) := yd_op_180 (i := 5) (a := 0) (b := 15) yd_by_cX1_sum_1 rfl rfl
theorem dX1_sum_50 : decode cX1_sum 50 = .ok (.invokevirtual 45, 3) := yd_op_182 (i := 8) (a := 0) (b := 45) yd_by_cX1_sum_1 rfl rfl
theorem dX1_sum_53 : decode cX1_sum 53 = .ok (.aload_n 0, 1) := yd_op_42 (i := 11) yd_by_cX1_sum_1 rfl rfl
theorem dX1_sum_54 : decode cX1_sum 54 = .ok (.iload_n 1, 1) := yd_op_27 (i := 12) yd_by_cX1_sum_1 rfl rfl
theorem dX1_sum_55 : decode cX1_sum 55 = .ok (.invokevirtual 88, 3) := yd_op_182 (i := 13) (a := 0) (b := 88) yd_by_cX1_sum_1 rfl rfl
theorem dX1_sum_58 : decode cX1_sum 58 = .ok (.aload_n 0, 1) := yd_op_42 (i := 16) yd_by_cX1_sum_1 rfl rfl
theorem dX1_sum_59 : decode cX1_sum 59 = .ok (.getfield 19, 3) := yd_op_180 (i := 17) (a := 0) (b := 19) yd_by_cX1_sum_1 rfl rfl
theorem dX1_sum_62 : decode cX1_sum 62 = .ok (.iload_n 3, 1) := yd_op_29 (i := 20) yd_by_cX1_sum_1 rfl rfl
theorem dX1_sum_63 : decode cX1_sum 63 = .ok (.invokevirtual 69, 3) := yd_op_182 (i := 21) (a := 0) (b := 69) yd_by_cX1_sum_1 rfl rfl
theorem dX1_sum_66 : decode cX1_sum 66 = .ok (.iinc 2 1, 3) := yd_op_132 (i := 24) (a := 2) (b := 1) yd_by_cX1_sum_1 rfl rfl
theorem dX1_sum_69 : decode cX1_sum 69 = .ok (.goto (-62), 3) := yd_op_167 (i := 27) (a := 255) (b := 194) yd_by_cX1_sum_1 rfl rfl
theorem dX1_sum_72 : decode cX1_sum 72 = .ok (.return_, 1) := yd_op_177 (i := 30) yd_by_cX1_sum_1 rfl rfl
set_option maxRecDepth 100000 in
theorem yd_by_cX1_product_0 : ydk cX1_product 0 [42, 27, 182, 0, 91, 3, 61, 28, 17, 6, 64, 162, 0, 61, 42, 180, 0, 15, 182, 0, 79, 16, 42, 159, 0, 15, 42, 180, 0, 15, 182, 0, 79, 16, 47, 160, 0, 37, 42, 180, 0, 15] = true := by decide +kernel
theorem dX1_product_0 : decode cX1_product 0 = .ok (.aload_n 0, 1) := yd_op_42 (i := 0) yd_by_cX1_product_0 rfl rfl
theorem dX1_product_1 : decode cX1_product 1 = .ok (.iload_n 1, 1) := yd_op_27 (i := 1) yd_by_cX1_product_0 rfl rfl
theorem dX1_product_2 : decode cX1_product 2 = .ok (.invokevirtual 91, 3) := yd_op_182 (i := 2) (a := 0) (b := 91) yd_by_cX1_product_0 rfl rfl
theorem dX1_product_5 : decode cX1_product 5 = .ok (.iconst 0, 1) := yd_op_3 (i := 5) yd_by_cX1_product_0 rfl rfl
theorem dX1_product_6 : decode cX1_product 6 = .ok (.istore_n 2, 1) := yd_op_61 (i := 6) yd_by_cX1_product_0 rfl rfl
theorem dX1_product_7 : decode cX1_product 7 = .ok (.iload_n 2, 1) := yd_op_28 (i := 7) yd_by_cX1_product_0 rfl rfl
theorem dX1_product_8 : decode cX1_product 8 = .ok (.sipush 1600, 3) := yd_op_17 (i := 8) (a := 6) (b := 64) yd_by_cX1_product_0 rfl rfl
theorem dX1_product_11 : decode cX1_product 11 = .ok (.if_icmp .ge 61, 3) := yd_op_162 (i := 11) (a := 0) (b := 61) yd_by_cX1_product_0 rfl rfl
theorem dX1_product_14 : decode cX1_product 14 = .ok (.aload_n 0, 1) := yd_op_42 (i := 14) yd_by_cX1_product_0 rfl rfl
theorem dX1_product_15 : decode cX1_product 15 = .ok (.getfield 15, 3) := yd_op_180 (i := 15) (a := 0) (b := 15) yd_by_cX1_product_0 rfl rfl
theorem dX1_product_18 : decode cX1_product 18 = .ok (.invokevirtual 79, 3) := yd_op_182 (i := 18) (a := 0) (b := 79) yd_by_cX1_product_0 rfl rfl
theorem dX1_product_21 : decode cX1_product 21 = .ok (.bipush 42, 2) := yd_op_16 (i := 21) (a := 42) yd_by_cX1_product_0 rfl rfl
theorem dX1_product_23 : decode cX1_product 23 = .ok (.if_icmp .eq 15, 3) := yd_op_159 (i := 23) (a := 0) (b := 15) yd_by_cX1_product_0 rfl rfl
theorem dX1_product_26 : decode cX1_product 26 = .ok (.aload_n 0, 1) := yd_op_42 (i := 26) yd_by_cX1_product_0 rfl rfl
theorem dX1_product_27 : decode cX1_product 27 = .ok (.getfield 15, 3) := yd_op_180 (i := 27) (a := 0) (b := 15) yd_by_cX1_product_0 rfl rfl
theorem dX1_product_30 : decode cX1_product 30 = .ok (.invokevirtual 79, 3) := yd_op_182 (i := 30) (a := 0) (b := 79) yd_by_cX1_product_0 rfl rfl
theorem dX1_product_33 : decode cX1_product 33 = .ok (.bipush 47, 2) := yd_op_16 (i := 33) (a := 47) yd_by_cX1_product_0 rfl rfl
theorem dX1_product_35 : decode cX1_product 35 = .ok (.if_icmp .ne 37, 3) := yd_op_160 (i := 35) (a := 0) (b := 37) yd_by_cX1_product_0 rfl rfl
theorem dX1_product_38 : decode cX1_product 38 = .ok (.aload_n 0, 1) := yd_op_42 (i := 38) yd_by_cX1_product_0 rfl rfl
theorem dX1_product_39 : decode cX1_product 39 = .ok (.getfield 15, 3) := yd_op_180 (i := 39) (a := 0) (b := 15) yd_by_cX1_product_0 rfl rfl
set_option maxRecDepth 100000 in
theorem yd_by_cX1_product_1 : ydk cX1_product 42 [182, 0, 79, 62, 42, 180, 0, 15, 182, 0, 45, 42, 27, 182, 0, 91, 42, 180, 0, 19, 29, 182, 0, 69, 132, 2, 1, 167, 255, 194, 177] = true := by decide +kernel
theorem dX1_product_42 : decode cX1_product 42 = .ok (.invokevirtual 79, 3) := yd_op_182 (i := 0) (a := 0) (b := 79) yd_by_cX1_product_1 rfl rfl
theorem dX1_product_45 : decode cX1_product 45 = .ok (.istore_n 3, 1) := yd_op_62 (i := 3) yd_by_cX1_product_1 rfl rfl
theorem dX1_product_46 : decode cX1_product 46 = .ok (.aload_n 0, 1) := yd_op_42 (i := 4) yd_by_cX1_product_1 rfl rfl
theorem dX1_product_47 : decode cX1_product 47 = .ok (.getfield 15, 3) := yd_op_180 (i := 5) (a := 0) (b := 15) yd_by_cX1_product_1 rfl rfl
theorem dX1_product_50 : decode cX1_product 50 = .ok (.invokevirtual 45, 3) := yd_op_182 (i := 8) (a := 0) (b := 45) yd_by_cX1_product_1 rfl rfl
theorem dX1_product_53 : decode cX1_product 53 = .ok (.aload_n 0, 1) := yd_op_42 (i := 11) yd_by_cX1_product_1 rfl rfl
theorem dX1_product_54 : decode cX1_product 54 = .ok (.iload_n 1, 1) := yd_op_27 (i := 12) yd_by_cX1_product_1 rfl rfl
theorem dX1_product_55 : decode cX1_product 55 = .ok (.invokevirtual 91, 3) := yd_op_182 (i := 13) (a := 0) (b := 91) yd_by_cX1_product_1 rfl rfl
theorem dX1_product_58 : decode cX1_product 58 = .ok (.aload_n 0, 1) := yd_op_42 (i := 16) yd_by_cX1_product_1 rfl rfl
theorem dX1_product_59 : decode cX1_product 59 = .ok (.getfield 19, 3) := yd_op_180 (i := 17) (a := 0) (b := 19) yd_by_cX1_product_1 rfl rfl
theorem dX1_product_62 : decode cX1_product 62 = .ok (.iload_n 3, 1) := yd_op_29 (i := 20) yd_by_cX1_product_1 rfl rfl
theorem dX1_product_63 : decode cX1_product 63 = .ok (.invokevirtual 69, 3) := yd_op_182 (i := 21) (a := 0) (b := 69) yd_by_cX1_product_1 rfl rfl
theorem dX1_product_66 : decode cX1_product 66 = .ok (.iinc 2 1, 3) := yd_op_132 (i := 24) (a := 2) (b := 1) yd_by_cX1_product_1 rfl rfl
theorem dX1_product_69 : decode cX1_product 69 = .ok (.goto (-62), 3) := yd_op_167 (i := 27) (a := 255) (b := 194) yd_by_cX1_product_1 rfl rfl
theorem dX1_product_72 : decode cX1_product 72 = .ok (.return_, 1) := yd_op_177 (i := 30) yd_by_cX1_product_1 rfl rfl
set_option maxRecDepth 100000 in
theorem yd_by_cX1_part_0 : ydk cX1_part 0 [42, 180, 0, 15, 182, 0, 41, 61, 42, 180, 0, 15, 182, 0, 94, 62, 29, 5, 159, 0, 8, 29, 8, 160, 0, 24, 42, 180, 0, 19, 42, 180, 0, 15, 3, 17, 39, 15] = true := by decide +kernel
theorem dX1_part_0 : decode cX1_part 0 = .ok (.aload_n 0, 1) := yd_op_42 (i := 0) yd_by_cX1_part_0 rfl rfl
theorem dX1_part_1 : decode cX1_part 1 = .ok (.getfield 15, 3) := yd_op_180 (i := 1) (a := 0) (b := 15) yd_by_cX1_part_0 rfl rfl
theorem dX1_part_4 : decode cX1_part 4 = .ok (.invokevirtual 41, 3) := yd_op_182 (i := 4) (a := 0) (b := 41) yd_by_cX1_part_0 rfl rfl
theorem dX1_part_7 : decode cX1_part 7 = .ok (.istore_n 2, 1) := yd_op_61 (i := 7) yd_by_cX1_part_0 rfl rfl
theorem dX1_part_8 : decode cX1_part 8 = .ok (.aload_n 0, 1) := yd_op_42 (i := 8) yd_by_cX1_part_0 rfl rfl
theorem dX1_part_9 : decode cX1_part 9 = .ok (.getfield 15, 3) := yd_op_180 (i := 9) (a := 0) (b := 15) yd_by_cX1_part_0 rfl rfl
theorem dX1_part_12 : decode cX1_part 12 = .ok (.invokevirtual 94, 3) := yd_op_182 (i := 12) (a := 0) (b := 94) yd_by_cX1_part_0 rfl rfl
theorem dX1_part_15 : decode cX1_part 15 = .ok (.istore_n 3, 1) := yd_op_62 (i := 15) yd_by_cX1_part_0 rfl rfl
theorem dX1_part_16 : decode cX1_part 16 = .ok (.iload_n 3, 1) := yd_op_29 (i := 16) yd_by_cX1_part_0 rfl rfl
theorem dX1_part_17 : decode cX1_part 17 = .ok (.iconst 2, 1) := yd_op_5 (i := 17) yd_by_cX1_part_0 rfl rfl
theorem dX1_part_18 : decode cX1_part 18 = .ok (.if_icmp .eq 8, 3) := yd_op_159 (i := 18) (a := 0) (b := 8) yd_by_cX1_part_0 rfl rfl
theorem dX1_part_21 : decode cX1_part 21 = .ok (.iload_n 3, 1) := yd_op_29 (i := 21) yd_by_cX1_part_0 rfl rfl
theorem dX1_part_22 : decode cX1_part 22 = .ok (.iconst 5, 1) := yd_op_8 (i := 22) yd_by_cX1_part_0 rfl rfl
theorem dX1_part_23 : decode cX1_part 23 = .ok (.if_icmp .ne 24, 3) := yd_op_160 (i := 23) (a := 0) (b := 24) yd_by_cX1_part_0 rfl rfl
theorem dX1_part_26 : decode cX1_part 26 = .ok (.aload_n 0, 1) := yd_op_42 (i := 26) yd_by_cX1_part_0 rfl rfl
theorem dX1_part_27 : decode cX1_part 27 = .ok (.getfield 19, 3) := yd_op_180 (i := 27) (a := 0) (b := 19) yd_by_cX1_part_0 rfl rfl
theorem dX1_part_30 : decode cX1_part 30 = .ok (.aload_n 0, 1) := yd_op_42 (i := 30) yd_by_cX1_part_0 rfl rfl
theorem dX1_part_31 : decode cX1_part 31 = .ok (.getfield 15, 3) := yd_op_180 (i := 31) (a := 0) (b := 15) yd_by_cX1_part_0 rfl rfl
theorem dX1_part_34 : decode cX1_part 34 = .ok (.iconst 0, 1) := yd_op_3 (i := 34) yd_by_cX1_part_0 rfl rfl
theorem dX1_part_35 : decode cX1_part 35 = .ok (.sipush 9999, 3) := yd_op_17 (i := 35) (a := 39) (b := 15) yd_by_cX1_part_0 rfl rfl
set_option maxRecDepth 100000 in
theorem yd_by_cX1_part_1 : ydk cX1_part 38 [182, 0, 97, 182, 0, 101, 167, 0, 159, 42, 180, 0, 15, 182, 0, 79, 16, 40, 160, 0, 30, 42, 27, 182, 0, 75, 153, 0, 139, 42, 27, 4, 96, 182, 0, 28, 42, 180, 0, 15, 16, 41] = true := by decide +kernel
theorem dX1_part_38 : decode cX1_part 38 = .ok (.invokevirtual 97, 3) := yd_op_182 (i := 0) (a := 0) (b := 97) yd_by_cX1_part_1 rfl rfl
theorem dX1_part_41 : decode cX1_part 41 = .ok (.invokevirtual 101, 3) := yd_op_182 (i := 3) (a := 0) (b := 101) yd_by_cX1_part_1 rfl rfl
theorem dX1_part_44 : decode cX1_part 44 = .ok (.goto 159, 3) := yd_op_167 (i := 6) (a := 0) (b := 159) yd_by_cX1_part_1 rfl rfl
theorem dX1_part_47 : decode cX1_part 47 = .ok (.aload_n 0, 1) := yd_op_42 (i := 9) yd_by_cX1_part_1 rfl rfl
theorem dX1_part_48 : decode cX1_part 48 = .ok (.getfield 15, 3) := yd_op_180 (i := 10) (a := 0) (b := 15) yd_by_cX1_part_1 rfl rfl
theorem dX1_part_51 : decode cX1_part 51 = .ok (.invokevirtual 79, 3) := yd_op_182 (i := 13) (a := 0) (b := 79) yd_by_cX1_part_1 rfl rfl
theorem dX1_part_54 : decode cX1_part 54 = .ok (.bipush 40, 2) := yd_op_16 (i := 16) (a := 40) yd_by_cX1_part_1 rfl rfl
theorem dX1_part_56 : decode cX1_part 56 = .ok (.if_icmp .ne 30, 3) := yd_op_160 (i := 18) (a := 0) (b := 30) yd_by_cX1_part_1 rfl rfl
theorem dX1_part_59 : decode cX1_part 59 = .ok (.aload_n 0, 1) := yd_op_42 (i := 21) yd_by_cX1_part_1 rfl rfl
theorem dX1_part_60 : decode cX1_part 60 = .ok (.iload_n 1, 1) := yd_op_27 (i := 22) yd_by_cX1_part_1 rfl rfl
theorem dX1_part_61 : decode cX1_part 61 = .ok (.invokevirtual 75, 3) := yd_op_182 (i := 23) (a := 0) (b := 75) yd_by_cX1_part_1 rfl rfl
theorem dX1_part_64 : decode cX1_part 64 = .ok (.ifCond .eq 139, 3) := yd_op_153 (i := 26) (a := 0) (b := 139) yd_by_cX1_part_1 rfl rfl
theorem dX1_part_67 : decode cX1_part 67 = .ok (.aload_n 0, 1) := yd_op_42 (i := 29) yd_by_cX1_part_1 rfl rfl
theorem dX1_part_68 : decode cX1_part 68 = .ok (.iload_n 1, 1) := yd_op_27 (i := 30) yd_by_cX1_part_1 rfl rfl
theorem dX1_part_69 : decode cX1_part 69 = .ok (.iconst 1, 1) := yd_op_4 (i := 31) yd_by_cX1_part_1 rfl rfl
theorem dX1_part_70 : decode cX1_part 70 = .ok (.iadd, 1) := yd_op_96 (i := 32) yd_by_cX1_part_1 rfl rfl
theorem dX1_part_71 : decode cX1_part 71 = .ok (.invokevirtual 28, 3) := yd_op_182 (i := 33) (a := 0) (b := 28) yd_by_cX1_part_1 rfl rfl
theorem dX1_part_74 : decode cX1_part 74 = .ok (.aload_n 0, 1) := yd_op_42 (i := 36) yd_by_cX1_part_1 rfl rfl
theorem dX1_part_75 : decode cX1_part 75 = .ok (.getfield 15, 3) := yd_op_180 (i := 37) (a := 0) (b := 15) yd_by_cX1_part_1 rfl rfl
theorem dX1_part_78 : decode cX1_part 78 = .ok (.bipush 41, 2) := yd_op_16 (i := 40) (a := 41) yd_by_cX1_part_1 rfl rfl
set_option maxRecDepth 100000 in
theorem yd_by_cX1_part_2 : ydk cX1_part 80 [182, 0, 82, 167, 0, 120, 28, 16, 25, 159, 0, 9, 28, 16, 26, 160, 0, 26, 42, 180, 0, 15, 182, 0, 45, 42, 27, 182, 0, 104, 42, 180, 0, 19, 28, 182, 0, 69, 167, 0, 85, 28] = true := by decide +kernel
theorem dX1_part_80 : decode cX1_part 80 = .ok (.invokevirtual 82, 3) := yd_op_182 (i := 0) (a := 0) (b := 82) yd_by_cX1_part_2 rfl rfl
theorem dX1_part_83 : decode cX1_part 83 = .ok (.goto 120, 3) := yd_op_167 (i := 3) (a := 0) (b := 120) yd_by_cX1_part_2 rfl rfl
theorem dX1_part_86 : decode cX1_part 86 = .ok (.iload_n 2, 1) := yd_op_28 (i := 6) yd_by_cX1_part_2 rfl rfl
theorem dX1_part_87 : decode cX1_part 87 = .ok (.bipush 25, 2) := yd_op_16 (i := 7) (a := 25) yd_by_cX1_part_2 rfl rfl
theorem dX1_part_89 : decode cX1_part 89 = .ok (.if_icmp .eq 9, 3) := yd_op_159 (i := 9) (a := 0) (b := 9) yd_by_cX1_part_2 rfl rfl
theorem dX1_part_92 : decode cX1_part 92 = .ok (.iload_n 2, 1) := yd_op_28 (i := 12) yd_by_cX1_part_2 rfl rfl
theorem dX1_part_93 : decode cX1_part 93 = .ok (.bipush 26, 2) := yd_op_16 (i := 13) (a := 26) yd_by_cX1_part_2 rfl rfl
theorem dX1_part_95 : decode cX1_part 95 = .ok (.if_icmp .ne 26, 3) := yd_op_160 (i := 15) (a := 0) (b := 26) yd_by_cX1_part_2 rfl rfl
theorem dX1_part_98 : decode cX1_part 98 = .ok (.aload_n 0, 1) := yd_op_42 (i := 18) yd_by_cX1_part_2 rfl rfl
theorem dX1_part_99 : decode cX1_part 99 = .ok (.getfield 15, 3) := yd_op_180 (i := 19) (a := 0) (b := 15) yd_by_cX1_part_2 rfl rfl
theorem dX1_part_102 : decode cX1_part 102 = .ok (.invokevirtual 45, 3) := yd_op_182 (i := 22) (a := 0) (b := 45) yd_by_cX1_part_2 rfl rfl
theorem dX1_part_105 : decode cX1_part 105 = .ok (.aload_n 0, 1) := yd_op_42 (i := 25) yd_by_cX1_part_2 rfl rfl
theorem dX1_part_106 : decode cX1_part 106 = .ok (.iload_n 1, 1) := yd_op_27 (i := 26) yd_by_cX1_part_2 rfl rfl
theorem dX1_part_107 : decode cX1_part 107 = .ok (.invokevirtual 104, 3) := yd_op_182 (i := 27) (a := 0) (b := 104) yd_by_cX1_part_2 rfl rfl
theorem dX1_part_110 : decode cX1_part 110 = .ok (.aload_n 0, 1) := yd_op_42 (i := 30) yd_by_cX1_part_2 rfl rfl
theorem dX1_part_111 : decode cX1_part 111 = .ok (.getfield 19, 3) := yd_op_180 (i := 31) (a := 0) (b := 19) yd_by_cX1_part_2 rfl rfl
theorem dX1_part_114 : decode cX1_part 114 = .ok (.iload_n 2, 1) := yd_op_28 (i := 34) yd_by_cX1_part_2 rfl rfl
theorem dX1_part_115 : decode cX1_part 115 = .ok (.invokevirtual 69, 3) := yd_op_182 (i := 35) (a := 0) (b := 69) yd_by_cX1_part_2 rfl rfl
theorem dX1_part_118 : decode cX1_part 118 = .ok (.goto 85, 3) := yd_op_167 (i := 38) (a := 0) (b := 85) yd_by_cX1_part_2 rfl rfl
theorem dX1_part_121 : decode cX1_part 121 = .ok (.iload_n 2, 1) := yd_op_28 (i := 41) yd_by_cX1_part_2 rfl rfl
set_option maxRecDepth 100000 in
theorem yd_by_cX1_part_3 : ydk cX1_part 122 [16, 20, 160, 0, 38, 42, 180, 0, 9, 5, 160, 0, 30, 42, 27, 182, 0, 75, 153, 0, 63, 42, 27, 4, 96, 182, 0, 91, 42, 180, 0, 19, 16, 20, 182, 0, 69, 167, 0, 44] = true := by decide +kernel
theorem dX1_part_122 : decode cX1_part 122 = .ok (.bipush 20, 2) := yd_op_16 (i := 0) (a := 20) yd_by_cX1_part_3 rfl rfl
theorem dX1_part_124 : decode cX1_part 124 = .ok (.if_icmp .ne 38, 3) := yd_op_160 (i := 2) (a := 0) (b := 38) yd_by_cX1_part_3 rfl rfl
theorem dX1_part_127 : decode cX1_part 127 = .ok (.aload_n 0, 1) := yd_op_42 (i := 5) yd_by_cX1_part_3 rfl rfl
theorem dX1_part_128 : decode cX1_part 128 = .ok (.getfield 9, 3) := yd_op_180 (i := 6) (a := 0) (b := 9) yd_by_cX1_part_3 rfl rfl
theorem dX1_part_131 : decode cX1_part 131 = .ok (.iconst 2, 1) := yd_op_5 (i := 9) yd_by_cX1_part_3 rfl rfl
theorem dX1_part_132 : decode cX1_part 132 = .ok (.if_icmp .ne 30, 3) := yd_op_160 (i := 10) (a := 0) (b := 30) yd_by_cX1_part_3 rfl rfl
theorem dX1_part_135 : decode cX1_part 135 = .ok (.aload_n 0, 1) := yd_op_42 (i := 13) yd_by_cX1_part_3 rfl rfl
theorem dX1_part_136 : decode cX1_part 136 = .ok (.iload_n 1, 1) := yd_op_27 (i := 14) yd_by_cX1_part_3 rfl rfl
theorem dX1_part_137 : decode cX1_part 137 = .ok (.invokevirtual 75, 3) := yd_op_182 (i := 15) (a := 0) (b := 75) yd_by_cX1_part_3 rfl rfl
theorem dX1_part_140 : decode cX1_part 140 = .ok (.ifCond .eq 63, 3) := yd_op_153 (i := 18) (a := 0) (b := 63) yd_by_cX1_part_3 rfl rfl
theorem dX1_part_143 : decode cX1_part 143 = .ok (.aload_n 0, 1) := yd_op_42 (i := 21) yd_by_cX1_part_3 rfl rfl
theorem dX1_part_144 : decode cX1_part 144 = .ok (.iload_n 1, 1) := yd_op_27 (i := 22) yd_by_cX1_part_3 rfl rfl
theorem dX1_part_145 : decode cX1_part 145 = .ok (.iconst 1, 1) := yd_op_4 (i := 23) yd_by_cX1_part_3 rfl rfl
theorem dX1_part_146 : decode cX1_part 146 = .ok (.iadd, 1) := yd_op_96 (i := 24) yd_by_cX1_part_3 rfl rfl
theorem dX1_part_147 : decode cX1_part 147 = .ok (.invokevirtual 91, 3) := yd_op_182 (i := 25) (a := 0) (b := 91) yd_by_cX1_part_3 rfl rfl
theorem dX1_part_150 : decode cX1_part 150 = .ok (.aload_n 0, 1) := yd_op_42 (i := 28) yd_by_cX1_part_3 rfl rfl
theorem dX1_part_151 : decode cX1_part 151 = .ok (.getfield 19, 3) := yd_op_180 (i := 29) (a := 0) (b := 19) yd_by_cX1_part_3 rfl rfl
theorem dX1_part_154 : decode cX1_part 154 = .ok (.bipush 20, 2) := yd_op_16 (i := 32) (a := 20) yd_by_cX1_part_3 rfl rfl
theorem dX1_part_156 : decode cX1_part 156 = .ok (.invokevirtual 69, 3) := yd_op_182 (i := 34) (a := 0) (b := 69) yd_by_cX1_part_3 rfl rfl
theorem dX1_part_159 : decode cX1_part 159 = .ok (.goto 44, 3) := yd_op_167 (i := 37) (a := 0) (b := 44) yd_by_cX1_part_3 rfl rfl
set_option maxRecDepth 100000 in
theorem yd_by_cX1_part_4 : ydk cX1_part 162 [42, 28, 182, 0, 107, 153, 0, 21, 42, 180, 0, 15, 182, 0, 45, 42, 180, 0, 19, 28, 182, 0, 69, 167, 0, 18, 42, 180, 0, 15, 4, 42, 180, 0, 15, 182, 0, 55, 182, 0, 58, 177] = true := by decide +kernel
theorem dX1_part_162 : decode cX1_part 162 = .ok (.aload_n 0, 1) := yd_op_42 (i := 0) yd_by_cX1_part_4 rfl rfl
theorem dX1_part_163 : decode cX1_part 163 = .ok (.iload_n 2, 1) := yd_op_28 (i := 1) yd_by_cX1_part_4 rfl rfl
theorem dX1_part_164 : decode cX1_part 164 = .ok (.invokevirtual 107, 3) := yd_op_182 (i := 2) (a := 0) (b := 107) yd_by_cX1_part_4 rfl rfl
theorem dX1_part_167 : decode cX1_part 167 = .ok (.ifCond .eq 21, 3) := yd_op_153 (i := 5) (a := 0) (b := 21) yd_by_cX1_part_4 rfl rfl
theorem dX1_part_170 : decode cX1_part 170 = .ok (.aload_n 0, 1) := yd_op_42 (i := 8) yd_by_cX1_part_4 rfl rfl
theorem dX1_part_171 : decode cX1_part 171 = .ok (.getfield 15, 3) := yd_op_180 (i := 9) (a := 0) (b := 15) yd_by_cX1_part_4 rfl rfl
theorem dX1_part_174 : decode cX1_part 174 = .ok (.invokevirtual 45, 3) := yd_op_182 (i := 12) (a := 0) (b := 45) yd_by_cX1_part_4 rfl rfl
theorem dX1_part_177 : decode cX1_part 177 = .ok (.aload_n 0, 1) := yd_op_42 (i := 15) yd_by_cX1_part_4 rfl rfl
theorem dX1_part_178 : decode cX1_part 178 = .ok (.getfield 19, 3) := yd_op_180 (i := 16) (a := 0) (b := 19) yd_by_cX1_part_4 rfl rfl
theorem dX1_part_181 : decode cX1_part 181 = .ok (.iload_n 2, 1) := yd_op_28 (i := 19) yd_by_cX1_part_4 rfl rfl
theorem dX1_part_182 : decode cX1_part 182 = .ok (.invokevirtual 69, 3) := yd_op_182 (i := 20) (a := 0) (b := 69) yd_by_cX1_part_4 rfl rfl
theorem dX1_part_185 : decode cX1_part 185 = .ok (.goto 18, 3) := yd_op_167 (i := 23) (a := 0) (b := 18) yd_by_cX1_part_4 rfl rfl
theorem dX1_part_188 : decode cX1_part 188 = .ok (.aload_n 0, 1) := yd_op_42 (i := 26) yd_by_cX1_part_4 rfl rfl
theorem dX1_part_189 : decode cX1_part 189 = .ok (.getfield 15, 3) := yd_op_180 (i := 27) (a := 0) (b := 15) yd_by_cX1_part_4 rfl rfl
theorem dX1_part_192 : decode cX1_part 192 = .ok (.iconst 1, 1) := yd_op_4 (i := 30) yd_by_cX1_part_4 rfl rfl
theorem dX1_part_193 : decode cX1_part 193 = .ok (.aload_n 0, 1) := yd_op_42 (i := 31) yd_by_cX1_part_4 rfl rfl
theorem dX1_part_194 : decode cX1_part 194 = .ok (.getfield 15, 3) := yd_op_180 (i := 32) (a := 0) (b := 15) yd_by_cX1_part_4 rfl rfl
theorem dX1_part_197 : decode cX1_part 197 = .ok (.invokevirtual 55, 3) := yd_op_182 (i := 35) (a := 0) (b := 55) yd_by_cX1_part_4 rfl rfl
theorem dX1_part_200 : decode cX1_part 200 = .ok (.invokevirtual 58, 3) := yd_op_182 (i := 38) (a := 0) (b := 58) yd_by_cX1_part_4 rfl rfl
theorem dX1_part_203 : decode cX1_part 203 = .ok (.return_, 1) := yd_op_177 (i := 41) yd_by_cX1_part_4 rfl rfl
set_option maxRecDepth 100000 in
theorem yd_by_cX1_pair_0 : ydk cX1_pair 0 [42, 180, 0, 15, 182, 0, 79, 16, 40, 159, 0, 21, 42, 180, 0, 15, 4, 42, 180, 0, 15, 182, 0, 55, 182, 0, 58, 167, 0, 43, 42, 27, 182, 0, 75, 153, 0, 35, 42, 27, 4] = true := by decide +kernel
theorem dX1_pair_0 : decode cX1_pair 0 = .ok (.aload_n 0, 1) := yd_op_42 (i := 0) yd_by_cX1_pair_0 rfl rfl
theorem dX1_pair_1 : decode cX1_pair 1 = .ok (.getfield 15, 3) := yd_op_180 (i := 1) (a := 0) (b := 15) yd_by_cX1_pair_0 rfl rfl
theorem dX1_pair_4 : decode cX1_pair 4 = .ok (.invokevirtual 79, 3) := yd_op_182 (i := 4) (a := 0) (b := 79) yd_by_cX1_pair_0 rfl rfl
theorem dX1_pair_7 : decode cX1_pair 7 = .ok (.bipush 40, 2) := yd_op_16 (i := 7) (a := 40) yd_by_cX1_pair_0 rfl rfl
theorem dX1_pair_9 : decode cX1_pair 9 = .ok (.if_icmp .eq 21, 3) := yd_op_159 (i := 9) (a := 0) (b := 21) yd_by_cX1_pair_0 rfl rfl
theorem dX1_pair_12 : decode cX1_pair 12 = .ok (.aload_n 0, 1) := yd_op_42 (i := 12) yd_by_cX1_pair_0 rfl rfl
theorem dX1_pair_13 : decode cX1_pair 13 = .ok (.getfield 15, 3) := yd_op_180 (i := 13) (a := 0) (b := 15) yd_by_cX1_pair_0 rfl rfl
theorem dX1_pair_16 : decode cX1_pair 16 = .ok (.iconst 1, 1) := yd_op_4 (i := 16) yd_by_cX1_pair_0 rfl rfl
theorem dX1_pair_17 : decode cX1_pair 17 = .ok (.aload_n 0, 1) := yd_op_42 (i := 17) yd_by_cX1_pair_0 rfl rfl
theorem dX1_pair_18 : decode cX1_pair 18 = .ok (.getfield 15, 3) := yd_op_180 (i := 18) (a := 0) (b := 15) yd_by_cX1_pair_0 rfl rfl
theorem dX1_pair_21 : decode cX1_pair 21 = .ok (.invokevirtual 55, 3) := yd_op_182 (i := 21) (a := 0) (b := 55) yd_by_cX1_pair_0 rfl rfl
theorem dX1_pair_24 : decode cX1_pair 24 = .ok (.invokevirtual 58, 3) := yd_op_182 (i := 24) (a := 0) (b := 58) yd_by_cX1_pair_0 rfl rfl
theorem dX1_pair_27 : decode cX1_pair 27 = .ok (.goto 43, 3) := yd_op_167 (i := 27) (a := 0) (b := 43) yd_by_cX1_pair_0 rfl rfl
theorem dX1_pair_30 : decode cX1_pair 30 = .ok (.aload_n 0, 1) := yd_op_42 (i := 30) yd_by_cX1_pair_0 rfl rfl
theorem dX1_pair_31 : decode cX1_pair 31 = .ok (.iload_n 1, 1) := yd_op_27 (i := 31) yd_by_cX1_pair_0 rfl rfl
theorem dX1_pair_32 : decode cX1_pair 32 = .ok (.invokevirtual 75, 3) := yd_op_182 (i := 32) (a := 0) (b := 75) yd_by_cX1_pair_0 rfl rfl
theorem dX1_pair_35 : decode cX1_pair 35 = .ok (.ifCond .eq 35, 3) := yd_op_153 (i := 35) (a := 0) (b := 35) yd_by_cX1_pair_0 rfl rfl
theorem dX1_pair_38 : decode cX1_pair 38 = .ok (.aload_n 0, 1) := yd_op_42 (i := 38) yd_by_cX1_pair_0 rfl rfl
theorem dX1_pair_39 : decode cX1_pair 39 = .ok (.iload_n 1, 1) := yd_op_27 (i := 39) yd_by_cX1_pair_0 rfl rfl
theorem dX1_pair_40 : decode cX1_pair 40 = .ok (.iconst 1, 1) := yd_op_4 (i := 40) yd_by_cX1_pair_0 rfl rfl
set_option maxRecDepth 100000 in
theorem yd_by_cX1_pair_1 : ydk cX1_pair 41 [96, 182, 0, 28, 42, 180, 0, 15, 16, 44, 182, 0, 82, 42, 27, 4, 96, 182, 0, 28, 42, 180, 0, 15, 16, 41, 182, 0, 82, 177] = true := by decide +kernel
theorem dX1_pair_41 : decode cX1_pair 41 = .ok (.iadd, 1) := yd_op_96 (i := 0) yd_by_cX1_pair_1 rfl rfl
theorem dX1_pair_42 : decode cX1_pair 42 = .ok (.invokevirtual 28, 3) := yd_op_182 (i := 1) (a := 0) (b := 28) yd_by_cX1_pair_1 rfl rfl
theorem dX1_pair_45 : decode cX1_pair 45 = .ok (.aload_n 0, 1) := yd_op_42 (i := 4) yd_by_cX1_pair_1 rfl rfl
theorem dX1_pair_46 : decode cX1_pair 46 = .ok (.getfield 15, 3) := yd_op_180 (i := 5) (a := 0) (b := 15) yd_by_cX1_pair_1 rfl rfl
theorem dX1_pair_49 : decode cX1_pair 49 = .ok (.bipush 44, 2) := yd_op_16 (i := 8) (a := 44) yd_by_cX1_pair_1 rfl rfl
theorem dX1_pair_51 : decode cX1_pair 51 = .ok (.invokevirtual 82, 3) := yd_op_182 (i := 10) (a := 0) (b := 82) yd_by_cX1_pair_1 rfl rfl
theorem dX1_pair_54 : decode cX1_pair 54 = .ok (.aload_n 0, 1) := yd_op_42 (i := 13) yd_by_cX1_pair_1 rfl rfl
theorem dX1_pair_55 : decode cX1_pair 55 = .ok (.iload_n 1, 1) := yd_op_27 (i := 14) yd_by_cX1_pair_1 rfl rfl
theorem dX1_pair_56 : decode cX1_pair 56 = .ok (.iconst 1, 1) := yd_op_4 (i := 15) yd_by_cX1_pair_1 rfl rfl
theorem dX1_pair_57 : decode cX1_pair 57 = .ok (.iadd, 1) := yd_op_96 (i := 16) yd_by_cX1_pair_1 rfl rfl
theorem dX1_pair_58 : decode cX1_pair 58 = .ok (.invokevirtual 28, 3) := yd_op_182 (i := 17) (a := 0) (b := 28) yd_by_cX1_pair_1 rfl rfl
theorem dX1_pair_61 : decode cX1_pair 61 = .ok (.aload_n 0, 1) := yd_op_42 (i := 20) yd_by_cX1_pair_1 rfl rfl
theorem dX1_pair_62 : decode cX1_pair 62 = .ok (.getfield 15, 3) := yd_op_180 (i := 21) (a := 0) (b := 15) yd_by_cX1_pair_1 rfl rfl
theorem dX1_pair_65 : decode cX1_pair 65 = .ok (.bipush 41, 2) := yd_op_16 (i := 24) (a := 41) yd_by_cX1_pair_1 rfl rfl
theorem dX1_pair_67 : decode cX1_pair 67 = .ok (.invokevirtual 82, 3) := yd_op_182 (i := 26) (a := 0) (b := 82) yd_by_cX1_pair_1 rfl rfl
theorem dX1_pair_70 : decode cX1_pair 70 = .ok (.return_, 1) := yd_op_177 (i := 29) yd_by_cX1_pair_1 rfl rfl
set_option maxRecDepth 100000 in
theorem yd_by_cX1_opens_0 : ydk cX1_opens 0 [27, 16, 6, 161, 0, 20, 42, 180, 0, 15, 7, 42, 180, 0, 15, 182, 0, 55, 182, 0, 58, 3, 172, 42, 180, 0, 15, 182, 0, 45, 4, 172] = true := by decide +kernel
theorem dX1_opens_0 : decode cX1_opens 0 = .ok (.iload_n 1, 1) := yd_op_27 (i := 0) yd_by_cX1_opens_0 rfl rfl
theorem dX1_opens_1 : decode cX1_opens 1 = .ok (.bipush 6, 2) := yd_op_16 (i := 1) (a := 6) yd_by_cX1_opens_0 rfl rfl
theorem dX1_opens_3 : decode cX1_opens 3 = .ok (.if_icmp .lt 20, 3) := yd_op_161 (i := 3) (a := 0) (b := 20) yd_by_cX1_opens_0 rfl rfl
theorem dX1_opens_6 : decode cX1_opens 6 = .ok (.aload_n 0, 1) := yd_op_42 (i := 6) yd_by_cX1_opens_0 rfl rfl
theorem dX1_opens_7 : decode cX1_opens 7 = .ok (.getfield 15, 3) := yd_op_180 (i := 7) (a := 0) (b := 15) yd_by_cX1_opens_0 rfl rfl
theorem dX1_opens_10 : decode cX1_opens 10 = .ok (.iconst 4, 1) := yd_op_7 (i := 10) yd_by_cX1_opens_0 rfl rfl
theorem dX1_opens_11 : decode cX1_opens 11 = .ok (.aload_n 0, 1) := yd_op_42 (i := 11) yd_by_cX1_opens_0 rfl rfl
theorem dX1_opens_12 : decode cX1_opens 12 = .ok (.getfield 15, 3) := yd_op_180 (i := 12) (a := 0) (b := 15) yd_by_cX1_opens_0 rfl rfl
theorem dX1_opens_15 : decode cX1_opens 15 = .ok (.invokevirtual 55, 3) := yd_op_182 (i := 15) (a := 0) (b := 55) yd_by_cX1_opens_0 rfl rfl
theorem dX1_opens_18 : decode cX1_opens 18 = .ok (.invokevirtual 58, 3) := yd_op_182 (i := 18) (a := 0) (b := 58) yd_by_cX1_opens_0 rfl rfl
theorem dX1_opens_21 : decode cX1_opens 21 = .ok (.iconst 0, 1) := yd_op_3 (i := 21) yd_by_cX1_opens_0 rfl rfl
theorem dX1_opens_22 : decode cX1_opens 22 = .ok (.ireturn, 1) := yd_op_172 (i := 22) yd_by_cX1_opens_0 rfl rfl
theorem dX1_opens_23 : decode cX1_opens 23 = .ok (.aload_n 0, 1) := yd_op_42 (i := 23) yd_by_cX1_opens_0 rfl rfl
theorem dX1_opens_24 : decode cX1_opens 24 = .ok (.getfield 15, 3) := yd_op_180 (i := 24) (a := 0) (b := 15) yd_by_cX1_opens_0 rfl rfl
theorem dX1_opens_27 : decode cX1_opens 27 = .ok (.invokevirtual 45, 3) := yd_op_182 (i := 27) (a := 0) (b := 45) yd_by_cX1_opens_0 rfl rfl
theorem dX1_opens_30 : decode cX1_opens 30 = .ok (.iconst 1, 1) := yd_op_4 (i := 30) yd_by_cX1_opens_0 rfl rfl
theorem dX1_opens_31 : decode cX1_opens 31 = .ok (.ireturn, 1) := yd_op_172 (i := 31) yd_by_cX1_opens_0 rfl rfl
theorem dX1_isValue_1 : decode cX1_isValue 1 = .ok (.tableswitch 113 6 19 #[86, 113, 99, 113, 113, 113, 71, 71, 73, 86, 86, 99, 99, 99], 71) := by decide +kernel
set_option maxRecDepth 100000 in
theorem yd_by_cX1_isValue_0 : ydk cX1_isValue 0 [27, 170, 0, 0, 0, 0, 0, 113, 0, 0, 0, 6, 0, 0, 0, 19, 0, 0, 0, 86, 0, 0, 0, 113, 0, 0, 0, 99, 0, 0, 0, 113, 0, 0, 0, 113, 0, 0, 0, 113, 0, 0, 0, 71, 0, 0, 0, 71, 0, 0, 0, 73, 0, 0, 0, 86, 0, 0, 0, 86, 0, 0, 0, 99, 0, 0, 0, 99, 0, 0, 0, 99, 4, 172, 42, 180, 0, 9, 154, 0, 7, 4, 167, 0, 4, 3, 172, 42, 180, 0, 9, 153, 0, 7, 4, 167, 0, 4, 3, 172, 42, 180, 0, 9, 5] = true := by decide +kernel
theorem dX1_isValue_0 : decode cX1_isValue 0 = .ok (.iload_n 1, 1) := yd_op_27 (i := 0) yd_by_cX1_isValue_0 rfl rfl
theorem dX1_isValue_72 : decode cX1_isValue 72 = .ok (.iconst 1, 1) := yd_op_4 (i := 72) yd_by_cX1_isValue_0 rfl rfl
theorem dX1_isValue_73 : decode cX1_isValue 73 = .ok (.ireturn, 1) := yd_op_172 (i := 73) yd_by_cX1_isValue_0 rfl rfl
theorem dX1_isValue_74 : decode cX1_isValue 74 = .ok (.aload_n 0, 1) := yd_op_42 (i := 74) yd_by_cX1_isValue_0 rfl rfl
theorem dX1_isValue_75 : decode cX1_isValue 75 = .ok (.getfield 9, 3) := yd_op_180 (i := 75) (a := 0) (b := 9) yd_by_cX1_isValue_0 rfl rfl
theorem dX1_isValue_78 : decode cX1_isValue 78 = .ok (.ifCond .ne 7, 3) := yd_op_154 (i := 78) (a := 0) (b := 7) yd_by_cX1_isValue_0 rfl rfl
theorem dX1_isValue_81 : decode cX1_isValue 81 = .ok (.iconst 1, 1) := yd_op_4 (i := 81) yd_by_cX1_isValue_0 rfl rfl
theorem dX1_isValue_82 : decode cX1_isValue 82 = .ok (.goto 4, 3) := yd_op_167 (i := 82) (a := 0) (b := 4) yd_by_cX1_isValue_0 rfl rfl
theorem dX1_isValue_85 : decode cX1_isValue 85 = .ok (.iconst 0, 1) := yd_op_3 (i := 85) yd_by_cX1_isValue_0 rfl rfl
theorem dX1_isValue_86 : decode cX1_isValue 86 = .ok (.ireturn, 1) := yd_op_172 (i := 86) yd_by_cX1_isValue_0 rfl rfl
theorem dX1_isValue_87 : decode cX1_isValue 87 = .ok (.aload_n 0, 1) := yd_op_42 (i := 87) yd_by_cX1_isValue_0 rfl rfl
theorem dX1_isValue_88 : decode cX1_isValue 88 = .ok (.getfield 9, 3) := yd_op_180 (i := 88) (a := 0) (b := 9) yd_by_cX1_isValue_0 rfl rfl
theorem dX1_isValue_91 : decode cX1_isValue 91 = .ok (.ifCond .eq 7, 3) := yd_op_153 (i := 91) (a := 0) (b := 7) yd_by_cX1_isValue_0 rfl rfl
theorem dX1_isValue_94 : decode cX1_isValue 94 = .ok (.iconst 1, 1) := yd_op_4 (i := 94) yd_by_cX1_isValue_0 rfl rfl
theorem dX1_isValue_95 : decode cX1_isValue 95 = .ok (.goto 4, 3) := yd_op_167 (i := 95) (a := 0) (b := 4) yd_by_cX1_isValue_0 rfl rfl
theorem dX1_isValue_98 : decode cX1_isValue 98 = .ok (.iconst 0, 1) := yd_op_3 (i := 98) yd_by_cX1_isValue_0 rfl rfl
theorem dX1_isValue_99 : decode cX1_isValue 99 = .ok (.ireturn, 1) := yd_op_172 (i := 99) yd_by_cX1_isValue_0 rfl rfl
theorem dX1_isValue_100 : decode cX1_isValue 100 = .ok (.aload_n 0, 1) := yd_op_42 (i := 100) yd_by_cX1_isValue_0 rfl rfl
theorem dX1_isValue_101 : decode cX1_isValue 101 = .ok (.getfield 9, 3) := yd_op_180 (i := 101) (a := 0) (b := 9) yd_by_cX1_isValue_0 rfl rfl
theorem dX1_isValue_104 : decode cX1_isValue 104 = .ok (.iconst 2, 1) := yd_op_5 (i := 104) yd_by_cX1_isValue_0 rfl rfl
set_option maxRecDepth 100000 in
theorem yd_by_cX1_isValue_1 : ydk cX1_isValue 105 [160, 0, 7, 4, 167, 0, 4, 3, 172, 3, 172] = true := by decide +kernel
theorem dX1_isValue_105 : decode cX1_isValue 105 = .ok (.if_icmp .ne 7, 3) := yd_op_160 (i := 0) (a := 0) (b := 7) yd_by_cX1_isValue_1 rfl rfl
theorem dX1_isValue_108 : decode cX1_isValue 108 = .ok (.iconst 1, 1) := yd_op_4 (i := 3) yd_by_cX1_isValue_1 rfl rfl
theorem dX1_isValue_109 : decode cX1_isValue 109 = .ok (.goto 4, 3) := yd_op_167 (i := 4) (a := 0) (b := 4) yd_by_cX1_isValue_1 rfl rfl
theorem dX1_isValue_112 : decode cX1_isValue 112 = .ok (.iconst 0, 1) := yd_op_3 (i := 7) yd_by_cX1_isValue_1 rfl rfl
theorem dX1_isValue_113 : decode cX1_isValue 113 = .ok (.ireturn, 1) := yd_op_172 (i := 8) yd_by_cX1_isValue_1 rfl rfl
theorem dX1_isValue_114 : decode cX1_isValue 114 = .ok (.iconst 0, 1) := yd_op_3 (i := 9) yd_by_cX1_isValue_1 rfl rfl
theorem dX1_isValue_115 : decode cX1_isValue 115 = .ok (.ireturn, 1) := yd_op_172 (i := 10) yd_by_cX1_isValue_1 rfl rfl
set_option maxRecDepth 100000 in
theorem yd_by_cX10_init_0 : ydk cX10_init 0 [42, 183, 0, 3, 42, 16, 10, 188, 10, 181, 0, 9, 42, 16, 10, 188, 10, 181, 0, 15, 42, 16, 10, 188, 10, 181, 0, 18, 42, 16, 40, 188, 10, 181, 0, 21, 42, 3] = true := by decide +kernel
theorem dX10_init_0 : decode cX10_init 0 = .ok (.aload_n 0, 1) := yd_op_42 (i := 0) yd_by_cX10_init_0 rfl rfl
theorem dX10_init_1 : decode cX10_init 1 = .ok (.invokespecial 3, 3) := yd_op_183 (i := 1) (a := 0) (b := 3) yd_by_cX10_init_0 rfl rfl
theorem dX10_init_4 : decode cX10_init 4 = .ok (.aload_n 0, 1) := yd_op_42 (i := 4) yd_by_cX10_init_0 rfl rfl
theorem dX10_init_5 : decode cX10_init 5 = .ok (.bipush 10, 2) := yd_op_16 (i := 5) (a := 10) yd_by_cX10_init_0 rfl rfl
theorem dX10_init_7 : decode cX10_init 7 = .ok (.newarray .int, 2) := yd_op_188_10 (i := 7) yd_by_cX10_init_0 rfl rfl
theorem dX10_init_9 : decode cX10_init 9 = .ok (.putfield 9, 3) := yd_op_181 (i := 9) (a := 0) (b := 9) yd_by_cX10_init_0 rfl rfl
theorem dX10_init_12 : decode cX10_init 12 = .ok (.aload_n 0, 1) := yd_op_42 (i := 12) yd_by_cX10_init_0 rfl rfl
theorem dX10_init_13 : decode cX10_init 13 = .ok (.bipush 10, 2) := yd_op_16 (i := 13) (a := 10) yd_by_cX10_init_0 rfl rfl
theorem dX10_init_15 : decode cX10_init 15 = .ok (.newarray .int, 2) := yd_op_188_10 (i := 15) yd_by_cX10_init_0 rfl rfl
theorem dX10_init_17 : decode cX10_init 17 = .ok (.putfield 15, 3) := yd_op_181 (i := 17) (a := 0) (b := 15) yd_by_cX10_init_0 rfl rfl
theorem dX10_init_20 : decode cX10_init 20 = .ok (.aload_n 0, 1) := yd_op_42 (i := 20) yd_by_cX10_init_0 rfl rfl
theorem dX10_init_21 : decode cX10_init 21 = .ok (.bipush 10, 2) := yd_op_16 (i := 21) (a := 10) yd_by_cX10_init_0 rfl rfl
theorem dX10_init_23 : decode cX10_init 23 = .ok (.newarray .int, 2) := yd_op_188_10 (i := 23) yd_by_cX10_init_0 rfl rfl
theorem dX10_init_25 : decode cX10_init 25 = .ok (.putfield 18, 3) := yd_op_181 (i := 25) (a := 0) (b := 18) yd_by_cX10_init_0 rfl rfl
theorem dX10_init_28 : decode cX10_init 28 = .ok (.aload_n 0, 1) := yd_op_42 (i := 28) yd_by_cX10_init_0 rfl rfl
theorem dX10_init_29 : decode cX10_init 29 = .ok (.bipush 40, 2) := yd_op_16 (i := 29) (a := 40) yd_by_cX10_init_0 rfl rfl
theorem dX10_init_31 : decode cX10_init 31 = .ok (.newarray .int, 2) := yd_op_188_10 (i := 31) yd_by_cX10_init_0 rfl rfl
theorem dX10_init_33 : decode cX10_init 33 = .ok (.putfield 21, 3) := yd_op_181 (i := 33) (a := 0) (b := 21) yd_by_cX10_init_0 rfl rfl
theorem dX10_init_36 : decode cX10_init 36 = .ok (.aload_n 0, 1) := yd_op_42 (i := 36) yd_by_cX10_init_0 rfl rfl
theorem dX10_init_37 : decode cX10_init 37 = .ok (.iconst 0, 1) := yd_op_3 (i := 37) yd_by_cX10_init_0 rfl rfl
set_option maxRecDepth 100000 in
theorem yd_by_cX10_init_1 : ydk cX10_init 38 [181, 0, 24, 42, 3, 181, 0, 28, 42, 9, 181, 0, 31, 42, 3, 181, 0, 35, 177] = true := by decide +kernel
theorem dX10_init_38 : decode cX10_init 38 = .ok (.putfield 24, 3) := yd_op_181 (i := 0) (a := 0) (b := 24) yd_by_cX10_init_1 rfl rfl
theorem dX10_init_41 : decode cX10_init 41 = .ok (.aload_n 0, 1) := yd_op_42 (i := 3) yd_by_cX10_init_1 rfl rfl
theorem dX10_init_42 : decode cX10_init 42 = .ok (.iconst 0, 1) := yd_op_3 (i := 4) yd_by_cX10_init_1 rfl rfl
theorem dX10_init_43 : decode cX10_init 43 = .ok (.putfield 28, 3) := yd_op_181 (i := 5) (a := 0) (b := 28) yd_by_cX10_init_1 rfl rfl
theorem dX10_init_46 : decode cX10_init 46 = .ok (.aload_n 0, 1) := yd_op_42 (i := 8) yd_by_cX10_init_1 rfl rfl
theorem dX10_init_47 : decode cX10_init 47 = .ok (.lconst 0, 1) := yd_op_9 (i := 9) yd_by_cX10_init_1 rfl rfl
theorem dX10_init_48 : decode cX10_init 48 = .ok (.putfield 31, 3) := yd_op_181 (i := 10) (a := 0) (b := 31) yd_by_cX10_init_1 rfl rfl
theorem dX10_init_51 : decode cX10_init 51 = .ok (.aload_n 0, 1) := yd_op_42 (i := 13) yd_by_cX10_init_1 rfl rfl
theorem dX10_init_52 : decode cX10_init 52 = .ok (.iconst 0, 1) := yd_op_3 (i := 14) yd_by_cX10_init_1 rfl rfl
theorem dX10_init_53 : decode cX10_init 53 = .ok (.putfield 35, 3) := yd_op_181 (i := 15) (a := 0) (b := 35) yd_by_cX10_init_1 rfl rfl
theorem dX10_init_56 : decode cX10_init 56 = .ok (.return_, 1) := yd_op_177 (i := 18) yd_by_cX10_init_1 rfl rfl
set_option maxRecDepth 100000 in
theorem yd_by_cX10_begin_0 : ydk cX10_begin 0 [42, 3, 181, 0, 28, 42, 9, 181, 0, 31, 42, 3, 181, 0, 35, 42, 3, 181, 0, 24, 3, 61, 28, 43, 180, 0, 38, 162, 0, 40, 42, 180, 0, 9] = true := by decide +kernel
theorem dX10_begin_0 : decode cX10_begin 0 = .ok (.aload_n 0, 1) := yd_op_42 (i := 0) yd_by_cX10_begin_0 rfl rfl
theorem dX10_begin_1 : decode cX10_begin 1 = .ok (.iconst 0, 1) := yd_op_3 (i := 1) yd_by_cX10_begin_0 rfl rfl
theorem dX10_begin_2 : decode cX10_begin 2 = .ok (.putfield 28, 3) := yd_op_181 (i := 2) (a := 0) (b := 28) yd_by_cX10_begin_0 rfl rfl
theorem dX10_begin_5 : decode cX10_begin 5 = .ok (.aload_n 0, 1) := yd_op_42 (i := 5) yd_by_cX10_begin_0 rfl rfl
theorem dX10_begin_6 : decode cX10_begin 6 = .ok (.lconst 0, 1) := yd_op_9 (i := 6) yd_by_cX10_begin_0 rfl rfl
theorem dX10_begin_7 : decode cX10_begin 7 = .ok (.putfield 31, 3) := yd_op_181 (i := 7) (a := 0) (b := 31) yd_by_cX10_begin_0 rfl rfl
theorem dX10_begin_10 : decode cX10_begin 10 = .ok (.aload_n 0, 1) := yd_op_42 (i := 10) yd_by_cX10_begin_0 rfl rfl
theorem dX10_begin_11 : decode cX10_begin 11 = .ok (.iconst 0, 1) := yd_op_3 (i := 11) yd_by_cX10_begin_0 rfl rfl
theorem dX10_begin_12 : decode cX10_begin 12 = .ok (.putfield 35, 3) := yd_op_181 (i := 12) (a := 0) (b := 35) yd_by_cX10_begin_0 rfl rfl
theorem dX10_begin_15 : decode cX10_begin 15 = .ok (.aload_n 0, 1) := yd_op_42 (i := 15) yd_by_cX10_begin_0 rfl rfl
theorem dX10_begin_16 : decode cX10_begin 16 = .ok (.iconst 0, 1) := yd_op_3 (i := 16) yd_by_cX10_begin_0 rfl rfl
theorem dX10_begin_17 : decode cX10_begin 17 = .ok (.putfield 24, 3) := yd_op_181 (i := 17) (a := 0) (b := 24) yd_by_cX10_begin_0 rfl rfl
theorem dX10_begin_20 : decode cX10_begin 20 = .ok (.iconst 0, 1) := yd_op_3 (i := 20) yd_by_cX10_begin_0 rfl rfl
theorem dX10_begin_21 : decode cX10_begin 21 = .ok (.istore_n 2, 1) := yd_op_61 (i := 21) yd_by_cX10_begin_0 rfl rfl
theorem dX10_begin_22 : decode cX10_begin 22 = .ok (.iload_n 2, 1) := yd_op_28 (i := 22) yd_by_cX10_begin_0 rfl rfl
theorem dX10_begin_23 : decode cX10_begin 23 = .ok (.aload_n 1, 1) := yd_op_43 (i := 23) yd_by_cX10_begin_0 rfl rfl
theorem dX10_begin_24 : decode cX10_begin 24 = .ok (.getfield 38, 3) := yd_op_180 (i := 24) (a := 0) (b := 38) yd_by_cX10_begin_0 rfl rfl
theorem dX10_begin_27 : decode cX10_begin 27 = .ok (.if_icmp .ge 40, 3) := yd_op_162 (i := 27) (a := 0) (b := 40) yd_by_cX10_begin_0 rfl rfl
theorem dX10_begin_30 : decode cX10_begin 30 = .ok (.aload_n 0, 1) := yd_op_42 (i := 30) yd_by_cX10_begin_0 rfl rfl
theorem dX10_begin_31 : decode cX10_begin 31 = .ok (.getfield 9, 3) := yd_op_180 (i := 31) (a := 0) (b := 9) yd_by_cX10_begin_0 rfl rfl
set_option maxRecDepth 100000 in
theorem yd_by_cX10_begin_1 : ydk cX10_begin 34 [28, 43, 180, 0, 43, 28, 46, 79, 42, 180, 0, 15, 28, 43, 180, 0, 46, 28, 46, 79, 42, 180, 0, 18, 28, 3, 79, 132, 2, 1] = true := by decide +kernel
theorem dX10_begin_34 : decode cX10_begin 34 = .ok (.iload_n 2, 1) := yd_op_28 (i := 0) yd_by_cX10_begin_1 rfl rfl
theorem dX10_begin_35 : decode cX10_begin 35 = .ok (.aload_n 1, 1) := yd_op_43 (i := 1) yd_by_cX10_begin_1 rfl rfl
theorem dX10_begin_36 : decode cX10_begin 36 = .ok (.getfield 43, 3) := yd_op_180 (i := 2) (a := 0) (b := 43) yd_by_cX10_begin_1 rfl rfl
theorem dX10_begin_39 : decode cX10_begin 39 = .ok (.iload_n 2, 1) := yd_op_28 (i := 5) yd_by_cX10_begin_1 rfl rfl
theorem dX10_begin_40 : decode cX10_begin 40 = .ok (.iaload, 1) := yd_op_46 (i := 6) yd_by_cX10_begin_1 rfl rfl
theorem dX10_begin_41 : decode cX10_begin 41 = .ok (.iastore, 1) := yd_op_79 (i := 7) yd_by_cX10_begin_1 rfl rfl
theorem dX10_begin_42 : decode cX10_begin 42 = .ok (.aload_n 0, 1) := yd_op_42 (i := 8) yd_by_cX10_begin_1 rfl rfl
theorem dX10_begin_43 : decode cX10_begin 43 = .ok (.getfield 15, 3) := yd_op_180 (i := 9) (a := 0) (b := 15) yd_by_cX10_begin_1 rfl rfl
theorem dX10_begin_46 : decode cX10_begin 46 = .ok (.iload_n 2, 1) := yd_op_28 (i := 12) yd_by_cX10_begin_1 rfl rfl
theorem dX10_begin_47 : decode cX10_begin 47 = .ok (.aload_n 1, 1) := yd_op_43 (i := 13) yd_by_cX10_begin_1 rfl rfl
theorem dX10_begin_48 : decode cX10_begin 48 = .ok (.getfield 46, 3) := yd_op_180 (i := 14) (a := 0) (b := 46) yd_by_cX10_begin_1 rfl rfl
theorem dX10_begin_51 : decode cX10_begin 51 = .ok (.iload_n 2, 1) := yd_op_28 (i := 17) yd_by_cX10_begin_1 rfl rfl
theorem dX10_begin_52 : decode cX10_begin 52 = .ok (.iaload, 1) := yd_op_46 (i := 18) yd_by_cX10_begin_1 rfl rfl
theorem dX10_begin_53 : decode cX10_begin 53 = .ok (.iastore, 1) := yd_op_79 (i := 19) yd_by_cX10_begin_1 rfl rfl
theorem dX10_begin_54 : decode cX10_begin 54 = .ok (.aload_n 0, 1) := yd_op_42 (i := 20) yd_by_cX10_begin_1 rfl rfl
theorem dX10_begin_55 : decode cX10_begin 55 = .ok (.getfield 18, 3) := yd_op_180 (i := 21) (a := 0) (b := 18) yd_by_cX10_begin_1 rfl rfl
theorem dX10_begin_58 : decode cX10_begin 58 = .ok (.iload_n 2, 1) := yd_op_28 (i := 24) yd_by_cX10_begin_1 rfl rfl
theorem dX10_begin_59 : decode cX10_begin 59 = .ok (.iconst 0, 1) := yd_op_3 (i := 25) yd_by_cX10_begin_1 rfl rfl
theorem dX10_begin_60 : decode cX10_begin 60 = .ok (.iastore, 1) := yd_op_79 (i := 26) yd_by_cX10_begin_1 rfl rfl
theorem dX10_begin_61 : decode cX10_begin 61 = .ok (.iinc 2 1, 3) := yd_op_132 (i := 27) (a := 2) (b := 1) yd_by_cX10_begin_1 rfl rfl
set_option maxRecDepth 100000 in
theorem yd_by_cX10_begin_2 : ydk cX10_begin 64 [167, 255, 214, 177] = true := by decide +kernel
theorem dX10_begin_64 : decode cX10_begin 64 = .ok (.goto (-42), 3) := yd_op_167 (i := 0) (a := 255) (b := 214) yd_by_cX10_begin_2 rfl rfl
theorem dX10_begin_67 : decode cX10_begin 67 = .ok (.return_, 1) := yd_op_177 (i := 3) yd_by_cX10_begin_2 rfl rfl
set_option maxRecDepth 100000 in
theorem yd_by_cX10_takeLife_0 : ydk cX10_takeLife 0 [42, 43, 180, 0, 28, 181, 0, 28, 42, 43, 180, 0, 31, 181, 0, 31, 42, 43, 180, 0, 35, 181, 0, 35, 3, 61, 28, 16, 10, 162, 0, 45, 42, 180, 0, 9, 28] = true := by decide +kernel
theorem dX10_takeLife_0 : decode cX10_takeLife 0 = .ok (.aload_n 0, 1) := yd_op_42 (i := 0) yd_by_cX10_takeLife_0 rfl rfl
theorem dX10_takeLife_1 : decode cX10_takeLife 1 = .ok (.aload_n 1, 1) := yd_op_43 (i := 1) yd_by_cX10_takeLife_0 rfl rfl
theorem dX10_takeLife_2 : decode cX10_takeLife 2 = .ok (.getfield 28, 3) := yd_op_180 (i := 2) (a := 0) (b := 28) yd_by_cX10_takeLife_0 rfl rfl
theorem dX10_takeLife_5 : decode cX10_takeLife 5 = .ok (.putfield 28, 3) := yd_op_181 (i := 5) (a := 0) (b := 28) yd_by_cX10_takeLife_0 rfl rfl
theorem dX10_takeLife_8 : decode cX10_takeLife 8 = .ok (.aload_n 0, 1) := yd_op_42 (i := 8) yd_by_cX10_takeLife_0 rfl rfl
theorem dX10_takeLife_9 : decode cX10_takeLife 9 = .ok (.aload_n 1, 1) := yd_op_43 (i := 9) yd_by_cX10_takeLife_0 rfl rfl
theorem dX10_takeLife_10 : decode cX10_takeLife 10 = .ok (.getfield 31, 3) := yd_op_180 (i := 10) (a := 0) (b := 31) yd_by_cX10_takeLife_0 rfl rfl
theorem dX10_takeLife_13 : decode cX10_takeLife 13 = .ok (.putfield 31, 3) := yd_op_181 (i := 13) (a := 0) (b := 31) yd_by_cX10_takeLife_0 rfl rfl
theorem dX10_takeLife_16 : decode cX10_takeLife 16 = .ok (.aload_n 0, 1) := yd_op_42 (i := 16) yd_by_cX10_takeLife_0 rfl rfl
theorem dX10_takeLife_17 : decode cX10_takeLife 17 = .ok (.aload_n 1, 1) := yd_op_43 (i := 17) yd_by_cX10_takeLife_0 rfl rfl
theorem dX10_takeLife_18 : decode cX10_takeLife 18 = .ok (.getfield 35, 3) := yd_op_180 (i := 18) (a := 0) (b := 35) yd_by_cX10_takeLife_0 rfl rfl
theorem dX10_takeLife_21 : decode cX10_takeLife 21 = .ok (.putfield 35, 3) := yd_op_181 (i := 21) (a := 0) (b := 35) yd_by_cX10_takeLife_0 rfl rfl
theorem dX10_takeLife_24 : decode cX10_takeLife 24 = .ok (.iconst 0, 1) := yd_op_3 (i := 24) yd_by_cX10_takeLife_0 rfl rfl
theorem dX10_takeLife_25 : decode cX10_takeLife 25 = .ok (.istore_n 2, 1) := yd_op_61 (i := 25) yd_by_cX10_takeLife_0 rfl rfl
theorem dX10_takeLife_26 : decode cX10_takeLife 26 = .ok (.iload_n 2, 1) := yd_op_28 (i := 26) yd_by_cX10_takeLife_0 rfl rfl
theorem dX10_takeLife_27 : decode cX10_takeLife 27 = .ok (.bipush 10, 2) := yd_op_16 (i := 27) (a := 10) yd_by_cX10_takeLife_0 rfl rfl
theorem dX10_takeLife_29 : decode cX10_takeLife 29 = .ok (.if_icmp .ge 45, 3) := yd_op_162 (i := 29) (a := 0) (b := 45) yd_by_cX10_takeLife_0 rfl rfl
theorem dX10_takeLife_32 : decode cX10_takeLife 32 = .ok (.aload_n 0, 1) := yd_op_42 (i := 32) yd_by_cX10_takeLife_0 rfl rfl
theorem dX10_takeLife_33 : decode cX10_takeLife 33 = .ok (.getfield 9, 3) := yd_op_180 (i := 33) (a := 0) (b := 9) yd_by_cX10_takeLife_0 rfl rfl
theorem dX10_takeLife_36 : decode cX10_takeLife 36 = .ok (.iload_n 2, 1) := yd_op_28 (i := 36) yd_by_cX10_takeLife_0 rfl rfl
set_option maxRecDepth 100000 in
theorem yd_by_cX10_takeLife_1 : ydk cX10_takeLife 37 [43, 180, 0, 9, 28, 46, 79, 42, 180, 0, 15, 28, 43, 180, 0, 15, 28, 46, 79, 42, 180, 0, 18, 28, 43, 180, 0, 18, 28, 46] = true := by decide +kernel
theorem dX10_takeLife_37 : decode cX10_takeLife 37 = .ok (.aload_n 1, 1) := yd_op_43 (i := 0) yd_by_cX10_takeLife_1 rfl rfl
theorem dX10_takeLife_38 : decode cX10_takeLife 38 = .ok (.getfield 9, 3) := yd_op_180 (i := 1) (a := 0) (b := 9) yd_by_cX10_takeLife_1 rfl rfl
theorem dX10_takeLife_41 : decode cX10_takeLife 41 = .ok (.iload_n 2, 1) := yd_op_28 (i := 4) yd_by_cX10_takeLife_1 rfl rfl
theorem dX10_takeLife_42 : decode cX10_takeLife 42 = .ok (.iaload, 1) := yd_op_46 (i := 5) yd_by_cX10_takeLife_1 rfl rfl
theorem dX10_takeLife_43 : decode cX10_takeLife 43 = .ok (.iastore, 1) := yd_op_79 (i := 6) yd_by_cX10_takeLife_1 rfl rfl
theorem dX10_takeLife_44 : decode cX10_takeLife 44 = .ok (.aload_n 0, 1) := yd_op_42 (i := 7) yd_by_cX10_takeLife_1 rfl rfl
theorem dX10_takeLife_45 : decode cX10_takeLife 45 = .ok (.getfield 15, 3) := yd_op_180 (i := 8) (a := 0) (b := 15) yd_by_cX10_takeLife_1 rfl rfl
theorem dX10_takeLife_48 : decode cX10_takeLife 48 = .ok (.iload_n 2, 1) := yd_op_28 (i := 11) yd_by_cX10_takeLife_1 rfl rfl
theorem dX10_takeLife_49 : decode cX10_takeLife 49 = .ok (.aload_n 1, 1) := yd_op_43 (i := 12) yd_by_cX10_takeLife_1 rfl rfl
theorem dX10_takeLife_50 : decode cX10_takeLife 50 = .ok (.getfield 15, 3) := yd_op_180 (i := 13) (a := 0) (b := 15) yd_by_cX10_takeLife_1 rfl rfl
theorem dX10_takeLife_53 : decode cX10_takeLife 53 = .ok (.iload_n 2, 1) := yd_op_28 (i := 16) yd_by_cX10_takeLife_1 rfl rfl
theorem dX10_takeLife_54 : decode cX10_takeLife 54 = .ok (.iaload, 1) := yd_op_46 (i := 17) yd_by_cX10_takeLife_1 rfl rfl
theorem dX10_takeLife_55 : decode cX10_takeLife 55 = .ok (.iastore, 1) := yd_op_79 (i := 18) yd_by_cX10_takeLife_1 rfl rfl
theorem dX10_takeLife_56 : decode cX10_takeLife 56 = .ok (.aload_n 0, 1) := yd_op_42 (i := 19) yd_by_cX10_takeLife_1 rfl rfl
theorem dX10_takeLife_57 : decode cX10_takeLife 57 = .ok (.getfield 18, 3) := yd_op_180 (i := 20) (a := 0) (b := 18) yd_by_cX10_takeLife_1 rfl rfl
theorem dX10_takeLife_60 : decode cX10_takeLife 60 = .ok (.iload_n 2, 1) := yd_op_28 (i := 23) yd_by_cX10_takeLife_1 rfl rfl
theorem dX10_takeLife_61 : decode cX10_takeLife 61 = .ok (.aload_n 1, 1) := yd_op_43 (i := 24) yd_by_cX10_takeLife_1 rfl rfl
theorem dX10_takeLife_62 : decode cX10_takeLife 62 = .ok (.getfield 18, 3) := yd_op_180 (i := 25) (a := 0) (b := 18) yd_by_cX10_takeLife_1 rfl rfl
theorem dX10_takeLife_65 : decode cX10_takeLife 65 = .ok (.iload_n 2, 1) := yd_op_28 (i := 28) yd_by_cX10_takeLife_1 rfl rfl
theorem dX10_takeLife_66 : decode cX10_takeLife 66 = .ok (.iaload, 1) := yd_op_46 (i := 29) yd_by_cX10_takeLife_1 rfl rfl
set_option maxRecDepth 100000 in
theorem yd_by_cX10_takeLife_2 : ydk cX10_takeLife 67 [79, 132, 2, 1, 167, 255, 211, 177] = true := by decide +kernel
theorem dX10_takeLife_67 : decode cX10_takeLife 67 = .ok (.iastore, 1) := yd_op_79 (i := 0) yd_by_cX10_takeLife_2 rfl rfl
theorem dX10_takeLife_68 : decode cX10_takeLife 68 = .ok (.iinc 2 1, 3) := yd_op_132 (i := 1) (a := 2) (b := 1) yd_by_cX10_takeLife_2 rfl rfl
theorem dX10_takeLife_71 : decode cX10_takeLife 71 = .ok (.goto (-45), 3) := yd_op_167 (i := 4) (a := 255) (b := 211) yd_by_cX10_takeLife_2 rfl rfl
theorem dX10_takeLife_74 : decode cX10_takeLife 74 = .ok (.return_, 1) := yd_op_177 (i := 7) yd_by_cX10_takeLife_2 rfl rfl
set_option maxRecDepth 100000 in
theorem yd_by_cX10_takeAll_0 : ydk cX10_takeAll 0 [42, 43, 182, 0, 49, 42, 43, 180, 0, 24, 181, 0, 24, 43, 180, 0, 21, 3, 42, 180, 0, 21, 3, 16, 40, 184, 0, 53, 177] = true := by decide +kernel
theorem dX10_takeAll_0 : decode cX10_takeAll 0 = .ok (.aload_n 0, 1) := yd_op_42 (i := 0) yd_by_cX10_takeAll_0 rfl rfl
theorem dX10_takeAll_1 : decode cX10_takeAll 1 = .ok (.aload_n 1, 1) := yd_op_43 (i := 1) yd_by_cX10_takeAll_0 rfl rfl
theorem dX10_takeAll_2 : decode cX10_takeAll 2 = .ok (.invokevirtual 49, 3) := yd_op_182 (i := 2) (a := 0) (b := 49) yd_by_cX10_takeAll_0 rfl rfl
theorem dX10_takeAll_5 : decode cX10_takeAll 5 = .ok (.aload_n 0, 1) := yd_op_42 (i := 5) yd_by_cX10_takeAll_0 rfl rfl
theorem dX10_takeAll_6 : decode cX10_takeAll 6 = .ok (.aload_n 1, 1) := yd_op_43 (i := 6) yd_by_cX10_takeAll_0 rfl rfl
theorem dX10_takeAll_7 : decode cX10_takeAll 7 = .ok (.getfield 24, 3) := yd_op_180 (i := 7) (a := 0) (b := 24) yd_by_cX10_takeAll_0 rfl rfl
theorem dX10_takeAll_10 : decode cX10_takeAll 10 = .ok (.putfield 24, 3) := yd_op_181 (i := 10) (a := 0) (b := 24) yd_by_cX10_takeAll_0 rfl rfl
theorem dX10_takeAll_13 : decode cX10_takeAll 13 = .ok (.aload_n 1, 1) := yd_op_43 (i := 13) yd_by_cX10_takeAll_0 rfl rfl
theorem dX10_takeAll_14 : decode cX10_takeAll 14 = .ok (.getfield 21, 3) := yd_op_180 (i := 14) (a := 0) (b := 21) yd_by_cX10_takeAll_0 rfl rfl
theorem dX10_takeAll_17 : decode cX10_takeAll 17 = .ok (.iconst 0, 1) := yd_op_3 (i := 17) yd_by_cX10_takeAll_0 rfl rfl
theorem dX10_takeAll_18 : decode cX10_takeAll 18 = .ok (.aload_n 0, 1) := yd_op_42 (i := 18) yd_by_cX10_takeAll_0 rfl rfl
theorem dX10_takeAll_19 : decode cX10_takeAll 19 = .ok (.getfield 21, 3) := yd_op_180 (i := 19) (a := 0) (b := 21) yd_by_cX10_takeAll_0 rfl rfl
theorem dX10_takeAll_22 : decode cX10_takeAll 22 = .ok (.iconst 0, 1) := yd_op_3 (i := 22) yd_by_cX10_takeAll_0 rfl rfl
theorem dX10_takeAll_23 : decode cX10_takeAll 23 = .ok (.bipush 40, 2) := yd_op_16 (i := 23) (a := 40) yd_by_cX10_takeAll_0 rfl rfl
theorem dX10_takeAll_25 : decode cX10_takeAll 25 = .ok (.invokestatic 53, 3) := yd_op_184 (i := 25) (a := 0) (b := 53) yd_by_cX10_takeAll_0 rfl rfl
theorem dX10_takeAll_28 : decode cX10_takeAll 28 = .ok (.return_, 1) := yd_op_177 (i := 28) yd_by_cX10_takeAll_0 rfl rfl
set_option maxRecDepth 100000 in
theorem yd_by_cX10_isCracked_0 : ydk cX10_isCracked 0 [42, 180, 0, 31, 27, 123, 10, 127, 9, 148, 153, 0, 7, 4, 167, 0, 4, 3, 172] = true := by decide +kernel
theorem dX10_isCracked_0 : decode cX10_isCracked 0 = .ok (.aload_n 0, 1) := yd_op_42 (i := 0) yd_by_cX10_isCracked_0 rfl rfl
theorem dX10_isCracked_1 : decode cX10_isCracked 1 = .ok (.getfield 31, 3) := yd_op_180 (i := 1) (a := 0) (b := 31) yd_by_cX10_isCracked_0 rfl rfl
theorem dX10_isCracked_4 : decode cX10_isCracked 4 = .ok (.iload_n 1, 1) := yd_op_27 (i := 4) yd_by_cX10_isCracked_0 rfl rfl
theorem dX10_isCracked_5 : decode cX10_isCracked 5 = .ok (.lshr, 1) := yd_op_123 (i := 5) yd_by_cX10_isCracked_0 rfl rfl
theorem dX10_isCracked_6 : decode cX10_isCracked 6 = .ok (.lconst 1, 1) := yd_op_10 (i := 6) yd_by_cX10_isCracked_0 rfl rfl
theorem dX10_isCracked_7 : decode cX10_isCracked 7 = .ok (.land, 1) := yd_op_127 (i := 7) yd_by_cX10_isCracked_0 rfl rfl
theorem dX10_isCracked_8 : decode cX10_isCracked 8 = .ok (.lconst 0, 1) := yd_op_9 (i := 8) yd_by_cX10_isCracked_0 rfl rfl
theorem dX10_isCracked_9 : decode cX10_isCracked 9 = .ok (.lcmp, 1) := yd_op_148 (i := 9) yd_by_cX10_isCracked_0 rfl rfl
theorem dX10_isCracked_10 : decode cX10_isCracked 10 = .ok (.ifCond .eq 7, 3) := yd_op_153 (i := 10) (a := 0) (b := 7) yd_by_cX10_isCracked_0 rfl rfl
theorem dX10_isCracked_13 : decode cX10_isCracked 13 = .ok (.iconst 1, 1) := yd_op_4 (i := 13) yd_by_cX10_isCracked_0 rfl rfl
theorem dX10_isCracked_14 : decode cX10_isCracked 14 = .ok (.goto 4, 3) := yd_op_167 (i := 14) (a := 0) (b := 4) yd_by_cX10_isCracked_0 rfl rfl
theorem dX10_isCracked_17 : decode cX10_isCracked 17 = .ok (.iconst 0, 1) := yd_op_3 (i := 17) yd_by_cX10_isCracked_0 rfl rfl
theorem dX10_isCracked_18 : decode cX10_isCracked 18 = .ok (.ireturn, 1) := yd_op_172 (i := 18) yd_by_cX10_isCracked_0 rfl rfl
set_option maxRecDepth 100000 in
theorem yd_by_cX10_standing_0 : ydk cX10_standing 0 [3, 62, 29, 43, 180, 0, 38, 162, 0, 31, 43, 42, 180, 0, 9, 29, 46, 42, 180, 0, 15, 29, 46, 182, 0, 59, 28, 160, 0, 5, 29, 172] = true := by decide +kernel
theorem dX10_standing_0 : decode cX10_standing 0 = .ok (.iconst 0, 1) := yd_op_3 (i := 0) yd_by_cX10_standing_0 rfl rfl
theorem dX10_standing_1 : decode cX10_standing 1 = .ok (.istore_n 3, 1) := yd_op_62 (i := 1) yd_by_cX10_standing_0 rfl rfl
theorem dX10_standing_2 : decode cX10_standing 2 = .ok (.iload_n 3, 1) := yd_op_29 (i := 2) yd_by_cX10_standing_0 rfl rfl
theorem dX10_standing_3 : decode cX10_standing 3 = .ok (.aload_n 1, 1) := yd_op_43 (i := 3) yd_by_cX10_standing_0 rfl rfl
theorem dX10_standing_4 : decode cX10_standing 4 = .ok (.getfield 38, 3) := yd_op_180 (i := 4) (a := 0) (b := 38) yd_by_cX10_standing_0 rfl rfl
theorem dX10_standing_7 : decode cX10_standing 7 = .ok (.if_icmp .ge 31, 3) := yd_op_162 (i := 7) (a := 0) (b := 31) yd_by_cX10_standing_0 rfl rfl
theorem dX10_standing_10 : decode cX10_standing 10 = .ok (.aload_n 1, 1) := yd_op_43 (i := 10) yd_by_cX10_standing_0 rfl rfl
theorem dX10_standing_11 : decode cX10_standing 11 = .ok (.aload_n 0, 1) := yd_op_42 (i := 11) yd_by_cX10_standing_0 rfl rfl
theorem dX10_standing_12 : decode cX10_standing 12 = .ok (.getfield 9, 3) := yd_op_180 (i := 12) (a := 0) (b := 9) yd_by_cX10_standing_0 rfl rfl
theorem dX10_standing_15 : decode cX10_standing 15 = .ok (.iload_n 3, 1) := yd_op_29 (i := 15) yd_by_cX10_standing_0 rfl rfl
theorem dX10_standing_16 : decode cX10_standing 16 = .ok (.iaload, 1) := yd_op_46 (i := 16) yd_by_cX10_standing_0 rfl rfl
theorem dX10_standing_17 : decode cX10_standing 17 = .ok (.aload_n 0, 1) := yd_op_42 (i := 17) yd_by_cX10_standing_0 rfl rfl
theorem dX10_standing_18 : decode cX10_standing 18 = .ok (.getfield 15, 3) := yd_op_180 (i := 18) (a := 0) (b := 15) yd_by_cX10_standing_0 rfl rfl
theorem dX10_standing_21 : decode cX10_standing 21 = .ok (.iload_n 3, 1) := yd_op_29 (i := 21) yd_by_cX10_standing_0 rfl rfl
theorem dX10_standing_22 : decode cX10_standing 22 = .ok (.iaload, 1) := yd_op_46 (i := 22) yd_by_cX10_standing_0 rfl rfl
theorem dX10_standing_23 : decode cX10_standing 23 = .ok (.invokevirtual 59, 3) := yd_op_182 (i := 23) (a := 0) (b := 59) yd_by_cX10_standing_0 rfl rfl
theorem dX10_standing_26 : decode cX10_standing 26 = .ok (.iload_n 2, 1) := yd_op_28 (i := 26) yd_by_cX10_standing_0 rfl rfl
theorem dX10_standing_27 : decode cX10_standing 27 = .ok (.if_icmp .ne 5, 3) := yd_op_160 (i := 27) (a := 0) (b := 5) yd_by_cX10_standing_0 rfl rfl
theorem dX10_standing_30 : decode cX10_standing 30 = .ok (.iload_n 3, 1) := yd_op_29 (i := 30) yd_by_cX10_standing_0 rfl rfl
theorem dX10_standing_31 : decode cX10_standing 31 = .ok (.ireturn, 1) := yd_op_172 (i := 31) yd_by_cX10_standing_0 rfl rfl
set_option maxRecDepth 100000 in
theorem yd_by_cX10_standing_1 : ydk cX10_standing 32 [132, 3, 1, 167, 255, 223, 2, 172] = true := by decide +kernel
theorem dX10_standing_32 : decode cX10_standing 32 = .ok (.iinc 3 1, 3) := yd_op_132 (i := 0) (a := 3) (b := 1) yd_by_cX10_standing_1 rfl rfl
theorem dX10_standing_35 : decode cX10_standing 35 = .ok (.goto (-33), 3) := yd_op_167 (i := 3) (a := 255) (b := 223) yd_by_cX10_standing_1 rfl rfl
theorem dX10_standing_38 : decode cX10_standing 38 = .ok (.iconst (-1), 1) := yd_op_2 (i := 6) yd_by_cX10_standing_1 rfl rfl
theorem dX10_standing_39 : decode cX10_standing 39 = .ok (.ireturn, 1) := yd_op_172 (i := 7) yd_by_cX10_standing_1 rfl rfl
set_option maxRecDepth 100000 in
theorem yd_by_cX10_tiredTogether_0 : ydk cX10_tiredTogether 0 [3, 61, 3, 62, 29, 27, 162, 0, 18, 28, 42, 180, 0, 18, 29, 46, 96, 61, 132, 3, 1, 167, 255, 239, 28, 172] = true := by decide +kernel
theorem dX10_tiredTogether_0 : decode cX10_tiredTogether 0 = .ok (.iconst 0, 1) := yd_op_3 (i := 0) yd_by_cX10_tiredTogether_0 rfl rfl
theorem dX10_tiredTogether_1 : decode cX10_tiredTogether 1 = .ok (.istore_n 2, 1) := yd_op_61 (i := 1) yd_by_cX10_tiredTogether_0 rfl rfl
theorem dX10_tiredTogether_2 : decode cX10_tiredTogether 2 = .ok (.iconst 0, 1) := yd_op_3 (i := 2) yd_by_cX10_tiredTogether_0 rfl rfl
theorem dX10_tiredTogether_3 : decode cX10_tiredTogether 3 = .ok (.istore_n 3, 1) := yd_op_62 (i := 3) yd_by_cX10_tiredTogether_0 rfl rfl
theorem dX10_tiredTogether_4 : decode cX10_tiredTogether 4 = .ok (.iload_n 3, 1) := yd_op_29 (i := 4) yd_by_cX10_tiredTogether_0 rfl rfl
theorem dX10_tiredTogether_5 : decode cX10_tiredTogether 5 = .ok (.iload_n 1, 1) := yd_op_27 (i := 5) yd_by_cX10_tiredTogether_0 rfl rfl
theorem dX10_tiredTogether_6 : decode cX10_tiredTogether 6 = .ok (.if_icmp .ge 18, 3) := yd_op_162 (i := 6) (a := 0) (b := 18) yd_by_cX10_tiredTogether_0 rfl rfl
theorem dX10_tiredTogether_9 : decode cX10_tiredTogether 9 = .ok (.iload_n 2, 1) := yd_op_28 (i := 9) yd_by_cX10_tiredTogether_0 rfl rfl
theorem dX10_tiredTogether_10 : decode cX10_tiredTogether 10 = .ok (.aload_n 0, 1) := yd_op_42 (i := 10) yd_by_cX10_tiredTogether_0 rfl rfl
theorem dX10_tiredTogether_11 : decode cX10_tiredTogether 11 = .ok (.getfield 18, 3) := yd_op_180 (i := 11) (a := 0) (b := 18) yd_by_cX10_tiredTogether_0 rfl rfl
theorem dX10_tiredTogether_14 : decode cX10_tiredTogether 14 = .ok (.iload_n 3, 1) := yd_op_29 (i := 14) yd_by_cX10_tiredTogether_0 rfl rfl
theorem dX10_tiredTogether_15 : decode cX10_tiredTogether 15 = .ok (.iaload, 1) := yd_op_46 (i := 15) yd_by_cX10_tiredTogether_0 rfl rfl
theorem dX10_tiredTogether_16 : decode cX10_tiredTogether 16 = .ok (.iadd, 1) := yd_op_96 (i := 16) yd_by_cX10_tiredTogether_0 rfl rfl
theorem dX10_tiredTogether_17 : decode cX10_tiredTogether 17 = .ok (.istore_n 2, 1) := yd_op_61 (i := 17) yd_by_cX10_tiredTogether_0 rfl rfl
theorem dX10_tiredTogether_18 : decode cX10_tiredTogether 18 = .ok (.iinc 3 1, 3) := yd_op_132 (i := 18) (a := 3) (b := 1) yd_by_cX10_tiredTogether_0 rfl rfl
theorem dX10_tiredTogether_21 : decode cX10_tiredTogether 21 = .ok (.goto (-17), 3) := yd_op_167 (i := 21) (a := 255) (b := 239) yd_by_cX10_tiredTogether_0 rfl rfl
theorem dX10_tiredTogether_24 : decode cX10_tiredTogether 24 = .ok (.iload_n 2, 1) := yd_op_28 (i := 24) yd_by_cX10_tiredTogether_0 rfl rfl
theorem dX10_tiredTogether_25 : decode cX10_tiredTogether 25 = .ok (.ireturn, 1) := yd_op_172 (i := 25) yd_by_cX10_tiredTogether_0 rfl rfl
set_option maxRecDepth 100000 in
theorem yd_by_cX10_between_0 : ydk cX10_between 0 [42, 180, 0, 9, 27, 46, 28, 100, 184, 0, 63, 42, 180, 0, 15, 27, 46, 29, 100, 184, 0, 63, 96, 172] = true := by decide +kernel
theorem dX10_between_0 : decode cX10_between 0 = .ok (.aload_n 0, 1) := yd_op_42 (i := 0) yd_by_cX10_between_0 rfl rfl
theorem dX10_between_1 : decode cX10_between 1 = .ok (.getfield 9, 3) := yd_op_180 (i := 1) (a := 0) (b := 9) yd_by_cX10_between_0 rfl rfl
theorem dX10_between_4 : decode cX10_between 4 = .ok (.iload_n 1, 1) := yd_op_27 (i := 4) yd_by_cX10_between_0 rfl rfl
theorem dX10_between_5 : decode cX10_between 5 = .ok (.iaload, 1) := yd_op_46 (i := 5) yd_by_cX10_between_0 rfl rfl
theorem dX10_between_6 : decode cX10_between 6 = .ok (.iload_n 2, 1) := yd_op_28 (i := 6) yd_by_cX10_between_0 rfl rfl
theorem dX10_between_7 : decode cX10_between 7 = .ok (.isub, 1) := yd_op_100 (i := 7) yd_by_cX10_between_0 rfl rfl
theorem dX10_between_8 : decode cX10_between 8 = .ok (.invokestatic 63, 3) := yd_op_184 (i := 8) (a := 0) (b := 63) yd_by_cX10_between_0 rfl rfl
theorem dX10_between_11 : decode cX10_between 11 = .ok (.aload_n 0, 1) := yd_op_42 (i := 11) yd_by_cX10_between_0 rfl rfl
theorem dX10_between_12 : decode cX10_between 12 = .ok (.getfield 15, 3) := yd_op_180 (i := 12) (a := 0) (b := 15) yd_by_cX10_between_0 rfl rfl
theorem dX10_between_15 : decode cX10_between 15 = .ok (.iload_n 1, 1) := yd_op_27 (i := 15) yd_by_cX10_between_0 rfl rfl
theorem dX10_between_16 : decode cX10_between 16 = .ok (.iaload, 1) := yd_op_46 (i := 16) yd_by_cX10_between_0 rfl rfl
theorem dX10_between_17 : decode cX10_between 17 = .ok (.iload_n 3, 1) := yd_op_29 (i := 17) yd_by_cX10_between_0 rfl rfl
theorem dX10_between_18 : decode cX10_between 18 = .ok (.isub, 1) := yd_op_100 (i := 18) yd_by_cX10_between_0 rfl rfl
theorem dX10_between_19 : decode cX10_between 19 = .ok (.invokestatic 63, 3) := yd_op_184 (i := 19) (a := 0) (b := 63) yd_by_cX10_between_0 rfl rfl
theorem dX10_between_22 : decode cX10_between 22 = .ok (.iadd, 1) := yd_op_96 (i := 22) yd_by_cX10_between_0 rfl rfl
theorem dX10_between_23 : decode cX10_between 23 = .ok (.ireturn, 1) := yd_op_172 (i := 23) yd_by_cX10_between_0 rfl rfl
set_option maxRecDepth 100000 in
theorem yd_by_cX10_keep_0 : ydk cX10_keep 0 [3, 54, 5, 21, 5, 43, 180, 0, 69, 162, 0, 60, 3, 54, 6, 21, 6, 43, 180, 0, 72, 162, 0, 42, 33, 43, 21, 6, 21, 5, 182, 0, 59, 123, 10, 127] = true := by decide +kernel
theorem dX10_keep_0 : decode cX10_keep 0 = .ok (.iconst 0, 1) := yd_op_3 (i := 0) yd_by_cX10_keep_0 rfl rfl
theorem dX10_keep_1 : decode cX10_keep 1 = .ok (.istore 5, 2) := yd_op_54 (i := 1) (a := 5) yd_by_cX10_keep_0 rfl rfl
theorem dX10_keep_3 : decode cX10_keep 3 = .ok (.iload 5, 2) := yd_op_21 (i := 3) (a := 5) yd_by_cX10_keep_0 rfl rfl
theorem dX10_keep_5 : decode cX10_keep 5 = .ok (.aload_n 1, 1) := yd_op_43 (i := 5) yd_by_cX10_keep_0 rfl rfl
theorem dX10_keep_6 : decode cX10_keep 6 = .ok (.getfield 69, 3) := yd_op_180 (i := 6) (a := 0) (b := 69) yd_by_cX10_keep_0 rfl rfl
theorem dX10_keep_9 : decode cX10_keep 9 = .ok (.if_icmp .ge 60, 3) := yd_op_162 (i := 9) (a := 0) (b := 60) yd_by_cX10_keep_0 rfl rfl
theorem dX10_keep_12 : decode cX10_keep 12 = .ok (.iconst 0, 1) := yd_op_3 (i := 12) yd_by_cX10_keep_0 rfl rfl
theorem dX10_keep_13 : decode cX10_keep 13 = .ok (.istore 6, 2) := yd_op_54 (i := 13) (a := 6) yd_by_cX10_keep_0 rfl rfl
theorem dX10_keep_15 : decode cX10_keep 15 = .ok (.iload 6, 2) := yd_op_21 (i := 15) (a := 6) yd_by_cX10_keep_0 rfl rfl
theorem dX10_keep_17 : decode cX10_keep 17 = .ok (.aload_n 1, 1) := yd_op_43 (i := 17) yd_by_cX10_keep_0 rfl rfl
theorem dX10_keep_18 : decode cX10_keep 18 = .ok (.getfield 72, 3) := yd_op_180 (i := 18) (a := 0) (b := 72) yd_by_cX10_keep_0 rfl rfl
theorem dX10_keep_21 : decode cX10_keep 21 = .ok (.if_icmp .ge 42, 3) := yd_op_162 (i := 21) (a := 0) (b := 42) yd_by_cX10_keep_0 rfl rfl
theorem dX10_keep_24 : decode cX10_keep 24 = .ok (.lload_n 3, 1) := yd_op_33 (i := 24) yd_by_cX10_keep_0 rfl rfl
theorem dX10_keep_25 : decode cX10_keep 25 = .ok (.aload_n 1, 1) := yd_op_43 (i := 25) yd_by_cX10_keep_0 rfl rfl
theorem dX10_keep_26 : decode cX10_keep 26 = .ok (.iload 6, 2) := yd_op_21 (i := 26) (a := 6) yd_by_cX10_keep_0 rfl rfl
theorem dX10_keep_28 : decode cX10_keep 28 = .ok (.iload 5, 2) := yd_op_21 (i := 28) (a := 5) yd_by_cX10_keep_0 rfl rfl
theorem dX10_keep_30 : decode cX10_keep 30 = .ok (.invokevirtual 59, 3) := yd_op_182 (i := 30) (a := 0) (b := 59) yd_by_cX10_keep_0 rfl rfl
theorem dX10_keep_33 : decode cX10_keep 33 = .ok (.lshr, 1) := yd_op_123 (i := 33) yd_by_cX10_keep_0 rfl rfl
theorem dX10_keep_34 : decode cX10_keep 34 = .ok (.lconst 1, 1) := yd_op_10 (i := 34) yd_by_cX10_keep_0 rfl rfl
theorem dX10_keep_35 : decode cX10_keep 35 = .ok (.land, 1) := yd_op_127 (i := 35) yd_by_cX10_keep_0 rfl rfl
set_option maxRecDepth 100000 in
theorem yd_by_cX10_keep_1 : ydk cX10_keep 36 [9, 148, 153, 0, 19, 42, 28, 16, 6, 120, 21, 5, 6, 120, 128, 21, 6, 128, 182, 0, 75, 132, 6, 1, 167, 255, 211, 132, 5, 1, 167, 255, 193, 177] = true := by decide +kernel
theorem dX10_keep_36 : decode cX10_keep 36 = .ok (.lconst 0, 1) := yd_op_9 (i := 0) yd_by_cX10_keep_1 rfl rfl
theorem dX10_keep_37 : decode cX10_keep 37 = .ok (.lcmp, 1) := yd_op_148 (i := 1) yd_by_cX10_keep_1 rfl rfl
theorem dX10_keep_38 : decode cX10_keep 38 = .ok (.ifCond .eq 19, 3) := yd_op_153 (i := 2) (a := 0) (b := 19) yd_by_cX10_keep_1 rfl rfl
theorem dX10_keep_41 : decode cX10_keep 41 = .ok (.aload_n 0, 1) := yd_op_42 (i := 5) yd_by_cX10_keep_1 rfl rfl
theorem dX10_keep_42 : decode cX10_keep 42 = .ok (.iload_n 2, 1) := yd_op_28 (i := 6) yd_by_cX10_keep_1 rfl rfl
theorem dX10_keep_43 : decode cX10_keep 43 = .ok (.bipush 6, 2) := yd_op_16 (i := 7) (a := 6) yd_by_cX10_keep_1 rfl rfl
theorem dX10_keep_45 : decode cX10_keep 45 = .ok (.ishl, 1) := yd_op_120 (i := 9) yd_by_cX10_keep_1 rfl rfl
theorem dX10_keep_46 : decode cX10_keep 46 = .ok (.iload 5, 2) := yd_op_21 (i := 10) (a := 5) yd_by_cX10_keep_1 rfl rfl
theorem dX10_keep_48 : decode cX10_keep 48 = .ok (.iconst 3, 1) := yd_op_6 (i := 12) yd_by_cX10_keep_1 rfl rfl
theorem dX10_keep_49 : decode cX10_keep 49 = .ok (.ishl, 1) := yd_op_120 (i := 13) yd_by_cX10_keep_1 rfl rfl
theorem dX10_keep_50 : decode cX10_keep 50 = .ok (.ior, 1) := yd_op_128 (i := 14) yd_by_cX10_keep_1 rfl rfl
theorem dX10_keep_51 : decode cX10_keep 51 = .ok (.iload 6, 2) := yd_op_21 (i := 15) (a := 6) yd_by_cX10_keep_1 rfl rfl
theorem dX10_keep_53 : decode cX10_keep 53 = .ok (.ior, 1) := yd_op_128 (i := 17) yd_by_cX10_keep_1 rfl rfl
theorem dX10_keep_54 : decode cX10_keep 54 = .ok (.invokevirtual 75, 3) := yd_op_182 (i := 18) (a := 0) (b := 75) yd_by_cX10_keep_1 rfl rfl
theorem dX10_keep_57 : decode cX10_keep 57 = .ok (.iinc 6 1, 3) := yd_op_132 (i := 21) (a := 6) (b := 1) yd_by_cX10_keep_1 rfl rfl
theorem dX10_keep_60 : decode cX10_keep 60 = .ok (.goto (-45), 3) := yd_op_167 (i := 24) (a := 255) (b := 211) yd_by_cX10_keep_1 rfl rfl
theorem dX10_keep_63 : decode cX10_keep 63 = .ok (.iinc 5 1, 3) := yd_op_132 (i := 27) (a := 5) (b := 1) yd_by_cX10_keep_1 rfl rfl
theorem dX10_keep_66 : decode cX10_keep 66 = .ok (.goto (-63), 3) := yd_op_167 (i := 30) (a := 255) (b := 193) yd_by_cX10_keep_1 rfl rfl
theorem dX10_keep_69 : decode cX10_keep 69 = .ok (.return_, 1) := yd_op_177 (i := 33) yd_by_cX10_keep_1 rfl rfl
set_option maxRecDepth 100000 in
theorem yd_by_cX10_keepOne_0 : ydk cX10_keepOne 0 [42, 180, 0, 24, 16, 40, 162, 0, 26, 42, 180, 0, 21, 42, 180, 0, 24, 27, 79, 42, 89, 180, 0, 24, 4, 96, 181, 0, 24, 167, 0, 26, 42, 180, 0, 21, 4] = true := by decide +kernel
theorem dX10_keepOne_0 : decode cX10_keepOne 0 = .ok (.aload_n 0, 1) := yd_op_42 (i := 0) yd_by_cX10_keepOne_0 rfl rfl
theorem dX10_keepOne_1 : decode cX10_keepOne 1 = .ok (.getfield 24, 3) := yd_op_180 (i := 1) (a := 0) (b := 24) yd_by_cX10_keepOne_0 rfl rfl
theorem dX10_keepOne_4 : decode cX10_keepOne 4 = .ok (.bipush 40, 2) := yd_op_16 (i := 4) (a := 40) yd_by_cX10_keepOne_0 rfl rfl
theorem dX10_keepOne_6 : decode cX10_keepOne 6 = .ok (.if_icmp .ge 26, 3) := yd_op_162 (i := 6) (a := 0) (b := 26) yd_by_cX10_keepOne_0 rfl rfl
theorem dX10_keepOne_9 : decode cX10_keepOne 9 = .ok (.aload_n 0, 1) := yd_op_42 (i := 9) yd_by_cX10_keepOne_0 rfl rfl
theorem dX10_keepOne_10 : decode cX10_keepOne 10 = .ok (.getfield 21, 3) := yd_op_180 (i := 10) (a := 0) (b := 21) yd_by_cX10_keepOne_0 rfl rfl
theorem dX10_keepOne_13 : decode cX10_keepOne 13 = .ok (.aload_n 0, 1) := yd_op_42 (i := 13) yd_by_cX10_keepOne_0 rfl rfl
theorem dX10_keepOne_14 : decode cX10_keepOne 14 = .ok (.getfield 24, 3) := yd_op_180 (i := 14) (a := 0) (b := 24) yd_by_cX10_keepOne_0 rfl rfl
theorem dX10_keepOne_17 : decode cX10_keepOne 17 = .ok (.iload_n 1, 1) := yd_op_27 (i := 17) yd_by_cX10_keepOne_0 rfl rfl
theorem dX10_keepOne_18 : decode cX10_keepOne 18 = .ok (.iastore, 1) := yd_op_79 (i := 18) yd_by_cX10_keepOne_0 rfl rfl
theorem dX10_keepOne_19 : decode cX10_keepOne 19 = .ok (.aload_n 0, 1) := yd_op_42 (i := 19) yd_by_cX10_keepOne_0 rfl rfl
theorem dX10_keepOne_20 : decode cX10_keepOne 20 = .ok (.dup, 1) := yd_op_89 (i := 20) yd_by_cX10_keepOne_0 rfl rfl
theorem dX10_keepOne_21 : decode cX10_keepOne 21 = .ok (.getfield 24, 3) := yd_op_180 (i := 21) (a := 0) (b := 24) yd_by_cX10_keepOne_0 rfl rfl
theorem dX10_keepOne_24 : decode cX10_keepOne 24 = .ok (.iconst 1, 1) := yd_op_4 (i := 24) yd_by_cX10_keepOne_0 rfl rfl
theorem dX10_keepOne_25 : decode cX10_keepOne 25 = .ok (.iadd, 1) := yd_op_96 (i := 25) yd_by_cX10_keepOne_0 rfl rfl
theorem dX10_keepOne_26 : decode cX10_keepOne 26 = .ok (.putfield 24, 3) := yd_op_181 (i := 26) (a := 0) (b := 24) yd_by_cX10_keepOne_0 rfl rfl
theorem dX10_keepOne_29 : decode cX10_keepOne 29 = .ok (.goto 26, 3) := yd_op_167 (i := 29) (a := 0) (b := 26) yd_by_cX10_keepOne_0 rfl rfl
theorem dX10_keepOne_32 : decode cX10_keepOne 32 = .ok (.aload_n 0, 1) := yd_op_42 (i := 32) yd_by_cX10_keepOne_0 rfl rfl
theorem dX10_keepOne_33 : decode cX10_keepOne 33 = .ok (.getfield 21, 3) := yd_op_180 (i := 33) (a := 0) (b := 21) yd_by_cX10_keepOne_0 rfl rfl
theorem dX10_keepOne_36 : decode cX10_keepOne 36 = .ok (.iconst 1, 1) := yd_op_4 (i := 36) yd_by_cX10_keepOne_0 rfl rfl
set_option maxRecDepth 100000 in
theorem yd_by_cX10_keepOne_1 : ydk cX10_keepOne 37 [42, 180, 0, 21, 3, 16, 39, 184, 0, 53, 42, 180, 0, 21, 16, 39, 27, 79, 177] = true := by decide +kernel
theorem dX10_keepOne_37 : decode cX10_keepOne 37 = .ok (.aload_n 0, 1) := yd_op_42 (i := 0) yd_by_cX10_keepOne_1 rfl rfl
theorem dX10_keepOne_38 : decode cX10_keepOne 38 = .ok (.getfield 21, 3) := yd_op_180 (i := 1) (a := 0) (b := 21) yd_by_cX10_keepOne_1 rfl rfl
theorem dX10_keepOne_41 : decode cX10_keepOne 41 = .ok (.iconst 0, 1) := yd_op_3 (i := 4) yd_by_cX10_keepOne_1 rfl rfl
theorem dX10_keepOne_42 : decode cX10_keepOne 42 = .ok (.bipush 39, 2) := yd_op_16 (i := 5) (a := 39) yd_by_cX10_keepOne_1 rfl rfl
theorem dX10_keepOne_44 : decode cX10_keepOne 44 = .ok (.invokestatic 53, 3) := yd_op_184 (i := 7) (a := 0) (b := 53) yd_by_cX10_keepOne_1 rfl rfl
theorem dX10_keepOne_47 : decode cX10_keepOne 47 = .ok (.aload_n 0, 1) := yd_op_42 (i := 10) yd_by_cX10_keepOne_1 rfl rfl
theorem dX10_keepOne_48 : decode cX10_keepOne 48 = .ok (.getfield 21, 3) := yd_op_180 (i := 11) (a := 0) (b := 21) yd_by_cX10_keepOne_1 rfl rfl
theorem dX10_keepOne_51 : decode cX10_keepOne 51 = .ok (.bipush 39, 2) := yd_op_16 (i := 14) (a := 39) yd_by_cX10_keepOne_1 rfl rfl
theorem dX10_keepOne_53 : decode cX10_keepOne 53 = .ok (.iload_n 1, 1) := yd_op_27 (i := 16) yd_by_cX10_keepOne_1 rfl rfl
theorem dX10_keepOne_54 : decode cX10_keepOne 54 = .ok (.iastore, 1) := yd_op_79 (i := 17) yd_by_cX10_keepOne_1 rfl rfl
theorem dX10_keepOne_55 : decode cX10_keepOne 55 = .ok (.return_, 1) := yd_op_177 (i := 18) yd_by_cX10_keepOne_1 rfl rfl
set_option maxRecDepth 100000 in
theorem yd_by_cX10_readImage_0 : ydk cX10_readImage 0 [5, 43, 182, 0, 79, 96, 62, 29, 7, 43, 180, 0, 38, 104, 96, 54, 4, 44, 180, 0, 83, 21, 4, 4, 96, 160, 0, 18, 44, 21, 4] = true := by decide +kernel
theorem dX10_readImage_0 : decode cX10_readImage 0 = .ok (.iconst 2, 1) := yd_op_5 (i := 0) yd_by_cX10_readImage_0 rfl rfl
theorem dX10_readImage_1 : decode cX10_readImage 1 = .ok (.aload_n 1, 1) := yd_op_43 (i := 1) yd_by_cX10_readImage_0 rfl rfl
theorem dX10_readImage_2 : decode cX10_readImage 2 = .ok (.invokevirtual 79, 3) := yd_op_182 (i := 2) (a := 0) (b := 79) yd_by_cX10_readImage_0 rfl rfl
theorem dX10_readImage_5 : decode cX10_readImage 5 = .ok (.iadd, 1) := yd_op_96 (i := 5) yd_by_cX10_readImage_0 rfl rfl
theorem dX10_readImage_6 : decode cX10_readImage 6 = .ok (.istore_n 3, 1) := yd_op_62 (i := 6) yd_by_cX10_readImage_0 rfl rfl
theorem dX10_readImage_7 : decode cX10_readImage 7 = .ok (.iload_n 3, 1) := yd_op_29 (i := 7) yd_by_cX10_readImage_0 rfl rfl
theorem dX10_readImage_8 : decode cX10_readImage 8 = .ok (.iconst 4, 1) := yd_op_7 (i := 8) yd_by_cX10_readImage_0 rfl rfl
theorem dX10_readImage_9 : decode cX10_readImage 9 = .ok (.aload_n 1, 1) := yd_op_43 (i := 9) yd_by_cX10_readImage_0 rfl rfl
theorem dX10_readImage_10 : decode cX10_readImage 10 = .ok (.getfield 38, 3) := yd_op_180 (i := 10) (a := 0) (b := 38) yd_by_cX10_readImage_0 rfl rfl
theorem dX10_readImage_13 : decode cX10_readImage 13 = .ok (.imul, 1) := yd_op_104 (i := 13) yd_by_cX10_readImage_0 rfl rfl
theorem dX10_readImage_14 : decode cX10_readImage 14 = .ok (.iadd, 1) := yd_op_96 (i := 14) yd_by_cX10_readImage_0 rfl rfl
theorem dX10_readImage_15 : decode cX10_readImage 15 = .ok (.istore 4, 2) := yd_op_54 (i := 15) (a := 4) yd_by_cX10_readImage_0 rfl rfl
theorem dX10_readImage_17 : decode cX10_readImage 17 = .ok (.aload_n 2, 1) := yd_op_44 (i := 17) yd_by_cX10_readImage_0 rfl rfl
theorem dX10_readImage_18 : decode cX10_readImage 18 = .ok (.getfield 83, 3) := yd_op_180 (i := 18) (a := 0) (b := 83) yd_by_cX10_readImage_0 rfl rfl
theorem dX10_readImage_21 : decode cX10_readImage 21 = .ok (.iload 4, 2) := yd_op_21 (i := 21) (a := 4) yd_by_cX10_readImage_0 rfl rfl
theorem dX10_readImage_23 : decode cX10_readImage 23 = .ok (.iconst 1, 1) := yd_op_4 (i := 23) yd_by_cX10_readImage_0 rfl rfl
theorem dX10_readImage_24 : decode cX10_readImage 24 = .ok (.iadd, 1) := yd_op_96 (i := 24) yd_by_cX10_readImage_0 rfl rfl
theorem dX10_readImage_25 : decode cX10_readImage 25 = .ok (.if_icmp .ne 18, 3) := yd_op_160 (i := 25) (a := 0) (b := 18) yd_by_cX10_readImage_0 rfl rfl
theorem dX10_readImage_28 : decode cX10_readImage 28 = .ok (.aload_n 2, 1) := yd_op_44 (i := 28) yd_by_cX10_readImage_0 rfl rfl
theorem dX10_readImage_29 : decode cX10_readImage 29 = .ok (.iload 4, 2) := yd_op_21 (i := 29) (a := 4) yd_by_cX10_readImage_0 rfl rfl
set_option maxRecDepth 100000 in
theorem yd_by_cX10_readImage_1 : ydk cX10_readImage 31 [182, 0, 88, 44, 21, 4, 182, 0, 91, 159, 0, 5, 3, 172, 42, 44, 3, 182, 0, 94, 181, 0, 28, 42, 9, 181, 0, 31, 42, 3, 181, 0, 35, 42, 180, 0, 28] = true := by decide +kernel
theorem dX10_readImage_31 : decode cX10_readImage 31 = .ok (.invokevirtual 88, 3) := yd_op_182 (i := 0) (a := 0) (b := 88) yd_by_cX10_readImage_1 rfl rfl
theorem dX10_readImage_34 : decode cX10_readImage 34 = .ok (.aload_n 2, 1) := yd_op_44 (i := 3) yd_by_cX10_readImage_1 rfl rfl
theorem dX10_readImage_35 : decode cX10_readImage 35 = .ok (.iload 4, 2) := yd_op_21 (i := 4) (a := 4) yd_by_cX10_readImage_1 rfl rfl
theorem dX10_readImage_37 : decode cX10_readImage 37 = .ok (.invokevirtual 91, 3) := yd_op_182 (i := 6) (a := 0) (b := 91) yd_by_cX10_readImage_1 rfl rfl
theorem dX10_readImage_40 : decode cX10_readImage 40 = .ok (.if_icmp .eq 5, 3) := yd_op_159 (i := 9) (a := 0) (b := 5) yd_by_cX10_readImage_1 rfl rfl
theorem dX10_readImage_43 : decode cX10_readImage 43 = .ok (.iconst 0, 1) := yd_op_3 (i := 12) yd_by_cX10_readImage_1 rfl rfl
theorem dX10_readImage_44 : decode cX10_readImage 44 = .ok (.ireturn, 1) := yd_op_172 (i := 13) yd_by_cX10_readImage_1 rfl rfl
theorem dX10_readImage_45 : decode cX10_readImage 45 = .ok (.aload_n 0, 1) := yd_op_42 (i := 14) yd_by_cX10_readImage_1 rfl rfl
theorem dX10_readImage_46 : decode cX10_readImage 46 = .ok (.aload_n 2, 1) := yd_op_44 (i := 15) yd_by_cX10_readImage_1 rfl rfl
theorem dX10_readImage_47 : decode cX10_readImage 47 = .ok (.iconst 0, 1) := yd_op_3 (i := 16) yd_by_cX10_readImage_1 rfl rfl
theorem dX10_readImage_48 : decode cX10_readImage 48 = .ok (.invokevirtual 94, 3) := yd_op_182 (i := 17) (a := 0) (b := 94) yd_by_cX10_readImage_1 rfl rfl
theorem dX10_readImage_51 : decode cX10_readImage 51 = .ok (.putfield 28, 3) := yd_op_181 (i := 20) (a := 0) (b := 28) yd_by_cX10_readImage_1 rfl rfl
theorem dX10_readImage_54 : decode cX10_readImage 54 = .ok (.aload_n 0, 1) := yd_op_42 (i := 23) yd_by_cX10_readImage_1 rfl rfl
theorem dX10_readImage_55 : decode cX10_readImage 55 = .ok (.lconst 0, 1) := yd_op_9 (i := 24) yd_by_cX10_readImage_1 rfl rfl
theorem dX10_readImage_56 : decode cX10_readImage 56 = .ok (.putfield 31, 3) := yd_op_181 (i := 25) (a := 0) (b := 31) yd_by_cX10_readImage_1 rfl rfl
theorem dX10_readImage_59 : decode cX10_readImage 59 = .ok (.aload_n 0, 1) := yd_op_42 (i := 28) yd_by_cX10_readImage_1 rfl rfl
theorem dX10_readImage_60 : decode cX10_readImage 60 = .ok (.iconst 0, 1) := yd_op_3 (i := 29) yd_by_cX10_readImage_1 rfl rfl
theorem dX10_readImage_61 : decode cX10_readImage 61 = .ok (.putfield 35, 3) := yd_op_181 (i := 30) (a := 0) (b := 35) yd_by_cX10_readImage_1 rfl rfl
theorem dX10_readImage_64 : decode cX10_readImage 64 = .ok (.aload_n 0, 1) := yd_op_42 (i := 33) yd_by_cX10_readImage_1 rfl rfl
theorem dX10_readImage_65 : decode cX10_readImage 65 = .ok (.getfield 28, 3) := yd_op_180 (i := 34) (a := 0) (b := 28) yd_by_cX10_readImage_1 rfl rfl
set_option maxRecDepth 100000 in
theorem yd_by_cX10_readImage_2 : ydk cX10_readImage 68 [17, 3, 231, 163, 0, 7, 4, 167, 0, 4, 3, 54, 5, 3, 54, 6, 21, 6, 43, 182, 0, 79, 162, 0, 54, 44, 5, 21, 6, 96, 182, 0, 88, 54, 7, 21, 5, 153, 0, 13] = true := by decide +kernel
theorem dX10_readImage_68 : decode cX10_readImage 68 = .ok (.sipush 999, 3) := yd_op_17 (i := 0) (a := 3) (b := 231) yd_by_cX10_readImage_2 rfl rfl
theorem dX10_readImage_71 : decode cX10_readImage 71 = .ok (.if_icmp .gt 7, 3) := yd_op_163 (i := 3) (a := 0) (b := 7) yd_by_cX10_readImage_2 rfl rfl
theorem dX10_readImage_74 : decode cX10_readImage 74 = .ok (.iconst 1, 1) := yd_op_4 (i := 6) yd_by_cX10_readImage_2 rfl rfl
theorem dX10_readImage_75 : decode cX10_readImage 75 = .ok (.goto 4, 3) := yd_op_167 (i := 7) (a := 0) (b := 4) yd_by_cX10_readImage_2 rfl rfl
theorem dX10_readImage_78 : decode cX10_readImage 78 = .ok (.iconst 0, 1) := yd_op_3 (i := 10) yd_by_cX10_readImage_2 rfl rfl
theorem dX10_readImage_79 : decode cX10_readImage 79 = .ok (.istore 5, 2) := yd_op_54 (i := 11) (a := 5) yd_by_cX10_readImage_2 rfl rfl
theorem dX10_readImage_81 : decode cX10_readImage 81 = .ok (.iconst 0, 1) := yd_op_3 (i := 13) yd_by_cX10_readImage_2 rfl rfl
theorem dX10_readImage_82 : decode cX10_readImage 82 = .ok (.istore 6, 2) := yd_op_54 (i := 14) (a := 6) yd_by_cX10_readImage_2 rfl rfl
theorem dX10_readImage_84 : decode cX10_readImage 84 = .ok (.iload 6, 2) := yd_op_21 (i := 16) (a := 6) yd_by_cX10_readImage_2 rfl rfl
theorem dX10_readImage_86 : decode cX10_readImage 86 = .ok (.aload_n 1, 1) := yd_op_43 (i := 18) yd_by_cX10_readImage_2 rfl rfl
theorem dX10_readImage_87 : decode cX10_readImage 87 = .ok (.invokevirtual 79, 3) := yd_op_182 (i := 19) (a := 0) (b := 79) yd_by_cX10_readImage_2 rfl rfl
theorem dX10_readImage_90 : decode cX10_readImage 90 = .ok (.if_icmp .ge 54, 3) := yd_op_162 (i := 22) (a := 0) (b := 54) yd_by_cX10_readImage_2 rfl rfl
theorem dX10_readImage_93 : decode cX10_readImage 93 = .ok (.aload_n 2, 1) := yd_op_44 (i := 25) yd_by_cX10_readImage_2 rfl rfl
theorem dX10_readImage_94 : decode cX10_readImage 94 = .ok (.iconst 2, 1) := yd_op_5 (i := 26) yd_by_cX10_readImage_2 rfl rfl
theorem dX10_readImage_95 : decode cX10_readImage 95 = .ok (.iload 6, 2) := yd_op_21 (i := 27) (a := 6) yd_by_cX10_readImage_2 rfl rfl
theorem dX10_readImage_97 : decode cX10_readImage 97 = .ok (.iadd, 1) := yd_op_96 (i := 29) yd_by_cX10_readImage_2 rfl rfl
theorem dX10_readImage_98 : decode cX10_readImage 98 = .ok (.invokevirtual 88, 3) := yd_op_182 (i := 30) (a := 0) (b := 88) yd_by_cX10_readImage_2 rfl rfl
theorem dX10_readImage_101 : decode cX10_readImage 101 = .ok (.istore 7, 2) := yd_op_54 (i := 33) (a := 7) yd_by_cX10_readImage_2 rfl rfl
theorem dX10_readImage_103 : decode cX10_readImage 103 = .ok (.iload 5, 2) := yd_op_21 (i := 35) (a := 5) yd_by_cX10_readImage_2 rfl rfl
theorem dX10_readImage_105 : decode cX10_readImage 105 = .ok (.ifCond .eq 13, 3) := yd_op_153 (i := 37) (a := 0) (b := 13) yd_by_cX10_readImage_2 rfl rfl
set_option maxRecDepth 100000 in
theorem yd_by_cX10_readImage_3 : ydk cX10_readImage 108 [21, 7, 4, 163, 0, 7, 4, 167, 0, 4, 3, 54, 5, 42, 89, 180, 0, 31, 21, 7, 4, 126, 133, 21, 6, 121, 129, 181, 0, 31, 132, 6, 1, 167, 255, 199] = true := by decide +kernel
theorem dX10_readImage_108 : decode cX10_readImage 108 = .ok (.iload 7, 2) := yd_op_21 (i := 0) (a := 7) yd_by_cX10_readImage_3 rfl rfl
theorem dX10_readImage_110 : decode cX10_readImage 110 = .ok (.iconst 1, 1) := yd_op_4 (i := 2) yd_by_cX10_readImage_3 rfl rfl
theorem dX10_readImage_111 : decode cX10_readImage 111 = .ok (.if_icmp .gt 7, 3) := yd_op_163 (i := 3) (a := 0) (b := 7) yd_by_cX10_readImage_3 rfl rfl
theorem dX10_readImage_114 : decode cX10_readImage 114 = .ok (.iconst 1, 1) := yd_op_4 (i := 6) yd_by_cX10_readImage_3 rfl rfl
theorem dX10_readImage_115 : decode cX10_readImage 115 = .ok (.goto 4, 3) := yd_op_167 (i := 7) (a := 0) (b := 4) yd_by_cX10_readImage_3 rfl rfl
theorem dX10_readImage_118 : decode cX10_readImage 118 = .ok (.iconst 0, 1) := yd_op_3 (i := 10) yd_by_cX10_readImage_3 rfl rfl
theorem dX10_readImage_119 : decode cX10_readImage 119 = .ok (.istore 5, 2) := yd_op_54 (i := 11) (a := 5) yd_by_cX10_readImage_3 rfl rfl
theorem dX10_readImage_121 : decode cX10_readImage 121 = .ok (.aload_n 0, 1) := yd_op_42 (i := 13) yd_by_cX10_readImage_3 rfl rfl
theorem dX10_readImage_122 : decode cX10_readImage 122 = .ok (.dup, 1) := yd_op_89 (i := 14) yd_by_cX10_readImage_3 rfl rfl
theorem dX10_readImage_123 : decode cX10_readImage 123 = .ok (.getfield 31, 3) := yd_op_180 (i := 15) (a := 0) (b := 31) yd_by_cX10_readImage_3 rfl rfl
theorem dX10_readImage_126 : decode cX10_readImage 126 = .ok (.iload 7, 2) := yd_op_21 (i := 18) (a := 7) yd_by_cX10_readImage_3 rfl rfl
theorem dX10_readImage_128 : decode cX10_readImage 128 = .ok (.iconst 1, 1) := yd_op_4 (i := 20) yd_by_cX10_readImage_3 rfl rfl
theorem dX10_readImage_129 : decode cX10_readImage 129 = .ok (.iand, 1) := yd_op_126 (i := 21) yd_by_cX10_readImage_3 rfl rfl
theorem dX10_readImage_130 : decode cX10_readImage 130 = .ok (.i2l, 1) := yd_op_133 (i := 22) yd_by_cX10_readImage_3 rfl rfl
theorem dX10_readImage_131 : decode cX10_readImage 131 = .ok (.iload 6, 2) := yd_op_21 (i := 23) (a := 6) yd_by_cX10_readImage_3 rfl rfl
theorem dX10_readImage_133 : decode cX10_readImage 133 = .ok (.lshl, 1) := yd_op_121 (i := 25) yd_by_cX10_readImage_3 rfl rfl
theorem dX10_readImage_134 : decode cX10_readImage 134 = .ok (.lor, 1) := yd_op_129 (i := 26) yd_by_cX10_readImage_3 rfl rfl
theorem dX10_readImage_135 : decode cX10_readImage 135 = .ok (.putfield 31, 3) := yd_op_181 (i := 27) (a := 0) (b := 31) yd_by_cX10_readImage_3 rfl rfl
theorem dX10_readImage_138 : decode cX10_readImage 138 = .ok (.iinc 6 1, 3) := yd_op_132 (i := 30) (a := 6) (b := 1) yd_by_cX10_readImage_3 rfl rfl
theorem dX10_readImage_141 : decode cX10_readImage 141 = .ok (.goto (-57), 3) := yd_op_167 (i := 33) (a := 255) (b := 199) yd_by_cX10_readImage_3 rfl rfl
set_option maxRecDepth 100000 in
theorem yd_by_cX10_readImage_4 : ydk cX10_readImage 144 [3, 54, 6, 21, 6, 43, 180, 0, 38, 162, 0, 38, 21, 5, 153, 0, 24, 42, 43, 44, 21, 6, 29, 7, 21, 6, 104, 96, 182, 0, 97, 153, 0, 7, 4] = true := by decide +kernel
theorem dX10_readImage_144 : decode cX10_readImage 144 = .ok (.iconst 0, 1) := yd_op_3 (i := 0) yd_by_cX10_readImage_4 rfl rfl
theorem dX10_readImage_145 : decode cX10_readImage 145 = .ok (.istore 6, 2) := yd_op_54 (i := 1) (a := 6) yd_by_cX10_readImage_4 rfl rfl
theorem dX10_readImage_147 : decode cX10_readImage 147 = .ok (.iload 6, 2) := yd_op_21 (i := 3) (a := 6) yd_by_cX10_readImage_4 rfl rfl
theorem dX10_readImage_149 : decode cX10_readImage 149 = .ok (.aload_n 1, 1) := yd_op_43 (i := 5) yd_by_cX10_readImage_4 rfl rfl
theorem dX10_readImage_150 : decode cX10_readImage 150 = .ok (.getfield 38, 3) := yd_op_180 (i := 6) (a := 0) (b := 38) yd_by_cX10_readImage_4 rfl rfl
theorem dX10_readImage_153 : decode cX10_readImage 153 = .ok (.if_icmp .ge 38, 3) := yd_op_162 (i := 9) (a := 0) (b := 38) yd_by_cX10_readImage_4 rfl rfl
theorem dX10_readImage_156 : decode cX10_readImage 156 = .ok (.iload 5, 2) := yd_op_21 (i := 12) (a := 5) yd_by_cX10_readImage_4 rfl rfl
theorem dX10_readImage_158 : decode cX10_readImage 158 = .ok (.ifCond .eq 24, 3) := yd_op_153 (i := 14) (a := 0) (b := 24) yd_by_cX10_readImage_4 rfl rfl
theorem dX10_readImage_161 : decode cX10_readImage 161 = .ok (.aload_n 0, 1) := yd_op_42 (i := 17) yd_by_cX10_readImage_4 rfl rfl
theorem dX10_readImage_162 : decode cX10_readImage 162 = .ok (.aload_n 1, 1) := yd_op_43 (i := 18) yd_by_cX10_readImage_4 rfl rfl
theorem dX10_readImage_163 : decode cX10_readImage 163 = .ok (.aload_n 2, 1) := yd_op_44 (i := 19) yd_by_cX10_readImage_4 rfl rfl
theorem dX10_readImage_164 : decode cX10_readImage 164 = .ok (.iload 6, 2) := yd_op_21 (i := 20) (a := 6) yd_by_cX10_readImage_4 rfl rfl
theorem dX10_readImage_166 : decode cX10_readImage 166 = .ok (.iload_n 3, 1) := yd_op_29 (i := 22) yd_by_cX10_readImage_4 rfl rfl
theorem dX10_readImage_167 : decode cX10_readImage 167 = .ok (.iconst 4, 1) := yd_op_7 (i := 23) yd_by_cX10_readImage_4 rfl rfl
theorem dX10_readImage_168 : decode cX10_readImage 168 = .ok (.iload 6, 2) := yd_op_21 (i := 24) (a := 6) yd_by_cX10_readImage_4 rfl rfl
theorem dX10_readImage_170 : decode cX10_readImage 170 = .ok (.imul, 1) := yd_op_104 (i := 26) yd_by_cX10_readImage_4 rfl rfl
theorem dX10_readImage_171 : decode cX10_readImage 171 = .ok (.iadd, 1) := yd_op_96 (i := 27) yd_by_cX10_readImage_4 rfl rfl
theorem dX10_readImage_172 : decode cX10_readImage 172 = .ok (.invokevirtual 97, 3) := yd_op_182 (i := 28) (a := 0) (b := 97) yd_by_cX10_readImage_4 rfl rfl
theorem dX10_readImage_175 : decode cX10_readImage 175 = .ok (.ifCond .eq 7, 3) := yd_op_153 (i := 31) (a := 0) (b := 7) yd_by_cX10_readImage_4 rfl rfl
theorem dX10_readImage_178 : decode cX10_readImage 178 = .ok (.iconst 1, 1) := yd_op_4 (i := 34) yd_by_cX10_readImage_4 rfl rfl
set_option maxRecDepth 100000 in
theorem yd_by_cX10_readImage_5 : ydk cX10_readImage 179 [167, 0, 4, 3, 54, 5, 132, 6, 1, 167, 255, 215, 21, 5, 172] = true := by decide +kernel
theorem dX10_readImage_179 : decode cX10_readImage 179 = .ok (.goto 4, 3) := yd_op_167 (i := 0) (a := 0) (b := 4) yd_by_cX10_readImage_5 rfl rfl
theorem dX10_readImage_182 : decode cX10_readImage 182 = .ok (.iconst 0, 1) := yd_op_3 (i := 3) yd_by_cX10_readImage_5 rfl rfl
theorem dX10_readImage_183 : decode cX10_readImage 183 = .ok (.istore 5, 2) := yd_op_54 (i := 4) (a := 5) yd_by_cX10_readImage_5 rfl rfl
theorem dX10_readImage_185 : decode cX10_readImage 185 = .ok (.iinc 6 1, 3) := yd_op_132 (i := 6) (a := 6) (b := 1) yd_by_cX10_readImage_5 rfl rfl
theorem dX10_readImage_188 : decode cX10_readImage 188 = .ok (.goto (-41), 3) := yd_op_167 (i := 9) (a := 255) (b := 215) yd_by_cX10_readImage_5 rfl rfl
theorem dX10_readImage_191 : decode cX10_readImage 191 = .ok (.iload 5, 2) := yd_op_21 (i := 12) (a := 5) yd_by_cX10_readImage_5 rfl rfl
theorem dX10_readImage_193 : decode cX10_readImage 193 = .ok (.ireturn, 1) := yd_op_172 (i := 14) yd_by_cX10_readImage_5 rfl rfl
set_option maxRecDepth 100000 in
theorem yd_by_cX10_readPerson_0 : ydk cX10_readPerson 0 [42, 180, 0, 9, 29, 44, 21, 4, 182, 0, 88, 79, 42, 180, 0, 15, 29, 44, 21, 4, 4, 96, 182, 0, 88, 79, 42, 180, 0, 18, 29, 44] = true := by decide +kernel
theorem dX10_readPerson_0 : decode cX10_readPerson 0 = .ok (.aload_n 0, 1) := yd_op_42 (i := 0) yd_by_cX10_readPerson_0 rfl rfl
theorem dX10_readPerson_1 : decode cX10_readPerson 1 = .ok (.getfield 9, 3) := yd_op_180 (i := 1) (a := 0) (b := 9) yd_by_cX10_readPerson_0 rfl rfl
theorem dX10_readPerson_4 : decode cX10_readPerson 4 = .ok (.iload_n 3, 1) := yd_op_29 (i := 4) yd_by_cX10_readPerson_0 rfl rfl
theorem dX10_readPerson_5 : decode cX10_readPerson 5 = .ok (.aload_n 2, 1) := yd_op_44 (i := 5) yd_by_cX10_readPerson_0 rfl rfl
theorem dX10_readPerson_6 : decode cX10_readPerson 6 = .ok (.iload 4, 2) := yd_op_21 (i := 6) (a := 4) yd_by_cX10_readPerson_0 rfl rfl
theorem dX10_readPerson_8 : decode cX10_readPerson 8 = .ok (.invokevirtual 88, 3) := yd_op_182 (i := 8) (a := 0) (b := 88) yd_by_cX10_readPerson_0 rfl rfl
theorem dX10_readPerson_11 : decode cX10_readPerson 11 = .ok (.iastore, 1) := yd_op_79 (i := 11) yd_by_cX10_readPerson_0 rfl rfl
theorem dX10_readPerson_12 : decode cX10_readPerson 12 = .ok (.aload_n 0, 1) := yd_op_42 (i := 12) yd_by_cX10_readPerson_0 rfl rfl
theorem dX10_readPerson_13 : decode cX10_readPerson 13 = .ok (.getfield 15, 3) := yd_op_180 (i := 13) (a := 0) (b := 15) yd_by_cX10_readPerson_0 rfl rfl
theorem dX10_readPerson_16 : decode cX10_readPerson 16 = .ok (.iload_n 3, 1) := yd_op_29 (i := 16) yd_by_cX10_readPerson_0 rfl rfl
theorem dX10_readPerson_17 : decode cX10_readPerson 17 = .ok (.aload_n 2, 1) := yd_op_44 (i := 17) yd_by_cX10_readPerson_0 rfl rfl
theorem dX10_readPerson_18 : decode cX10_readPerson 18 = .ok (.iload 4, 2) := yd_op_21 (i := 18) (a := 4) yd_by_cX10_readPerson_0 rfl rfl
theorem dX10_readPerson_20 : decode cX10_readPerson 20 = .ok (.iconst 1, 1) := yd_op_4 (i := 20) yd_by_cX10_readPerson_0 rfl rfl
theorem dX10_readPerson_21 : decode cX10_readPerson 21 = .ok (.iadd, 1) := yd_op_96 (i := 21) yd_by_cX10_readPerson_0 rfl rfl
theorem dX10_readPerson_22 : decode cX10_readPerson 22 = .ok (.invokevirtual 88, 3) := yd_op_182 (i := 22) (a := 0) (b := 88) yd_by_cX10_readPerson_0 rfl rfl
theorem dX10_readPerson_25 : decode cX10_readPerson 25 = .ok (.iastore, 1) := yd_op_79 (i := 25) yd_by_cX10_readPerson_0 rfl rfl
theorem dX10_readPerson_26 : decode cX10_readPerson 26 = .ok (.aload_n 0, 1) := yd_op_42 (i := 26) yd_by_cX10_readPerson_0 rfl rfl
theorem dX10_readPerson_27 : decode cX10_readPerson 27 = .ok (.getfield 18, 3) := yd_op_180 (i := 27) (a := 0) (b := 18) yd_by_cX10_readPerson_0 rfl rfl
theorem dX10_readPerson_30 : decode cX10_readPerson 30 = .ok (.iload_n 3, 1) := yd_op_29 (i := 30) yd_by_cX10_readPerson_0 rfl rfl
theorem dX10_readPerson_31 : decode cX10_readPerson 31 = .ok (.aload_n 2, 1) := yd_op_44 (i := 31) yd_by_cX10_readPerson_0 rfl rfl
set_option maxRecDepth 100000 in
theorem yd_by_cX10_readPerson_1 : ydk cX10_readPerson 32 [21, 4, 5, 96, 182, 0, 88, 79, 44, 21, 4, 6, 96, 182, 0, 88, 54, 5, 42, 89, 180, 0, 35, 21, 5, 4, 126, 29, 120, 128] = true := by decide +kernel
theorem dX10_readPerson_32 : decode cX10_readPerson 32 = .ok (.iload 4, 2) := yd_op_21 (i := 0) (a := 4) yd_by_cX10_readPerson_1 rfl rfl
theorem dX10_readPerson_34 : decode cX10_readPerson 34 = .ok (.iconst 2, 1) := yd_op_5 (i := 2) yd_by_cX10_readPerson_1 rfl rfl
theorem dX10_readPerson_35 : decode cX10_readPerson 35 = .ok (.iadd, 1) := yd_op_96 (i := 3) yd_by_cX10_readPerson_1 rfl rfl
theorem dX10_readPerson_36 : decode cX10_readPerson 36 = .ok (.invokevirtual 88, 3) := yd_op_182 (i := 4) (a := 0) (b := 88) yd_by_cX10_readPerson_1 rfl rfl
theorem dX10_readPerson_39 : decode cX10_readPerson 39 = .ok (.iastore, 1) := yd_op_79 (i := 7) yd_by_cX10_readPerson_1 rfl rfl
theorem dX10_readPerson_40 : decode cX10_readPerson 40 = .ok (.aload_n 2, 1) := yd_op_44 (i := 8) yd_by_cX10_readPerson_1 rfl rfl
theorem dX10_readPerson_41 : decode cX10_readPerson 41 = .ok (.iload 4, 2) := yd_op_21 (i := 9) (a := 4) yd_by_cX10_readPerson_1 rfl rfl
theorem dX10_readPerson_43 : decode cX10_readPerson 43 = .ok (.iconst 3, 1) := yd_op_6 (i := 11) yd_by_cX10_readPerson_1 rfl rfl
theorem dX10_readPerson_44 : decode cX10_readPerson 44 = .ok (.iadd, 1) := yd_op_96 (i := 12) yd_by_cX10_readPerson_1 rfl rfl
theorem dX10_readPerson_45 : decode cX10_readPerson 45 = .ok (.invokevirtual 88, 3) := yd_op_182 (i := 13) (a := 0) (b := 88) yd_by_cX10_readPerson_1 rfl rfl
theorem dX10_readPerson_48 : decode cX10_readPerson 48 = .ok (.istore 5, 2) := yd_op_54 (i := 16) (a := 5) yd_by_cX10_readPerson_1 rfl rfl
theorem dX10_readPerson_50 : decode cX10_readPerson 50 = .ok (.aload_n 0, 1) := yd_op_42 (i := 18) yd_by_cX10_readPerson_1 rfl rfl
theorem dX10_readPerson_51 : decode cX10_readPerson 51 = .ok (.dup, 1) := yd_op_89 (i := 19) yd_by_cX10_readPerson_1 rfl rfl
theorem dX10_readPerson_52 : decode cX10_readPerson 52 = .ok (.getfield 35, 3) := yd_op_180 (i := 20) (a := 0) (b := 35) yd_by_cX10_readPerson_1 rfl rfl
theorem dX10_readPerson_55 : decode cX10_readPerson 55 = .ok (.iload 5, 2) := yd_op_21 (i := 23) (a := 5) yd_by_cX10_readPerson_1 rfl rfl
theorem dX10_readPerson_57 : decode cX10_readPerson 57 = .ok (.iconst 1, 1) := yd_op_4 (i := 25) yd_by_cX10_readPerson_1 rfl rfl
theorem dX10_readPerson_58 : decode cX10_readPerson 58 = .ok (.iand, 1) := yd_op_126 (i := 26) yd_by_cX10_readPerson_1 rfl rfl
theorem dX10_readPerson_59 : decode cX10_readPerson 59 = .ok (.iload_n 3, 1) := yd_op_29 (i := 27) yd_by_cX10_readPerson_1 rfl rfl
theorem dX10_readPerson_60 : decode cX10_readPerson 60 = .ok (.ishl, 1) := yd_op_120 (i := 28) yd_by_cX10_readPerson_1 rfl rfl
theorem dX10_readPerson_61 : decode cX10_readPerson 61 = .ok (.ior, 1) := yd_op_128 (i := 29) yd_by_cX10_readPerson_1 rfl rfl
set_option maxRecDepth 100000 in
theorem yd_by_cX10_readPerson_2 : ydk cX10_readPerson 62 [181, 0, 35, 3, 54, 6, 21, 6, 29, 162, 0, 32, 42, 21, 6, 42, 180, 0, 9, 29, 46, 42, 180, 0, 15, 29, 46, 182, 0, 101, 154, 0, 5, 3, 172] = true := by decide +kernel
theorem dX10_readPerson_62 : decode cX10_readPerson 62 = .ok (.putfield 35, 3) := yd_op_181 (i := 0) (a := 0) (b := 35) yd_by_cX10_readPerson_2 rfl rfl
theorem dX10_readPerson_65 : decode cX10_readPerson 65 = .ok (.iconst 0, 1) := yd_op_3 (i := 3) yd_by_cX10_readPerson_2 rfl rfl
theorem dX10_readPerson_66 : decode cX10_readPerson 66 = .ok (.istore 6, 2) := yd_op_54 (i := 4) (a := 6) yd_by_cX10_readPerson_2 rfl rfl
theorem dX10_readPerson_68 : decode cX10_readPerson 68 = .ok (.iload 6, 2) := yd_op_21 (i := 6) (a := 6) yd_by_cX10_readPerson_2 rfl rfl
theorem dX10_readPerson_70 : decode cX10_readPerson 70 = .ok (.iload_n 3, 1) := yd_op_29 (i := 8) yd_by_cX10_readPerson_2 rfl rfl
theorem dX10_readPerson_71 : decode cX10_readPerson 71 = .ok (.if_icmp .ge 32, 3) := yd_op_162 (i := 9) (a := 0) (b := 32) yd_by_cX10_readPerson_2 rfl rfl
theorem dX10_readPerson_74 : decode cX10_readPerson 74 = .ok (.aload_n 0, 1) := yd_op_42 (i := 12) yd_by_cX10_readPerson_2 rfl rfl
theorem dX10_readPerson_75 : decode cX10_readPerson 75 = .ok (.iload 6, 2) := yd_op_21 (i := 13) (a := 6) yd_by_cX10_readPerson_2 rfl rfl
theorem dX10_readPerson_77 : decode cX10_readPerson 77 = .ok (.aload_n 0, 1) := yd_op_42 (i := 15) yd_by_cX10_readPerson_2 rfl rfl
theorem dX10_readPerson_78 : decode cX10_readPerson 78 = .ok (.getfield 9, 3) := yd_op_180 (i := 16) (a := 0) (b := 9) yd_by_cX10_readPerson_2 rfl rfl
theorem dX10_readPerson_81 : decode cX10_readPerson 81 = .ok (.iload_n 3, 1) := yd_op_29 (i := 19) yd_by_cX10_readPerson_2 rfl rfl
theorem dX10_readPerson_82 : decode cX10_readPerson 82 = .ok (.iaload, 1) := yd_op_46 (i := 20) yd_by_cX10_readPerson_2 rfl rfl
theorem dX10_readPerson_83 : decode cX10_readPerson 83 = .ok (.aload_n 0, 1) := yd_op_42 (i := 21) yd_by_cX10_readPerson_2 rfl rfl
theorem dX10_readPerson_84 : decode cX10_readPerson 84 = .ok (.getfield 15, 3) := yd_op_180 (i := 22) (a := 0) (b := 15) yd_by_cX10_readPerson_2 rfl rfl
theorem dX10_readPerson_87 : decode cX10_readPerson 87 = .ok (.iload_n 3, 1) := yd_op_29 (i := 25) yd_by_cX10_readPerson_2 rfl rfl
theorem dX10_readPerson_88 : decode cX10_readPerson 88 = .ok (.iaload, 1) := yd_op_46 (i := 26) yd_by_cX10_readPerson_2 rfl rfl
theorem dX10_readPerson_89 : decode cX10_readPerson 89 = .ok (.invokevirtual 101, 3) := yd_op_182 (i := 27) (a := 0) (b := 101) yd_by_cX10_readPerson_2 rfl rfl
theorem dX10_readPerson_92 : decode cX10_readPerson 92 = .ok (.ifCond .ne 5, 3) := yd_op_154 (i := 30) (a := 0) (b := 5) yd_by_cX10_readPerson_2 rfl rfl
theorem dX10_readPerson_95 : decode cX10_readPerson 95 = .ok (.iconst 0, 1) := yd_op_3 (i := 33) yd_by_cX10_readPerson_2 rfl rfl
theorem dX10_readPerson_96 : decode cX10_readPerson 96 = .ok (.ireturn, 1) := yd_op_172 (i := 34) yd_by_cX10_readPerson_2 rfl rfl
set_option maxRecDepth 100000 in
theorem yd_by_cX10_readPerson_3 : ydk cX10_readPerson 97 [132, 6, 1, 167, 255, 224, 43, 42, 180, 0, 9, 29, 46, 42, 180, 0, 15, 29, 46, 182, 0, 105, 153, 0, 24, 42, 180, 0, 18, 29, 46, 16, 99, 163, 0, 13, 21, 5] = true := by decide +kernel
theorem dX10_readPerson_97 : decode cX10_readPerson 97 = .ok (.iinc 6 1, 3) := yd_op_132 (i := 0) (a := 6) (b := 1) yd_by_cX10_readPerson_3 rfl rfl
theorem dX10_readPerson_100 : decode cX10_readPerson 100 = .ok (.goto (-32), 3) := yd_op_167 (i := 3) (a := 255) (b := 224) yd_by_cX10_readPerson_3 rfl rfl
theorem dX10_readPerson_103 : decode cX10_readPerson 103 = .ok (.aload_n 1, 1) := yd_op_43 (i := 6) yd_by_cX10_readPerson_3 rfl rfl
theorem dX10_readPerson_104 : decode cX10_readPerson 104 = .ok (.aload_n 0, 1) := yd_op_42 (i := 7) yd_by_cX10_readPerson_3 rfl rfl
theorem dX10_readPerson_105 : decode cX10_readPerson 105 = .ok (.getfield 9, 3) := yd_op_180 (i := 8) (a := 0) (b := 9) yd_by_cX10_readPerson_3 rfl rfl
theorem dX10_readPerson_108 : decode cX10_readPerson 108 = .ok (.iload_n 3, 1) := yd_op_29 (i := 11) yd_by_cX10_readPerson_3 rfl rfl
theorem dX10_readPerson_109 : decode cX10_readPerson 109 = .ok (.iaload, 1) := yd_op_46 (i := 12) yd_by_cX10_readPerson_3 rfl rfl
theorem dX10_readPerson_110 : decode cX10_readPerson 110 = .ok (.aload_n 0, 1) := yd_op_42 (i := 13) yd_by_cX10_readPerson_3 rfl rfl
theorem dX10_readPerson_111 : decode cX10_readPerson 111 = .ok (.getfield 15, 3) := yd_op_180 (i := 14) (a := 0) (b := 15) yd_by_cX10_readPerson_3 rfl rfl
theorem dX10_readPerson_114 : decode cX10_readPerson 114 = .ok (.iload_n 3, 1) := yd_op_29 (i := 17) yd_by_cX10_readPerson_3 rfl rfl
theorem dX10_readPerson_115 : decode cX10_readPerson 115 = .ok (.iaload, 1) := yd_op_46 (i := 18) yd_by_cX10_readPerson_3 rfl rfl
theorem dX10_readPerson_116 : decode cX10_readPerson 116 = .ok (.invokevirtual 105, 3) := yd_op_182 (i := 19) (a := 0) (b := 105) yd_by_cX10_readPerson_3 rfl rfl
theorem dX10_readPerson_119 : decode cX10_readPerson 119 = .ok (.ifCond .eq 24, 3) := yd_op_153 (i := 22) (a := 0) (b := 24) yd_by_cX10_readPerson_3 rfl rfl
theorem dX10_readPerson_122 : decode cX10_readPerson 122 = .ok (.aload_n 0, 1) := yd_op_42 (i := 25) yd_by_cX10_readPerson_3 rfl rfl
theorem dX10_readPerson_123 : decode cX10_readPerson 123 = .ok (.getfield 18, 3) := yd_op_180 (i := 26) (a := 0) (b := 18) yd_by_cX10_readPerson_3 rfl rfl
theorem dX10_readPerson_126 : decode cX10_readPerson 126 = .ok (.iload_n 3, 1) := yd_op_29 (i := 29) yd_by_cX10_readPerson_3 rfl rfl
theorem dX10_readPerson_127 : decode cX10_readPerson 127 = .ok (.iaload, 1) := yd_op_46 (i := 30) yd_by_cX10_readPerson_3 rfl rfl
theorem dX10_readPerson_128 : decode cX10_readPerson 128 = .ok (.bipush 99, 2) := yd_op_16 (i := 31) (a := 99) yd_by_cX10_readPerson_3 rfl rfl
theorem dX10_readPerson_130 : decode cX10_readPerson 130 = .ok (.if_icmp .gt 13, 3) := yd_op_163 (i := 33) (a := 0) (b := 13) yd_by_cX10_readPerson_3 rfl rfl
theorem dX10_readPerson_133 : decode cX10_readPerson 133 = .ok (.iload 5, 2) := yd_op_21 (i := 36) (a := 5) yd_by_cX10_readPerson_3 rfl rfl
set_option maxRecDepth 100000 in
theorem yd_by_cX10_readPerson_4 : ydk cX10_readPerson 135 [4, 163, 0, 7, 4, 167, 0, 4, 3, 172] = true := by decide +kernel
theorem dX10_readPerson_135 : decode cX10_readPerson 135 = .ok (.iconst 1, 1) := yd_op_4 (i := 0) yd_by_cX10_readPerson_4 rfl rfl
theorem dX10_readPerson_136 : decode cX10_readPerson 136 = .ok (.if_icmp .gt 7, 3) := yd_op_163 (i := 1) (a := 0) (b := 7) yd_by_cX10_readPerson_4 rfl rfl
theorem dX10_readPerson_139 : decode cX10_readPerson 139 = .ok (.iconst 1, 1) := yd_op_4 (i := 4) yd_by_cX10_readPerson_4 rfl rfl
theorem dX10_readPerson_140 : decode cX10_readPerson 140 = .ok (.goto 4, 3) := yd_op_167 (i := 5) (a := 0) (b := 4) yd_by_cX10_readPerson_4 rfl rfl
theorem dX10_readPerson_143 : decode cX10_readPerson 143 = .ok (.iconst 0, 1) := yd_op_3 (i := 8) yd_by_cX10_readPerson_4 rfl rfl
theorem dX10_readPerson_144 : decode cX10_readPerson 144 = .ok (.ireturn, 1) := yd_op_172 (i := 9) yd_by_cX10_readPerson_4 rfl rfl
set_option maxRecDepth 100000 in
theorem yd_by_cX11_init_0 : ydk cX11_init 0 [42, 183, 0, 1, 42, 187, 0, 7, 89, 17, 6, 64, 183, 0, 11, 181, 0, 14, 42, 187, 0, 7, 89, 16, 80, 183, 0, 11, 181, 0, 18, 42, 187, 0, 21, 89, 183, 0, 23, 181, 0, 24, 42] = true := by decide +kernel
theorem dX11_init_0 : decode cX11_init 0 = .ok (.aload_n 0, 1) := yd_op_42 (i := 0) yd_by_cX11_init_0 rfl rfl
theorem dX11_init_1 : decode cX11_init 1 = .ok (.invokespecial 1, 3) := yd_op_183 (i := 1) (a := 0) (b := 1) yd_by_cX11_init_0 rfl rfl
theorem dX11_init_4 : decode cX11_init 4 = .ok (.aload_n 0, 1) := yd_op_42 (i := 4) yd_by_cX11_init_0 rfl rfl
theorem dX11_init_5 : decode cX11_init 5 = .ok (.new 7, 3) := yd_op_187 (i := 5) (a := 0) (b := 7) yd_by_cX11_init_0 rfl rfl
theorem dX11_init_8 : decode cX11_init 8 = .ok (.dup, 1) := yd_op_89 (i := 8) yd_by_cX11_init_0 rfl rfl
theorem dX11_init_9 : decode cX11_init 9 = .ok (.sipush 1600, 3) := yd_op_17 (i := 9) (a := 6) (b := 64) yd_by_cX11_init_0 rfl rfl
theorem dX11_init_12 : decode cX11_init 12 = .ok (.invokespecial 11, 3) := yd_op_183 (i := 12) (a := 0) (b := 11) yd_by_cX11_init_0 rfl rfl
theorem dX11_init_15 : decode cX11_init 15 = .ok (.putfield 14, 3) := yd_op_181 (i := 15) (a := 0) (b := 14) yd_by_cX11_init_0 rfl rfl
theorem dX11_init_18 : decode cX11_init 18 = .ok (.aload_n 0, 1) := yd_op_42 (i := 18) yd_by_cX11_init_0 rfl rfl
theorem dX11_init_19 : decode cX11_init 19 = .ok (.new 7, 3) := yd_op_187 (i := 19) (a := 0) (b := 7) yd_by_cX11_init_0 rfl rfl
theorem dX11_init_22 : decode cX11_init 22 = .ok (.dup, 1) := yd_op_89 (i := 22) yd_by_cX11_init_0 rfl rfl
theorem dX11_init_23 : decode cX11_init 23 = .ok (.bipush 80, 2) := yd_op_16 (i := 23) (a := 80) yd_by_cX11_init_0 rfl rfl
theorem dX11_init_25 : decode cX11_init 25 = .ok (.invokespecial 11, 3) := yd_op_183 (i := 25) (a := 0) (b := 11) yd_by_cX11_init_0 rfl rfl
theorem dX11_init_28 : decode cX11_init 28 = .ok (.putfield 18, 3) := yd_op_181 (i := 28) (a := 0) (b := 18) yd_by_cX11_init_0 rfl rfl
theorem dX11_init_31 : decode cX11_init 31 = .ok (.aload_n 0, 1) := yd_op_42 (i := 31) yd_by_cX11_init_0 rfl rfl
theorem dX11_init_32 : decode cX11_init 32 = .ok (.new 21, 3) := yd_op_187 (i := 32) (a := 0) (b := 21) yd_by_cX11_init_0 rfl rfl
theorem dX11_init_35 : decode cX11_init 35 = .ok (.dup, 1) := yd_op_89 (i := 35) yd_by_cX11_init_0 rfl rfl
theorem dX11_init_36 : decode cX11_init 36 = .ok (.invokespecial 23, 3) := yd_op_183 (i := 36) (a := 0) (b := 23) yd_by_cX11_init_0 rfl rfl
theorem dX11_init_39 : decode cX11_init 39 = .ok (.putfield 24, 3) := yd_op_181 (i := 39) (a := 0) (b := 24) yd_by_cX11_init_0 rfl rfl
theorem dX11_init_42 : decode cX11_init 42 = .ok (.aload_n 0, 1) := yd_op_42 (i := 42) yd_by_cX11_init_0 rfl rfl
set_option maxRecDepth 100000 in
theorem yd_by_cX11_init_1 : ydk cX11_init 43 [187, 0, 28, 89, 183, 0, 30, 181, 0, 31, 42, 187, 0, 28, 89, 183, 0, 30, 181, 0, 35, 42, 187, 0, 38, 89, 183, 0, 40, 181, 0, 41, 42, 187, 0, 45, 89, 42, 180, 0, 41, 42] = true := by decide +kernel
theorem dX11_init_43 : decode cX11_init 43 = .ok (.new 28, 3) := yd_op_187 (i := 0) (a := 0) (b := 28) yd_by_cX11_init_1 rfl rfl
theorem dX11_init_46 : decode cX11_init 46 = .ok (.dup, 1) := yd_op_89 (i := 3) yd_by_cX11_init_1 rfl rfl
theorem dX11_init_47 : decode cX11_init 47 = .ok (.invokespecial 30, 3) := yd_op_183 (i := 4) (a := 0) (b := 30) yd_by_cX11_init_1 rfl rfl
theorem dX11_init_50 : decode cX11_init 50 = .ok (.putfield 31, 3) := yd_op_181 (i := 7) (a := 0) (b := 31) yd_by_cX11_init_1 rfl rfl
theorem dX11_init_53 : decode cX11_init 53 = .ok (.aload_n 0, 1) := yd_op_42 (i := 10) yd_by_cX11_init_1 rfl rfl
theorem dX11_init_54 : decode cX11_init 54 = .ok (.new 28, 3) := yd_op_187 (i := 11) (a := 0) (b := 28) yd_by_cX11_init_1 rfl rfl
theorem dX11_init_57 : decode cX11_init 57 = .ok (.dup, 1) := yd_op_89 (i := 14) yd_by_cX11_init_1 rfl rfl
theorem dX11_init_58 : decode cX11_init 58 = .ok (.invokespecial 30, 3) := yd_op_183 (i := 15) (a := 0) (b := 30) yd_by_cX11_init_1 rfl rfl
theorem dX11_init_61 : decode cX11_init 61 = .ok (.putfield 35, 3) := yd_op_181 (i := 18) (a := 0) (b := 35) yd_by_cX11_init_1 rfl rfl
theorem dX11_init_64 : decode cX11_init 64 = .ok (.aload_n 0, 1) := yd_op_42 (i := 21) yd_by_cX11_init_1 rfl rfl
theorem dX11_init_65 : decode cX11_init 65 = .ok (.new 38, 3) := yd_op_187 (i := 22) (a := 0) (b := 38) yd_by_cX11_init_1 rfl rfl
theorem dX11_init_68 : decode cX11_init 68 = .ok (.dup, 1) := yd_op_89 (i := 25) yd_by_cX11_init_1 rfl rfl
theorem dX11_init_69 : decode cX11_init 69 = .ok (.invokespecial 40, 3) := yd_op_183 (i := 26) (a := 0) (b := 40) yd_by_cX11_init_1 rfl rfl
theorem dX11_init_72 : decode cX11_init 72 = .ok (.putfield 41, 3) := yd_op_181 (i := 29) (a := 0) (b := 41) yd_by_cX11_init_1 rfl rfl
theorem dX11_init_75 : decode cX11_init 75 = .ok (.aload_n 0, 1) := yd_op_42 (i := 32) yd_by_cX11_init_1 rfl rfl
theorem dX11_init_76 : decode cX11_init 76 = .ok (.new 45, 3) := yd_op_187 (i := 33) (a := 0) (b := 45) yd_by_cX11_init_1 rfl rfl
theorem dX11_init_79 : decode cX11_init 79 = .ok (.dup, 1) := yd_op_89 (i := 36) yd_by_cX11_init_1 rfl rfl
theorem dX11_init_80 : decode cX11_init 80 = .ok (.aload_n 0, 1) := yd_op_42 (i := 37) yd_by_cX11_init_1 rfl rfl
theorem dX11_init_81 : decode cX11_init 81 = .ok (.getfield 41, 3) := yd_op_180 (i := 38) (a := 0) (b := 41) yd_by_cX11_init_1 rfl rfl
theorem dX11_init_84 : decode cX11_init 84 = .ok (.aload_n 0, 1) := yd_op_42 (i := 41) yd_by_cX11_init_1 rfl rfl
set_option maxRecDepth 100000 in
theorem yd_by_cX11_init_2 : ydk cX11_init 85 [180, 0, 24, 183, 0, 47, 181, 0, 50, 42, 187, 0, 54, 89, 42, 180, 0, 41, 42, 180, 0, 50, 42, 180, 0, 35, 183, 0, 56, 181, 0, 59, 42, 187, 0, 63, 89, 183, 0, 65, 181, 0, 66, 42] = true := by decide +kernel
theorem dX11_init_85 : decode cX11_init 85 = .ok (.getfield 24, 3) := yd_op_180 (i := 0) (a := 0) (b := 24) yd_by_cX11_init_2 rfl rfl
theorem dX11_init_88 : decode cX11_init 88 = .ok (.invokespecial 47, 3) := yd_op_183 (i := 3) (a := 0) (b := 47) yd_by_cX11_init_2 rfl rfl
theorem dX11_init_91 : decode cX11_init 91 = .ok (.putfield 50, 3) := yd_op_181 (i := 6) (a := 0) (b := 50) yd_by_cX11_init_2 rfl rfl
theorem dX11_init_94 : decode cX11_init 94 = .ok (.aload_n 0, 1) := yd_op_42 (i := 9) yd_by_cX11_init_2 rfl rfl
theorem dX11_init_95 : decode cX11_init 95 = .ok (.new 54, 3) := yd_op_187 (i := 10) (a := 0) (b := 54) yd_by_cX11_init_2 rfl rfl
theorem dX11_init_98 : decode cX11_init 98 = .ok (.dup, 1) := yd_op_89 (i := 13) yd_by_cX11_init_2 rfl rfl
theorem dX11_init_99 : decode cX11_init 99 = .ok (.aload_n 0, 1) := yd_op_42 (i := 14) yd_by_cX11_init_2 rfl rfl
theorem dX11_init_100 : decode cX11_init 100 = .ok (.getfield 41, 3) := yd_op_180 (i := 15) (a := 0) (b := 41) yd_by_cX11_init_2 rfl rfl
theorem dX11_init_103 : decode cX11_init 103 = .ok (.aload_n 0, 1) := yd_op_42 (i := 18) yd_by_cX11_init_2 rfl rfl
theorem dX11_init_104 : decode cX11_init 104 = .ok (.getfield 50, 3) := yd_op_180 (i := 19) (a := 0) (b := 50) yd_by_cX11_init_2 rfl rfl
theorem dX11_init_107 : decode cX11_init 107 = .ok (.aload_n 0, 1) := yd_op_42 (i := 22) yd_by_cX11_init_2 rfl rfl
theorem dX11_init_108 : decode cX11_init 108 = .ok (.getfield 35, 3) := yd_op_180 (i := 23) (a := 0) (b := 35) yd_by_cX11_init_2 rfl rfl
theorem dX11_init_111 : decode cX11_init 111 = .ok (.invokespecial 56, 3) := yd_op_183 (i := 26) (a := 0) (b := 56) yd_by_cX11_init_2 rfl rfl
theorem dX11_init_114 : decode cX11_init 114 = .ok (.putfield 59, 3) := yd_op_181 (i := 29) (a := 0) (b := 59) yd_by_cX11_init_2 rfl rfl
theorem dX11_init_117 : decode cX11_init 117 = .ok (.aload_n 0, 1) := yd_op_42 (i := 32) yd_by_cX11_init_2 rfl rfl
theorem dX11_init_118 : decode cX11_init 118 = .ok (.new 63, 3) := yd_op_187 (i := 33) (a := 0) (b := 63) yd_by_cX11_init_2 rfl rfl
theorem dX11_init_121 : decode cX11_init 121 = .ok (.dup, 1) := yd_op_89 (i := 36) yd_by_cX11_init_2 rfl rfl
theorem dX11_init_122 : decode cX11_init 122 = .ok (.invokespecial 65, 3) := yd_op_183 (i := 37) (a := 0) (b := 65) yd_by_cX11_init_2 rfl rfl
theorem dX11_init_125 : decode cX11_init 125 = .ok (.putfield 66, 3) := yd_op_181 (i := 40) (a := 0) (b := 66) yd_by_cX11_init_2 rfl rfl
theorem dX11_init_128 : decode cX11_init 128 = .ok (.aload_n 0, 1) := yd_op_42 (i := 43) yd_by_cX11_init_2 rfl rfl
set_option maxRecDepth 100000 in
theorem yd_by_cX11_init_3 : ydk cX11_init 129 [187, 0, 63, 89, 183, 0, 65, 181, 0, 70, 42, 187, 0, 73, 89, 183, 0, 75, 181, 0, 76, 42, 187, 0, 80, 89, 183, 0, 82, 181, 0, 83, 42, 187, 0, 87, 89, 42, 180, 0, 31, 42] = true := by decide +kernel
theorem dX11_init_129 : decode cX11_init 129 = .ok (.new 63, 3) := yd_op_187 (i := 0) (a := 0) (b := 63) yd_by_cX11_init_3 rfl rfl
theorem dX11_init_132 : decode cX11_init 132 = .ok (.dup, 1) := yd_op_89 (i := 3) yd_by_cX11_init_3 rfl rfl
theorem dX11_init_133 : decode cX11_init 133 = .ok (.invokespecial 65, 3) := yd_op_183 (i := 4) (a := 0) (b := 65) yd_by_cX11_init_3 rfl rfl
theorem dX11_init_136 : decode cX11_init 136 = .ok (.putfield 70, 3) := yd_op_181 (i := 7) (a := 0) (b := 70) yd_by_cX11_init_3 rfl rfl
theorem dX11_init_139 : decode cX11_init 139 = .ok (.aload_n 0, 1) := yd_op_42 (i := 10) yd_by_cX11_init_3 rfl rfl
theorem dX11_init_140 : decode cX11_init 140 = .ok (.new 73, 3) := yd_op_187 (i := 11) (a := 0) (b := 73) yd_by_cX11_init_3 rfl rfl
theorem dX11_init_143 : decode cX11_init 143 = .ok (.dup, 1) := yd_op_89 (i := 14) yd_by_cX11_init_3 rfl rfl
theorem dX11_init_144 : decode cX11_init 144 = .ok (.invokespecial 75, 3) := yd_op_183 (i := 15) (a := 0) (b := 75) yd_by_cX11_init_3 rfl rfl
theorem dX11_init_147 : decode cX11_init 147 = .ok (.putfield 76, 3) := yd_op_181 (i := 18) (a := 0) (b := 76) yd_by_cX11_init_3 rfl rfl
theorem dX11_init_150 : decode cX11_init 150 = .ok (.aload_n 0, 1) := yd_op_42 (i := 21) yd_by_cX11_init_3 rfl rfl
theorem dX11_init_151 : decode cX11_init 151 = .ok (.new 80, 3) := yd_op_187 (i := 22) (a := 0) (b := 80) yd_by_cX11_init_3 rfl rfl
theorem dX11_init_154 : decode cX11_init 154 = .ok (.dup, 1) := yd_op_89 (i := 25) yd_by_cX11_init_3 rfl rfl
theorem dX11_init_155 : decode cX11_init 155 = .ok (.invokespecial 82, 3) := yd_op_183 (i := 26) (a := 0) (b := 82) yd_by_cX11_init_3 rfl rfl
theorem dX11_init_158 : decode cX11_init 158 = .ok (.putfield 83, 3) := yd_op_181 (i := 29) (a := 0) (b := 83) yd_by_cX11_init_3 rfl rfl
theorem dX11_init_161 : decode cX11_init 161 = .ok (.aload_n 0, 1) := yd_op_42 (i := 32) yd_by_cX11_init_3 rfl rfl
theorem dX11_init_162 : decode cX11_init 162 = .ok (.new 87, 3) := yd_op_187 (i := 33) (a := 0) (b := 87) yd_by_cX11_init_3 rfl rfl
theorem dX11_init_165 : decode cX11_init 165 = .ok (.dup, 1) := yd_op_89 (i := 36) yd_by_cX11_init_3 rfl rfl
theorem dX11_init_166 : decode cX11_init 166 = .ok (.aload_n 0, 1) := yd_op_42 (i := 37) yd_by_cX11_init_3 rfl rfl
theorem dX11_init_167 : decode cX11_init 167 = .ok (.getfield 31, 3) := yd_op_180 (i := 38) (a := 0) (b := 31) yd_by_cX11_init_3 rfl rfl
theorem dX11_init_170 : decode cX11_init 170 = .ok (.aload_n 0, 1) := yd_op_42 (i := 41) yd_by_cX11_init_3 rfl rfl
set_option maxRecDepth 100000 in
theorem yd_by_cX11_init_4 : ydk cX11_init 171 [180, 0, 66, 183, 0, 89, 181, 0, 92, 42, 16, 6, 188, 10, 181, 0, 96, 42, 4, 181, 0, 100, 42, 3, 181, 0, 104, 42, 2, 181, 0, 107, 177] = true := by decide +kernel
theorem dX11_init_171 : decode cX11_init 171 = .ok (.getfield 66, 3) := yd_op_180 (i := 0) (a := 0) (b := 66) yd_by_cX11_init_4 rfl rfl
theorem dX11_init_174 : decode cX11_init 174 = .ok (.invokespecial 89, 3) := yd_op_183 (i := 3) (a := 0) (b := 89) yd_by_cX11_init_4 rfl rfl
theorem dX11_init_177 : decode cX11_init 177 = .ok (.putfield 92, 3) := yd_op_181 (i := 6) (a := 0) (b := 92) yd_by_cX11_init_4 rfl rfl
theorem dX11_init_180 : decode cX11_init 180 = .ok (.aload_n 0, 1) := yd_op_42 (i := 9) yd_by_cX11_init_4 rfl rfl
theorem dX11_init_181 : decode cX11_init 181 = .ok (.bipush 6, 2) := yd_op_16 (i := 10) (a := 6) yd_by_cX11_init_4 rfl rfl
theorem dX11_init_183 : decode cX11_init 183 = .ok (.newarray .int, 2) := yd_op_188_10 (i := 12) yd_by_cX11_init_4 rfl rfl
theorem dX11_init_185 : decode cX11_init 185 = .ok (.putfield 96, 3) := yd_op_181 (i := 14) (a := 0) (b := 96) yd_by_cX11_init_4 rfl rfl
theorem dX11_init_188 : decode cX11_init 188 = .ok (.aload_n 0, 1) := yd_op_42 (i := 17) yd_by_cX11_init_4 rfl rfl
theorem dX11_init_189 : decode cX11_init 189 = .ok (.iconst 1, 1) := yd_op_4 (i := 18) yd_by_cX11_init_4 rfl rfl
theorem dX11_init_190 : decode cX11_init 190 = .ok (.putfield 100, 3) := yd_op_181 (i := 19) (a := 0) (b := 100) yd_by_cX11_init_4 rfl rfl
theorem dX11_init_193 : decode cX11_init 193 = .ok (.aload_n 0, 1) := yd_op_42 (i := 22) yd_by_cX11_init_4 rfl rfl
theorem dX11_init_194 : decode cX11_init 194 = .ok (.iconst 0, 1) := yd_op_3 (i := 23) yd_by_cX11_init_4 rfl rfl
theorem dX11_init_195 : decode cX11_init 195 = .ok (.putfield 104, 3) := yd_op_181 (i := 24) (a := 0) (b := 104) yd_by_cX11_init_4 rfl rfl
theorem dX11_init_198 : decode cX11_init 198 = .ok (.aload_n 0, 1) := yd_op_42 (i := 27) yd_by_cX11_init_4 rfl rfl
theorem dX11_init_199 : decode cX11_init 199 = .ok (.iconst (-1), 1) := yd_op_2 (i := 28) yd_by_cX11_init_4 rfl rfl
theorem dX11_init_200 : decode cX11_init 200 = .ok (.putfield 107, 3) := yd_op_181 (i := 29) (a := 0) (b := 107) yd_by_cX11_init_4 rfl rfl
theorem dX11_init_203 : decode cX11_init 203 = .ok (.return_, 1) := yd_op_177 (i := 32) yd_by_cX11_init_4 rfl rfl
set_option maxRecDepth 100000 in
theorem yd_by_cX11_feed_0 : ydk cX11_feed 0 [42, 180, 0, 14, 180, 0, 110, 16, 20, 96, 17, 6, 64, 164, 0, 9, 42, 3, 182, 0, 113, 172, 42, 180, 0, 14, 27, 182, 0, 117, 42, 180, 0, 14, 28, 182, 0, 117, 42] = true := by decide +kernel
theorem dX11_feed_0 : decode cX11_feed 0 = .ok (.aload_n 0, 1) := yd_op_42 (i := 0) yd_by_cX11_feed_0 rfl rfl
theorem dX11_feed_1 : decode cX11_feed 1 = .ok (.getfield 14, 3) := yd_op_180 (i := 1) (a := 0) (b := 14) yd_by_cX11_feed_0 rfl rfl
theorem dX11_feed_4 : decode cX11_feed 4 = .ok (.getfield 110, 3) := yd_op_180 (i := 4) (a := 0) (b := 110) yd_by_cX11_feed_0 rfl rfl
theorem dX11_feed_7 : decode cX11_feed 7 = .ok (.bipush 20, 2) := yd_op_16 (i := 7) (a := 20) yd_by_cX11_feed_0 rfl rfl
theorem dX11_feed_9 : decode cX11_feed 9 = .ok (.iadd, 1) := yd_op_96 (i := 9) yd_by_cX11_feed_0 rfl rfl
theorem dX11_feed_10 : decode cX11_feed 10 = .ok (.sipush 1600, 3) := yd_op_17 (i := 10) (a := 6) (b := 64) yd_by_cX11_feed_0 rfl rfl
theorem dX11_feed_13 : decode cX11_feed 13 = .ok (.if_icmp .le 9, 3) := yd_op_164 (i := 13) (a := 0) (b := 9) yd_by_cX11_feed_0 rfl rfl
theorem dX11_feed_16 : decode cX11_feed 16 = .ok (.aload_n 0, 1) := yd_op_42 (i := 16) yd_by_cX11_feed_0 rfl rfl
theorem dX11_feed_17 : decode cX11_feed 17 = .ok (.iconst 0, 1) := yd_op_3 (i := 17) yd_by_cX11_feed_0 rfl rfl
theorem dX11_feed_18 : decode cX11_feed 18 = .ok (.invokevirtual 113, 3) := yd_op_182 (i := 18) (a := 0) (b := 113) yd_by_cX11_feed_0 rfl rfl
theorem dX11_feed_21 : decode cX11_feed 21 = .ok (.ireturn, 1) := yd_op_172 (i := 21) yd_by_cX11_feed_0 rfl rfl
theorem dX11_feed_22 : decode cX11_feed 22 = .ok (.aload_n 0, 1) := yd_op_42 (i := 22) yd_by_cX11_feed_0 rfl rfl
theorem dX11_feed_23 : decode cX11_feed 23 = .ok (.getfield 14, 3) := yd_op_180 (i := 23) (a := 0) (b := 14) yd_by_cX11_feed_0 rfl rfl
theorem dX11_feed_26 : decode cX11_feed 26 = .ok (.iload_n 1, 1) := yd_op_27 (i := 26) yd_by_cX11_feed_0 rfl rfl
theorem dX11_feed_27 : decode cX11_feed 27 = .ok (.invokevirtual 117, 3) := yd_op_182 (i := 27) (a := 0) (b := 117) yd_by_cX11_feed_0 rfl rfl
theorem dX11_feed_30 : decode cX11_feed 30 = .ok (.aload_n 0, 1) := yd_op_42 (i := 30) yd_by_cX11_feed_0 rfl rfl
theorem dX11_feed_31 : decode cX11_feed 31 = .ok (.getfield 14, 3) := yd_op_180 (i := 31) (a := 0) (b := 14) yd_by_cX11_feed_0 rfl rfl
theorem dX11_feed_34 : decode cX11_feed 34 = .ok (.iload_n 2, 1) := yd_op_28 (i := 34) yd_by_cX11_feed_0 rfl rfl
theorem dX11_feed_35 : decode cX11_feed 35 = .ok (.invokevirtual 117, 3) := yd_op_182 (i := 35) (a := 0) (b := 117) yd_by_cX11_feed_0 rfl rfl
theorem dX11_feed_38 : decode cX11_feed 38 = .ok (.aload_n 0, 1) := yd_op_42 (i := 38) yd_by_cX11_feed_0 rfl rfl
set_option maxRecDepth 100000 in
theorem yd_by_cX11_feed_1 : ydk cX11_feed 39 [180, 0, 14, 29, 182, 0, 117, 42, 180, 0, 14, 21, 4, 182, 0, 117, 42, 180, 0, 14, 21, 5, 182, 0, 117, 42, 180, 0, 14, 180, 0, 110, 172] = true := by decide +kernel
theorem dX11_feed_39 : decode cX11_feed 39 = .ok (.getfield 14, 3) := yd_op_180 (i := 0) (a := 0) (b := 14) yd_by_cX11_feed_1 rfl rfl
theorem dX11_feed_42 : decode cX11_feed 42 = .ok (.iload_n 3, 1) := yd_op_29 (i := 3) yd_by_cX11_feed_1 rfl rfl
theorem dX11_feed_43 : decode cX11_feed 43 = .ok (.invokevirtual 117, 3) := yd_op_182 (i := 4) (a := 0) (b := 117) yd_by_cX11_feed_1 rfl rfl
theorem dX11_feed_46 : decode cX11_feed 46 = .ok (.aload_n 0, 1) := yd_op_42 (i := 7) yd_by_cX11_feed_1 rfl rfl
theorem dX11_feed_47 : decode cX11_feed 47 = .ok (.getfield 14, 3) := yd_op_180 (i := 8) (a := 0) (b := 14) yd_by_cX11_feed_1 rfl rfl
theorem dX11_feed_50 : decode cX11_feed 50 = .ok (.iload 4, 2) := yd_op_21 (i := 11) (a := 4) yd_by_cX11_feed_1 rfl rfl
theorem dX11_feed_52 : decode cX11_feed 52 = .ok (.invokevirtual 117, 3) := yd_op_182 (i := 13) (a := 0) (b := 117) yd_by_cX11_feed_1 rfl rfl
theorem dX11_feed_55 : decode cX11_feed 55 = .ok (.aload_n 0, 1) := yd_op_42 (i := 16) yd_by_cX11_feed_1 rfl rfl
theorem dX11_feed_56 : decode cX11_feed 56 = .ok (.getfield 14, 3) := yd_op_180 (i := 17) (a := 0) (b := 14) yd_by_cX11_feed_1 rfl rfl
theorem dX11_feed_59 : decode cX11_feed 59 = .ok (.iload 5, 2) := yd_op_21 (i := 20) (a := 5) yd_by_cX11_feed_1 rfl rfl
theorem dX11_feed_61 : decode cX11_feed 61 = .ok (.invokevirtual 117, 3) := yd_op_182 (i := 22) (a := 0) (b := 117) yd_by_cX11_feed_1 rfl rfl
theorem dX11_feed_64 : decode cX11_feed 64 = .ok (.aload_n 0, 1) := yd_op_42 (i := 25) yd_by_cX11_feed_1 rfl rfl
theorem dX11_feed_65 : decode cX11_feed 65 = .ok (.getfield 14, 3) := yd_op_180 (i := 26) (a := 0) (b := 14) yd_by_cX11_feed_1 rfl rfl
theorem dX11_feed_68 : decode cX11_feed 68 = .ok (.getfield 110, 3) := yd_op_180 (i := 29) (a := 0) (b := 110) yd_by_cX11_feed_1 rfl rfl
theorem dX11_feed_71 : decode cX11_feed 71 = .ok (.ireturn, 1) := yd_op_172 (i := 32) yd_by_cX11_feed_1 rfl rfl
set_option maxRecDepth 100000 in
theorem yd_by_cX11_end_0 : ydk cX11_end 0 [27, 155, 0, 14, 27, 42, 180, 0, 14, 180, 0, 110, 164, 0, 9, 42, 3, 182, 0, 120, 172, 42, 180, 0, 14, 27, 181, 0, 110, 4, 172] = true := by decide +kernel
theorem dX11_end_0 : decode cX11_end 0 = .ok (.iload_n 1, 1) := yd_op_27 (i := 0) yd_by_cX11_end_0 rfl rfl
theorem dX11_end_1 : decode cX11_end 1 = .ok (.ifCond .lt 14, 3) := yd_op_155 (i := 1) (a := 0) (b := 14) yd_by_cX11_end_0 rfl rfl
theorem dX11_end_4 : decode cX11_end 4 = .ok (.iload_n 1, 1) := yd_op_27 (i := 4) yd_by_cX11_end_0 rfl rfl
theorem dX11_end_5 : decode cX11_end 5 = .ok (.aload_n 0, 1) := yd_op_42 (i := 5) yd_by_cX11_end_0 rfl rfl
theorem dX11_end_6 : decode cX11_end 6 = .ok (.getfield 14, 3) := yd_op_180 (i := 6) (a := 0) (b := 14) yd_by_cX11_end_0 rfl rfl
theorem dX11_end_9 : decode cX11_end 9 = .ok (.getfield 110, 3) := yd_op_180 (i := 9) (a := 0) (b := 110) yd_by_cX11_end_0 rfl rfl
theorem dX11_end_12 : decode cX11_end 12 = .ok (.if_icmp .le 9, 3) := yd_op_164 (i := 12) (a := 0) (b := 9) yd_by_cX11_end_0 rfl rfl
theorem dX11_end_15 : decode cX11_end 15 = .ok (.aload_n 0, 1) := yd_op_42 (i := 15) yd_by_cX11_end_0 rfl rfl
theorem dX11_end_16 : decode cX11_end 16 = .ok (.iconst 0, 1) := yd_op_3 (i := 16) yd_by_cX11_end_0 rfl rfl
theorem dX11_end_17 : decode cX11_end 17 = .ok (.invokevirtual 120, 3) := yd_op_182 (i := 17) (a := 0) (b := 120) yd_by_cX11_end_0 rfl rfl
theorem dX11_end_20 : decode cX11_end 20 = .ok (.ireturn, 1) := yd_op_172 (i := 20) yd_by_cX11_end_0 rfl rfl
theorem dX11_end_21 : decode cX11_end 21 = .ok (.aload_n 0, 1) := yd_op_42 (i := 21) yd_by_cX11_end_0 rfl rfl
theorem dX11_end_22 : decode cX11_end 22 = .ok (.getfield 14, 3) := yd_op_180 (i := 22) (a := 0) (b := 14) yd_by_cX11_end_0 rfl rfl
theorem dX11_end_25 : decode cX11_end 25 = .ok (.iload_n 1, 1) := yd_op_27 (i := 25) yd_by_cX11_end_0 rfl rfl
theorem dX11_end_26 : decode cX11_end 26 = .ok (.putfield 110, 3) := yd_op_181 (i := 26) (a := 0) (b := 110) yd_by_cX11_end_0 rfl rfl
theorem dX11_end_29 : decode cX11_end 29 = .ok (.iconst 1, 1) := yd_op_4 (i := 29) yd_by_cX11_end_0 rfl rfl
theorem dX11_end_30 : decode cX11_end 30 = .ok (.ireturn, 1) := yd_op_172 (i := 30) yd_by_cX11_end_0 rfl rfl
set_option maxRecDepth 100000 in
theorem yd_by_cX11_pane_0 : ydk cX11_pane 0 [42, 180, 0, 59, 42, 180, 0, 35, 42, 180, 0, 14, 182, 0, 124, 60, 42, 180, 0, 14, 3, 181, 0, 110, 42, 182, 0, 128, 42, 180, 0, 104, 153, 0, 9, 42, 4, 182, 0, 113] = true := by decide +kernel
theorem dX11_pane_0 : decode cX11_pane 0 = .ok (.aload_n 0, 1) := yd_op_42 (i := 0) yd_by_cX11_pane_0 rfl rfl
theorem dX11_pane_1 : decode cX11_pane 1 = .ok (.getfield 59, 3) := yd_op_180 (i := 1) (a := 0) (b := 59) yd_by_cX11_pane_0 rfl rfl
theorem dX11_pane_4 : decode cX11_pane 4 = .ok (.aload_n 0, 1) := yd_op_42 (i := 4) yd_by_cX11_pane_0 rfl rfl
theorem dX11_pane_5 : decode cX11_pane 5 = .ok (.getfield 35, 3) := yd_op_180 (i := 5) (a := 0) (b := 35) yd_by_cX11_pane_0 rfl rfl
theorem dX11_pane_8 : decode cX11_pane 8 = .ok (.aload_n 0, 1) := yd_op_42 (i := 8) yd_by_cX11_pane_0 rfl rfl
theorem dX11_pane_9 : decode cX11_pane 9 = .ok (.getfield 14, 3) := yd_op_180 (i := 9) (a := 0) (b := 14) yd_by_cX11_pane_0 rfl rfl
theorem dX11_pane_12 : decode cX11_pane 12 = .ok (.invokevirtual 124, 3) := yd_op_182 (i := 12) (a := 0) (b := 124) yd_by_cX11_pane_0 rfl rfl
theorem dX11_pane_15 : decode cX11_pane 15 = .ok (.istore_n 1, 1) := yd_op_60 (i := 15) yd_by_cX11_pane_0 rfl rfl
theorem dX11_pane_16 : decode cX11_pane 16 = .ok (.aload_n 0, 1) := yd_op_42 (i := 16) yd_by_cX11_pane_0 rfl rfl
theorem dX11_pane_17 : decode cX11_pane 17 = .ok (.getfield 14, 3) := yd_op_180 (i := 17) (a := 0) (b := 14) yd_by_cX11_pane_0 rfl rfl
theorem dX11_pane_20 : decode cX11_pane 20 = .ok (.iconst 0, 1) := yd_op_3 (i := 20) yd_by_cX11_pane_0 rfl rfl
theorem dX11_pane_21 : decode cX11_pane 21 = .ok (.putfield 110, 3) := yd_op_181 (i := 21) (a := 0) (b := 110) yd_by_cX11_pane_0 rfl rfl
theorem dX11_pane_24 : decode cX11_pane 24 = .ok (.aload_n 0, 1) := yd_op_42 (i := 24) yd_by_cX11_pane_0 rfl rfl
theorem dX11_pane_25 : decode cX11_pane 25 = .ok (.invokevirtual 128, 3) := yd_op_182 (i := 25) (a := 0) (b := 128) yd_by_cX11_pane_0 rfl rfl
theorem dX11_pane_28 : decode cX11_pane 28 = .ok (.aload_n 0, 1) := yd_op_42 (i := 28) yd_by_cX11_pane_0 rfl rfl
theorem dX11_pane_29 : decode cX11_pane 29 = .ok (.getfield 104, 3) := yd_op_180 (i := 29) (a := 0) (b := 104) yd_by_cX11_pane_0 rfl rfl
theorem dX11_pane_32 : decode cX11_pane 32 = .ok (.ifCond .eq 9, 3) := yd_op_153 (i := 32) (a := 0) (b := 9) yd_by_cX11_pane_0 rfl rfl
theorem dX11_pane_35 : decode cX11_pane 35 = .ok (.aload_n 0, 1) := yd_op_42 (i := 35) yd_by_cX11_pane_0 rfl rfl
theorem dX11_pane_36 : decode cX11_pane 36 = .ok (.iconst 1, 1) := yd_op_4 (i := 36) yd_by_cX11_pane_0 rfl rfl
theorem dX11_pane_37 : decode cX11_pane 37 = .ok (.invokevirtual 113, 3) := yd_op_182 (i := 37) (a := 0) (b := 113) yd_by_cX11_pane_0 rfl rfl
set_option maxRecDepth 100000 in
theorem yd_by_cX11_pane_1 : ydk cX11_pane 40 [172, 42, 180, 0, 31, 77, 42, 42, 180, 0, 35, 181, 0, 31, 42, 44, 181, 0, 35, 42, 180, 0, 66, 42, 180, 0, 31, 182, 0, 131, 42, 180, 0, 76, 3, 181, 0, 135] = true := by decide +kernel
theorem dX11_pane_40 : decode cX11_pane 40 = .ok (.ireturn, 1) := yd_op_172 (i := 0) yd_by_cX11_pane_1 rfl rfl
theorem dX11_pane_41 : decode cX11_pane 41 = .ok (.aload_n 0, 1) := yd_op_42 (i := 1) yd_by_cX11_pane_1 rfl rfl
theorem dX11_pane_42 : decode cX11_pane 42 = .ok (.getfield 31, 3) := yd_op_180 (i := 2) (a := 0) (b := 31) yd_by_cX11_pane_1 rfl rfl
theorem dX11_pane_45 : decode cX11_pane 45 = .ok (.astore_n 2, 1) := yd_op_77 (i := 5) yd_by_cX11_pane_1 rfl rfl
theorem dX11_pane_46 : decode cX11_pane 46 = .ok (.aload_n 0, 1) := yd_op_42 (i := 6) yd_by_cX11_pane_1 rfl rfl
theorem dX11_pane_47 : decode cX11_pane 47 = .ok (.aload_n 0, 1) := yd_op_42 (i := 7) yd_by_cX11_pane_1 rfl rfl
theorem dX11_pane_48 : decode cX11_pane 48 = .ok (.getfield 35, 3) := yd_op_180 (i := 8) (a := 0) (b := 35) yd_by_cX11_pane_1 rfl rfl
theorem dX11_pane_51 : decode cX11_pane 51 = .ok (.putfield 31, 3) := yd_op_181 (i := 11) (a := 0) (b := 31) yd_by_cX11_pane_1 rfl rfl
theorem dX11_pane_54 : decode cX11_pane 54 = .ok (.aload_n 0, 1) := yd_op_42 (i := 14) yd_by_cX11_pane_1 rfl rfl
theorem dX11_pane_55 : decode cX11_pane 55 = .ok (.aload_n 2, 1) := yd_op_44 (i := 15) yd_by_cX11_pane_1 rfl rfl
theorem dX11_pane_56 : decode cX11_pane 56 = .ok (.putfield 35, 3) := yd_op_181 (i := 16) (a := 0) (b := 35) yd_by_cX11_pane_1 rfl rfl
theorem dX11_pane_59 : decode cX11_pane 59 = .ok (.aload_n 0, 1) := yd_op_42 (i := 19) yd_by_cX11_pane_1 rfl rfl
theorem dX11_pane_60 : decode cX11_pane 60 = .ok (.getfield 66, 3) := yd_op_180 (i := 20) (a := 0) (b := 66) yd_by_cX11_pane_1 rfl rfl
theorem dX11_pane_63 : decode cX11_pane 63 = .ok (.aload_n 0, 1) := yd_op_42 (i := 23) yd_by_cX11_pane_1 rfl rfl
theorem dX11_pane_64 : decode cX11_pane 64 = .ok (.getfield 31, 3) := yd_op_180 (i := 24) (a := 0) (b := 31) yd_by_cX11_pane_1 rfl rfl
theorem dX11_pane_67 : decode cX11_pane 67 = .ok (.invokevirtual 131, 3) := yd_op_182 (i := 27) (a := 0) (b := 131) yd_by_cX11_pane_1 rfl rfl
theorem dX11_pane_70 : decode cX11_pane 70 = .ok (.aload_n 0, 1) := yd_op_42 (i := 30) yd_by_cX11_pane_1 rfl rfl
theorem dX11_pane_71 : decode cX11_pane 71 = .ok (.getfield 76, 3) := yd_op_180 (i := 31) (a := 0) (b := 76) yd_by_cX11_pane_1 rfl rfl
theorem dX11_pane_74 : decode cX11_pane 74 = .ok (.iconst 0, 1) := yd_op_3 (i := 34) yd_by_cX11_pane_1 rfl rfl
theorem dX11_pane_75 : decode cX11_pane 75 = .ok (.putfield 135, 3) := yd_op_181 (i := 35) (a := 0) (b := 135) yd_by_cX11_pane_1 rfl rfl
set_option maxRecDepth 100000 in
theorem yd_by_cX11_pane_2 : ydk cX11_pane 78 [42, 180, 0, 83, 3, 181, 0, 138, 27, 172] = true := by decide +kernel
theorem dX11_pane_78 : decode cX11_pane 78 = .ok (.aload_n 0, 1) := yd_op_42 (i := 0) yd_by_cX11_pane_2 rfl rfl
theorem dX11_pane_79 : decode cX11_pane 79 = .ok (.getfield 83, 3) := yd_op_180 (i := 1) (a := 0) (b := 83) yd_by_cX11_pane_2 rfl rfl
theorem dX11_pane_82 : decode cX11_pane 82 = .ok (.iconst 0, 1) := yd_op_3 (i := 4) yd_by_cX11_pane_2 rfl rfl
theorem dX11_pane_83 : decode cX11_pane 83 = .ok (.putfield 138, 3) := yd_op_181 (i := 5) (a := 0) (b := 138) yd_by_cX11_pane_2 rfl rfl
theorem dX11_pane_86 : decode cX11_pane 86 = .ok (.iload_n 1, 1) := yd_op_27 (i := 8) yd_by_cX11_pane_2 rfl rfl
theorem dX11_pane_87 : decode cX11_pane 87 = .ok (.ireturn, 1) := yd_op_172 (i := 9) yd_by_cX11_pane_2 rfl rfl
theorem dX11_fault_1 : decode cX11_fault 1 = .ok (.lookupswitch 37 #[(0, 27), (1, 32)], 27) := by decide +kernel
set_option maxRecDepth 100000 in
theorem yd_by_cX11_fault_0 : ydk cX11_fault 0 [27, 171, 0, 0, 0, 0, 0, 37, 0, 0, 0, 2, 0, 0, 0, 0, 0, 0, 0, 27, 0, 0, 0, 1, 0, 0, 0, 32, 42, 180, 0, 104, 172, 42, 180, 0, 107, 172, 2, 172] = true := by decide +kernel
theorem dX11_fault_0 : decode cX11_fault 0 = .ok (.iload_n 1, 1) := yd_op_27 (i := 0) yd_by_cX11_fault_0 rfl rfl
theorem dX11_fault_28 : decode cX11_fault 28 = .ok (.aload_n 0, 1) := yd_op_42 (i := 28) yd_by_cX11_fault_0 rfl rfl
theorem dX11_fault_29 : decode cX11_fault 29 = .ok (.getfield 104, 3) := yd_op_180 (i := 29) (a := 0) (b := 104) yd_by_cX11_fault_0 rfl rfl
theorem dX11_fault_32 : decode cX11_fault 32 = .ok (.ireturn, 1) := yd_op_172 (i := 32) yd_by_cX11_fault_0 rfl rfl
theorem dX11_fault_33 : decode cX11_fault 33 = .ok (.aload_n 0, 1) := yd_op_42 (i := 33) yd_by_cX11_fault_0 rfl rfl
theorem dX11_fault_34 : decode cX11_fault 34 = .ok (.getfield 107, 3) := yd_op_180 (i := 34) (a := 0) (b := 107) yd_by_cX11_fault_0 rfl rfl
theorem dX11_fault_37 : decode cX11_fault 37 = .ok (.ireturn, 1) := yd_op_172 (i := 37) yd_by_cX11_fault_0 rfl rfl
theorem dX11_fault_38 : decode cX11_fault 38 = .ok (.iconst (-1), 1) := yd_op_2 (i := 38) yd_by_cX11_fault_0 rfl rfl
theorem dX11_fault_39 : decode cX11_fault 39 = .ok (.ireturn, 1) := yd_op_172 (i := 39) yd_by_cX11_fault_0 rfl rfl
theorem dX11_has_1 : decode cX11_has 1 = .ok (.tableswitch 141 0 9 #[55, 63, 71, 79, 87, 98, 106, 117, 125, 133], 55) := by decide +kernel
set_option maxRecDepth 100000 in
theorem yd_by_cX11_has_0 : ydk cX11_has 0 [27, 170, 0, 0, 0, 0, 0, 141, 0, 0, 0, 0, 0, 0, 0, 9, 0, 0, 0, 55, 0, 0, 0, 63, 0, 0, 0, 71, 0, 0, 0, 79, 0, 0, 0, 87, 0, 0, 0, 98, 0, 0, 0, 106, 0, 0, 0, 117, 0, 0, 0, 125, 0, 0, 0, 133, 42, 180, 0, 31, 180, 0, 141, 172, 42, 180, 0, 31, 180, 0, 144, 172, 42, 180, 0, 31, 180, 0, 147, 172, 42, 180, 0, 66, 180, 0, 150, 172, 42, 180, 0, 66, 180, 0, 153] = true := by decide +kernel
theorem dX11_has_0 : decode cX11_has 0 = .ok (.iload_n 1, 1) := yd_op_27 (i := 0) yd_by_cX11_has_0 rfl rfl
theorem dX11_has_56 : decode cX11_has 56 = .ok (.aload_n 0, 1) := yd_op_42 (i := 56) yd_by_cX11_has_0 rfl rfl
theorem dX11_has_57 : decode cX11_has 57 = .ok (.getfield 31, 3) := yd_op_180 (i := 57) (a := 0) (b := 31) yd_by_cX11_has_0 rfl rfl
theorem dX11_has_60 : decode cX11_has 60 = .ok (.getfield 141, 3) := yd_op_180 (i := 60) (a := 0) (b := 141) yd_by_cX11_has_0 rfl rfl
theorem dX11_has_63 : decode cX11_has 63 = .ok (.ireturn, 1) := yd_op_172 (i := 63) yd_by_cX11_has_0 rfl rfl
theorem dX11_has_64 : decode cX11_has 64 = .ok (.aload_n 0, 1) := yd_op_42 (i := 64) yd_by_cX11_has_0 rfl rfl
theorem dX11_has_65 : decode cX11_has 65 = .ok (.getfield 31, 3) := yd_op_180 (i := 65) (a := 0) (b := 31) yd_by_cX11_has_0 rfl rfl
theorem dX11_has_68 : decode cX11_has 68 = .ok (.getfield 144, 3) := yd_op_180 (i := 68) (a := 0) (b := 144) yd_by_cX11_has_0 rfl rfl
theorem dX11_has_71 : decode cX11_has 71 = .ok (.ireturn, 1) := yd_op_172 (i := 71) yd_by_cX11_has_0 rfl rfl
theorem dX11_has_72 : decode cX11_has 72 = .ok (.aload_n 0, 1) := yd_op_42 (i := 72) yd_by_cX11_has_0 rfl rfl
theorem dX11_has_73 : decode cX11_has 73 = .ok (.getfield 31, 3) := yd_op_180 (i := 73) (a := 0) (b := 31) yd_by_cX11_has_0 rfl rfl
theorem dX11_has_76 : decode cX11_has 76 = .ok (.getfield 147, 3) := yd_op_180 (i := 76) (a := 0) (b := 147) yd_by_cX11_has_0 rfl rfl
theorem dX11_has_79 : decode cX11_has 79 = .ok (.ireturn, 1) := yd_op_172 (i := 79) yd_by_cX11_has_0 rfl rfl
theorem dX11_has_80 : decode cX11_has 80 = .ok (.aload_n 0, 1) := yd_op_42 (i := 80) yd_by_cX11_has_0 rfl rfl
theorem dX11_has_81 : decode cX11_has 81 = .ok (.getfield 66, 3) := yd_op_180 (i := 81) (a := 0) (b := 66) yd_by_cX11_has_0 rfl rfl
theorem dX11_has_84 : decode cX11_has 84 = .ok (.getfield 150, 3) := yd_op_180 (i := 84) (a := 0) (b := 150) yd_by_cX11_has_0 rfl rfl
theorem dX11_has_87 : decode cX11_has 87 = .ok (.ireturn, 1) := yd_op_172 (i := 87) yd_by_cX11_has_0 rfl rfl
theorem dX11_has_88 : decode cX11_has 88 = .ok (.aload_n 0, 1) := yd_op_42 (i := 88) yd_by_cX11_has_0 rfl rfl
theorem dX11_has_89 : decode cX11_has 89 = .ok (.getfield 66, 3) := yd_op_180 (i := 89) (a := 0) (b := 66) yd_by_cX11_has_0 rfl rfl
theorem dX11_has_92 : decode cX11_has 92 = .ok (.getfield 153, 3) := yd_op_180 (i := 92) (a := 0) (b := 153) yd_by_cX11_has_0 rfl rfl
set_option maxRecDepth 100000 in
theorem yd_by_cX11_has_1 : ydk cX11_has 95 [184, 0, 157, 172, 42, 182, 0, 163, 184, 0, 167, 172, 42, 180, 0, 66, 180, 0, 171, 184, 0, 167, 172, 42, 180, 0, 66, 180, 0, 174, 172, 42, 180, 0, 83, 180, 0, 138, 172, 42] = true := by decide +kernel
theorem dX11_has_95 : decode cX11_has 95 = .ok (.invokestatic 157, 3) := yd_op_184 (i := 0) (a := 0) (b := 157) yd_by_cX11_has_1 rfl rfl
theorem dX11_has_98 : decode cX11_has 98 = .ok (.ireturn, 1) := yd_op_172 (i := 3) yd_by_cX11_has_1 rfl rfl
theorem dX11_has_99 : decode cX11_has 99 = .ok (.aload_n 0, 1) := yd_op_42 (i := 4) yd_by_cX11_has_1 rfl rfl
theorem dX11_has_100 : decode cX11_has 100 = .ok (.invokevirtual 163, 3) := yd_op_182 (i := 5) (a := 0) (b := 163) yd_by_cX11_has_1 rfl rfl
theorem dX11_has_103 : decode cX11_has 103 = .ok (.invokestatic 167, 3) := yd_op_184 (i := 8) (a := 0) (b := 167) yd_by_cX11_has_1 rfl rfl
theorem dX11_has_106 : decode cX11_has 106 = .ok (.ireturn, 1) := yd_op_172 (i := 11) yd_by_cX11_has_1 rfl rfl
theorem dX11_has_107 : decode cX11_has 107 = .ok (.aload_n 0, 1) := yd_op_42 (i := 12) yd_by_cX11_has_1 rfl rfl
theorem dX11_has_108 : decode cX11_has 108 = .ok (.getfield 66, 3) := yd_op_180 (i := 13) (a := 0) (b := 66) yd_by_cX11_has_1 rfl rfl
theorem dX11_has_111 : decode cX11_has 111 = .ok (.getfield 171, 3) := yd_op_180 (i := 16) (a := 0) (b := 171) yd_by_cX11_has_1 rfl rfl
theorem dX11_has_114 : decode cX11_has 114 = .ok (.invokestatic 167, 3) := yd_op_184 (i := 19) (a := 0) (b := 167) yd_by_cX11_has_1 rfl rfl
theorem dX11_has_117 : decode cX11_has 117 = .ok (.ireturn, 1) := yd_op_172 (i := 22) yd_by_cX11_has_1 rfl rfl
theorem dX11_has_118 : decode cX11_has 118 = .ok (.aload_n 0, 1) := yd_op_42 (i := 23) yd_by_cX11_has_1 rfl rfl
theorem dX11_has_119 : decode cX11_has 119 = .ok (.getfield 66, 3) := yd_op_180 (i := 24) (a := 0) (b := 66) yd_by_cX11_has_1 rfl rfl
theorem dX11_has_122 : decode cX11_has 122 = .ok (.getfield 174, 3) := yd_op_180 (i := 27) (a := 0) (b := 174) yd_by_cX11_has_1 rfl rfl
theorem dX11_has_125 : decode cX11_has 125 = .ok (.ireturn, 1) := yd_op_172 (i := 30) yd_by_cX11_has_1 rfl rfl
theorem dX11_has_126 : decode cX11_has 126 = .ok (.aload_n 0, 1) := yd_op_42 (i := 31) yd_by_cX11_has_1 rfl rfl
theorem dX11_has_127 : decode cX11_has 127 = .ok (.getfield 83, 3) := yd_op_180 (i := 32) (a := 0) (b := 83) yd_by_cX11_has_1 rfl rfl
theorem dX11_has_130 : decode cX11_has 130 = .ok (.getfield 138, 3) := yd_op_180 (i := 35) (a := 0) (b := 138) yd_by_cX11_has_1 rfl rfl
theorem dX11_has_133 : decode cX11_has 133 = .ok (.ireturn, 1) := yd_op_172 (i := 38) yd_by_cX11_has_1 rfl rfl
theorem dX11_has_134 : decode cX11_has 134 = .ok (.aload_n 0, 1) := yd_op_42 (i := 39) yd_by_cX11_has_1 rfl rfl
set_option maxRecDepth 100000 in
theorem yd_by_cX11_has_2 : ydk cX11_has 135 [180, 0, 76, 180, 0, 135, 172, 2, 172] = true := by decide +kernel
theorem dX11_has_135 : decode cX11_has 135 = .ok (.getfield 76, 3) := yd_op_180 (i := 0) (a := 0) (b := 76) yd_by_cX11_has_2 rfl rfl
theorem dX11_has_138 : decode cX11_has 138 = .ok (.getfield 135, 3) := yd_op_180 (i := 3) (a := 0) (b := 135) yd_by_cX11_has_2 rfl rfl
theorem dX11_has_141 : decode cX11_has 141 = .ok (.ireturn, 1) := yd_op_172 (i := 6) yd_by_cX11_has_2 rfl rfl
theorem dX11_has_142 : decode cX11_has 142 = .ok (.iconst (-1), 1) := yd_op_2 (i := 7) yd_by_cX11_has_2 rfl rfl
theorem dX11_has_143 : decode cX11_has 143 = .ok (.ireturn, 1) := yd_op_172 (i := 8) yd_by_cX11_has_2 rfl rfl
set_option maxRecDepth 100000 in
theorem yd_by_cX11_letter_0 : ydk cX11_letter 0 [42, 180, 0, 31, 27, 182, 0, 177, 153, 0, 13, 28, 155, 0, 9, 28, 16, 6, 161, 0, 5, 2, 172, 42, 180, 0, 31, 180, 0, 180, 27, 46, 178, 0, 183, 28, 46] = true := by decide +kernel
theorem dX11_letter_0 : decode cX11_letter 0 = .ok (.aload_n 0, 1) := yd_op_42 (i := 0) yd_by_cX11_letter_0 rfl rfl
theorem dX11_letter_1 : decode cX11_letter 1 = .ok (.getfield 31, 3) := yd_op_180 (i := 1) (a := 0) (b := 31) yd_by_cX11_letter_0 rfl rfl
theorem dX11_letter_4 : decode cX11_letter 4 = .ok (.iload_n 1, 1) := yd_op_27 (i := 4) yd_by_cX11_letter_0 rfl rfl
theorem dX11_letter_5 : decode cX11_letter 5 = .ok (.invokevirtual 177, 3) := yd_op_182 (i := 5) (a := 0) (b := 177) yd_by_cX11_letter_0 rfl rfl
theorem dX11_letter_8 : decode cX11_letter 8 = .ok (.ifCond .eq 13, 3) := yd_op_153 (i := 8) (a := 0) (b := 13) yd_by_cX11_letter_0 rfl rfl
theorem dX11_letter_11 : decode cX11_letter 11 = .ok (.iload_n 2, 1) := yd_op_28 (i := 11) yd_by_cX11_letter_0 rfl rfl
theorem dX11_letter_12 : decode cX11_letter 12 = .ok (.ifCond .lt 9, 3) := yd_op_155 (i := 12) (a := 0) (b := 9) yd_by_cX11_letter_0 rfl rfl
theorem dX11_letter_15 : decode cX11_letter 15 = .ok (.iload_n 2, 1) := yd_op_28 (i := 15) yd_by_cX11_letter_0 rfl rfl
theorem dX11_letter_16 : decode cX11_letter 16 = .ok (.bipush 6, 2) := yd_op_16 (i := 16) (a := 6) yd_by_cX11_letter_0 rfl rfl
theorem dX11_letter_18 : decode cX11_letter 18 = .ok (.if_icmp .lt 5, 3) := yd_op_161 (i := 18) (a := 0) (b := 5) yd_by_cX11_letter_0 rfl rfl
theorem dX11_letter_21 : decode cX11_letter 21 = .ok (.iconst (-1), 1) := yd_op_2 (i := 21) yd_by_cX11_letter_0 rfl rfl
theorem dX11_letter_22 : decode cX11_letter 22 = .ok (.ireturn, 1) := yd_op_172 (i := 22) yd_by_cX11_letter_0 rfl rfl
theorem dX11_letter_23 : decode cX11_letter 23 = .ok (.aload_n 0, 1) := yd_op_42 (i := 23) yd_by_cX11_letter_0 rfl rfl
theorem dX11_letter_24 : decode cX11_letter 24 = .ok (.getfield 31, 3) := yd_op_180 (i := 24) (a := 0) (b := 31) yd_by_cX11_letter_0 rfl rfl
theorem dX11_letter_27 : decode cX11_letter 27 = .ok (.getfield 180, 3) := yd_op_180 (i := 27) (a := 0) (b := 180) yd_by_cX11_letter_0 rfl rfl
theorem dX11_letter_30 : decode cX11_letter 30 = .ok (.iload_n 1, 1) := yd_op_27 (i := 30) yd_by_cX11_letter_0 rfl rfl
theorem dX11_letter_31 : decode cX11_letter 31 = .ok (.iaload, 1) := yd_op_46 (i := 31) yd_by_cX11_letter_0 rfl rfl
theorem dX11_letter_32 : decode cX11_letter 32 = .ok (.getstatic 183, 3) := yd_op_178 (i := 32) (a := 0) (b := 183) yd_by_cX11_letter_0 rfl rfl
theorem dX11_letter_35 : decode cX11_letter 35 = .ok (.iload_n 2, 1) := yd_op_28 (i := 35) yd_by_cX11_letter_0 rfl rfl
theorem dX11_letter_36 : decode cX11_letter 36 = .ok (.iaload, 1) := yd_op_46 (i := 36) yd_by_cX11_letter_0 rfl rfl
set_option maxRecDepth 100000 in
theorem yd_by_cX11_letter_1 : ydk cX11_letter 37 [108, 16, 27, 112, 172] = true := by decide +kernel
theorem dX11_letter_37 : decode cX11_letter 37 = .ok (.idiv, 1) := yd_op_108 (i := 0) yd_by_cX11_letter_1 rfl rfl
theorem dX11_letter_38 : decode cX11_letter 38 = .ok (.bipush 27, 2) := yd_op_16 (i := 1) (a := 27) yd_by_cX11_letter_1 rfl rfl
theorem dX11_letter_40 : decode cX11_letter 40 = .ok (.irem, 1) := yd_op_112 (i := 3) yd_by_cX11_letter_1 rfl rfl
theorem dX11_letter_41 : decode cX11_letter 41 = .ok (.ireturn, 1) := yd_op_172 (i := 4) yd_by_cX11_letter_1 rfl rfl
theorem dX11_cell_26 : decode cX11_cell 26 = .ok (.tableswitch 89 0 3 #[30, 41, 59, 75], 30) := by decide +kernel
set_option maxRecDepth 100000 in
theorem yd_by_cX11_cell_0 : ydk cX11_cell 0 [42, 180, 0, 31, 27, 28, 182, 0, 186, 154, 0, 5, 2, 172, 42, 180, 0, 31, 27, 28, 182, 0, 190, 54, 4, 29, 170, 0, 0, 0, 0, 89, 0, 0, 0, 0, 0, 0, 0, 3, 0, 0, 0, 30, 0, 0, 0, 41, 0, 0, 0, 59, 0, 0, 0, 75, 42, 180, 0, 31, 180, 0, 194, 21, 4, 46] = true := by decide +kernel
theorem dX11_cell_0 : decode cX11_cell 0 = .ok (.aload_n 0, 1) := yd_op_42 (i := 0) yd_by_cX11_cell_0 rfl rfl
theorem dX11_cell_1 : decode cX11_cell 1 = .ok (.getfield 31, 3) := yd_op_180 (i := 1) (a := 0) (b := 31) yd_by_cX11_cell_0 rfl rfl
theorem dX11_cell_4 : decode cX11_cell 4 = .ok (.iload_n 1, 1) := yd_op_27 (i := 4) yd_by_cX11_cell_0 rfl rfl
theorem dX11_cell_5 : decode cX11_cell 5 = .ok (.iload_n 2, 1) := yd_op_28 (i := 5) yd_by_cX11_cell_0 rfl rfl
theorem dX11_cell_6 : decode cX11_cell 6 = .ok (.invokevirtual 186, 3) := yd_op_182 (i := 6) (a := 0) (b := 186) yd_by_cX11_cell_0 rfl rfl
theorem dX11_cell_9 : decode cX11_cell 9 = .ok (.ifCond .ne 5, 3) := yd_op_154 (i := 9) (a := 0) (b := 5) yd_by_cX11_cell_0 rfl rfl
theorem dX11_cell_12 : decode cX11_cell 12 = .ok (.iconst (-1), 1) := yd_op_2 (i := 12) yd_by_cX11_cell_0 rfl rfl
theorem dX11_cell_13 : decode cX11_cell 13 = .ok (.ireturn, 1) := yd_op_172 (i := 13) yd_by_cX11_cell_0 rfl rfl
theorem dX11_cell_14 : decode cX11_cell 14 = .ok (.aload_n 0, 1) := yd_op_42 (i := 14) yd_by_cX11_cell_0 rfl rfl
theorem dX11_cell_15 : decode cX11_cell 15 = .ok (.getfield 31, 3) := yd_op_180 (i := 15) (a := 0) (b := 31) yd_by_cX11_cell_0 rfl rfl
theorem dX11_cell_18 : decode cX11_cell 18 = .ok (.iload_n 1, 1) := yd_op_27 (i := 18) yd_by_cX11_cell_0 rfl rfl
theorem dX11_cell_19 : decode cX11_cell 19 = .ok (.iload_n 2, 1) := yd_op_28 (i := 19) yd_by_cX11_cell_0 rfl rfl
theorem dX11_cell_20 : decode cX11_cell 20 = .ok (.invokevirtual 190, 3) := yd_op_182 (i := 20) (a := 0) (b := 190) yd_by_cX11_cell_0 rfl rfl
theorem dX11_cell_23 : decode cX11_cell 23 = .ok (.istore 4, 2) := yd_op_54 (i := 23) (a := 4) yd_by_cX11_cell_0 rfl rfl
theorem dX11_cell_25 : decode cX11_cell 25 = .ok (.iload_n 3, 1) := yd_op_29 (i := 25) yd_by_cX11_cell_0 rfl rfl
theorem dX11_cell_56 : decode cX11_cell 56 = .ok (.aload_n 0, 1) := yd_op_42 (i := 56) yd_by_cX11_cell_0 rfl rfl
theorem dX11_cell_57 : decode cX11_cell 57 = .ok (.getfield 31, 3) := yd_op_180 (i := 57) (a := 0) (b := 31) yd_by_cX11_cell_0 rfl rfl
theorem dX11_cell_60 : decode cX11_cell 60 = .ok (.getfield 194, 3) := yd_op_180 (i := 60) (a := 0) (b := 194) yd_by_cX11_cell_0 rfl rfl
theorem dX11_cell_63 : decode cX11_cell 63 = .ok (.iload 4, 2) := yd_op_21 (i := 63) (a := 4) yd_by_cX11_cell_0 rfl rfl
theorem dX11_cell_65 : decode cX11_cell 65 = .ok (.iaload, 1) := yd_op_46 (i := 65) yd_by_cX11_cell_0 rfl rfl
set_option maxRecDepth 100000 in
theorem yd_by_cX11_cell_1 : ydk cX11_cell 66 [172, 42, 180, 0, 66, 21, 4, 182, 0, 197, 153, 0, 7, 4, 167, 0, 4, 3, 172, 42, 182, 0, 200, 87, 42, 180, 0, 92, 180, 0, 203, 21, 4, 46, 172, 42] = true := by decide +kernel
theorem dX11_cell_66 : decode cX11_cell 66 = .ok (.ireturn, 1) := yd_op_172 (i := 0) yd_by_cX11_cell_1 rfl rfl
theorem dX11_cell_67 : decode cX11_cell 67 = .ok (.aload_n 0, 1) := yd_op_42 (i := 1) yd_by_cX11_cell_1 rfl rfl
theorem dX11_cell_68 : decode cX11_cell 68 = .ok (.getfield 66, 3) := yd_op_180 (i := 2) (a := 0) (b := 66) yd_by_cX11_cell_1 rfl rfl
theorem dX11_cell_71 : decode cX11_cell 71 = .ok (.iload 4, 2) := yd_op_21 (i := 5) (a := 4) yd_by_cX11_cell_1 rfl rfl
theorem dX11_cell_73 : decode cX11_cell 73 = .ok (.invokevirtual 197, 3) := yd_op_182 (i := 7) (a := 0) (b := 197) yd_by_cX11_cell_1 rfl rfl
theorem dX11_cell_76 : decode cX11_cell 76 = .ok (.ifCond .eq 7, 3) := yd_op_153 (i := 10) (a := 0) (b := 7) yd_by_cX11_cell_1 rfl rfl
theorem dX11_cell_79 : decode cX11_cell 79 = .ok (.iconst 1, 1) := yd_op_4 (i := 13) yd_by_cX11_cell_1 rfl rfl
theorem dX11_cell_80 : decode cX11_cell 80 = .ok (.goto 4, 3) := yd_op_167 (i := 14) (a := 0) (b := 4) yd_by_cX11_cell_1 rfl rfl
theorem dX11_cell_83 : decode cX11_cell 83 = .ok (.iconst 0, 1) := yd_op_3 (i := 17) yd_by_cX11_cell_1 rfl rfl
theorem dX11_cell_84 : decode cX11_cell 84 = .ok (.ireturn, 1) := yd_op_172 (i := 18) yd_by_cX11_cell_1 rfl rfl
theorem dX11_cell_85 : decode cX11_cell 85 = .ok (.aload_n 0, 1) := yd_op_42 (i := 19) yd_by_cX11_cell_1 rfl rfl
theorem dX11_cell_86 : decode cX11_cell 86 = .ok (.invokevirtual 200, 3) := yd_op_182 (i := 20) (a := 0) (b := 200) yd_by_cX11_cell_1 rfl rfl
theorem dX11_cell_89 : decode cX11_cell 89 = .ok (.pop, 1) := yd_op_87 (i := 23) yd_by_cX11_cell_1 rfl rfl
theorem dX11_cell_90 : decode cX11_cell 90 = .ok (.aload_n 0, 1) := yd_op_42 (i := 24) yd_by_cX11_cell_1 rfl rfl
theorem dX11_cell_91 : decode cX11_cell 91 = .ok (.getfield 92, 3) := yd_op_180 (i := 25) (a := 0) (b := 92) yd_by_cX11_cell_1 rfl rfl
theorem dX11_cell_94 : decode cX11_cell 94 = .ok (.getfield 203, 3) := yd_op_180 (i := 28) (a := 0) (b := 203) yd_by_cX11_cell_1 rfl rfl
theorem dX11_cell_97 : decode cX11_cell 97 = .ok (.iload 4, 2) := yd_op_21 (i := 31) (a := 4) yd_by_cX11_cell_1 rfl rfl
theorem dX11_cell_99 : decode cX11_cell 99 = .ok (.iaload, 1) := yd_op_46 (i := 33) yd_by_cX11_cell_1 rfl rfl
theorem dX11_cell_100 : decode cX11_cell 100 = .ok (.ireturn, 1) := yd_op_172 (i := 34) yd_by_cX11_cell_1 rfl rfl
theorem dX11_cell_101 : decode cX11_cell 101 = .ok (.aload_n 0, 1) := yd_op_42 (i := 35) yd_by_cX11_cell_1 rfl rfl
set_option maxRecDepth 100000 in
theorem yd_by_cX11_cell_2 : ydk cX11_cell 102 [180, 0, 66, 42, 180, 0, 31, 21, 4, 182, 0, 206, 172, 2, 172] = true := by decide +kernel
theorem dX11_cell_102 : decode cX11_cell 102 = .ok (.getfield 66, 3) := yd_op_180 (i := 0) (a := 0) (b := 66) yd_by_cX11_cell_2 rfl rfl
theorem dX11_cell_105 : decode cX11_cell 105 = .ok (.aload_n 0, 1) := yd_op_42 (i := 3) yd_by_cX11_cell_2 rfl rfl
theorem dX11_cell_106 : decode cX11_cell 106 = .ok (.getfield 31, 3) := yd_op_180 (i := 4) (a := 0) (b := 31) yd_by_cX11_cell_2 rfl rfl
theorem dX11_cell_109 : decode cX11_cell 109 = .ok (.iload 4, 2) := yd_op_21 (i := 7) (a := 4) yd_by_cX11_cell_2 rfl rfl
theorem dX11_cell_111 : decode cX11_cell 111 = .ok (.invokevirtual 206, 3) := yd_op_182 (i := 9) (a := 0) (b := 206) yd_by_cX11_cell_2 rfl rfl
theorem dX11_cell_114 : decode cX11_cell 114 = .ok (.ireturn, 1) := yd_op_172 (i := 12) yd_by_cX11_cell_2 rfl rfl
theorem dX11_cell_115 : decode cX11_cell 115 = .ok (.iconst (-1), 1) := yd_op_2 (i := 13) yd_by_cX11_cell_2 rfl rfl
theorem dX11_cell_116 : decode cX11_cell 116 = .ok (.ireturn, 1) := yd_op_172 (i := 14) yd_by_cX11_cell_2 rfl rfl
set_option maxRecDepth 100000 in
theorem yd_by_cX11_slack_0 : ydk cX11_slack 0 [42, 180, 0, 31, 27, 28, 182, 0, 186, 154, 0, 7, 20, 0, 210, 173, 42, 182, 0, 200, 87, 42, 180, 0, 92, 180, 0, 212, 42, 180, 0, 31, 27, 28, 182, 0, 190, 46] = true := by decide +kernel
theorem dX11_slack_0 : decode cX11_slack 0 = .ok (.aload_n 0, 1) := yd_op_42 (i := 0) yd_by_cX11_slack_0 rfl rfl
theorem dX11_slack_1 : decode cX11_slack 1 = .ok (.getfield 31, 3) := yd_op_180 (i := 1) (a := 0) (b := 31) yd_by_cX11_slack_0 rfl rfl
theorem dX11_slack_4 : decode cX11_slack 4 = .ok (.iload_n 1, 1) := yd_op_27 (i := 4) yd_by_cX11_slack_0 rfl rfl
theorem dX11_slack_5 : decode cX11_slack 5 = .ok (.iload_n 2, 1) := yd_op_28 (i := 5) yd_by_cX11_slack_0 rfl rfl
theorem dX11_slack_6 : decode cX11_slack 6 = .ok (.invokevirtual 186, 3) := yd_op_182 (i := 6) (a := 0) (b := 186) yd_by_cX11_slack_0 rfl rfl
theorem dX11_slack_9 : decode cX11_slack 9 = .ok (.ifCond .ne 7, 3) := yd_op_154 (i := 9) (a := 0) (b := 7) yd_by_cX11_slack_0 rfl rfl
theorem dX11_slack_12 : decode cX11_slack 12 = .ok (.ldc2_w 210, 3) := yd_op_20 (i := 12) (a := 0) (b := 210) yd_by_cX11_slack_0 rfl rfl
theorem dX11_slack_15 : decode cX11_slack 15 = .ok (.lreturn, 1) := yd_op_173 (i := 15) yd_by_cX11_slack_0 rfl rfl
theorem dX11_slack_16 : decode cX11_slack 16 = .ok (.aload_n 0, 1) := yd_op_42 (i := 16) yd_by_cX11_slack_0 rfl rfl
theorem dX11_slack_17 : decode cX11_slack 17 = .ok (.invokevirtual 200, 3) := yd_op_182 (i := 17) (a := 0) (b := 200) yd_by_cX11_slack_0 rfl rfl
theorem dX11_slack_20 : decode cX11_slack 20 = .ok (.pop, 1) := yd_op_87 (i := 20) yd_by_cX11_slack_0 rfl rfl
theorem dX11_slack_21 : decode cX11_slack 21 = .ok (.aload_n 0, 1) := yd_op_42 (i := 21) yd_by_cX11_slack_0 rfl rfl
theorem dX11_slack_22 : decode cX11_slack 22 = .ok (.getfield 92, 3) := yd_op_180 (i := 22) (a := 0) (b := 92) yd_by_cX11_slack_0 rfl rfl
theorem dX11_slack_25 : decode cX11_slack 25 = .ok (.getfield 212, 3) := yd_op_180 (i := 25) (a := 0) (b := 212) yd_by_cX11_slack_0 rfl rfl
theorem dX11_slack_28 : decode cX11_slack 28 = .ok (.aload_n 0, 1) := yd_op_42 (i := 28) yd_by_cX11_slack_0 rfl rfl
theorem dX11_slack_29 : decode cX11_slack 29 = .ok (.getfield 31, 3) := yd_op_180 (i := 29) (a := 0) (b := 31) yd_by_cX11_slack_0 rfl rfl
theorem dX11_slack_32 : decode cX11_slack 32 = .ok (.iload_n 1, 1) := yd_op_27 (i := 32) yd_by_cX11_slack_0 rfl rfl
theorem dX11_slack_33 : decode cX11_slack 33 = .ok (.iload_n 2, 1) := yd_op_28 (i := 33) yd_by_cX11_slack_0 rfl rfl
theorem dX11_slack_34 : decode cX11_slack 34 = .ok (.invokevirtual 190, 3) := yd_op_182 (i := 34) (a := 0) (b := 190) yd_by_cX11_slack_0 rfl rfl
theorem dX11_slack_37 : decode cX11_slack 37 = .ok (.iaload, 1) := yd_op_46 (i := 37) yd_by_cX11_slack_0 rfl rfl
set_option maxRecDepth 100000 in
theorem yd_by_cX11_slack_1 : ydk cX11_slack 38 [133, 173] = true := by decide +kernel
theorem dX11_slack_38 : decode cX11_slack 38 = .ok (.i2l, 1) := yd_op_133 (i := 0) yd_by_cX11_slack_1 rfl rfl
theorem dX11_slack_39 : decode cX11_slack 39 = .ok (.lreturn, 1) := yd_op_173 (i := 1) yd_by_cX11_slack_1 rfl rfl
theorem dX11_person_14 : decode cX11_person 14 = .ok (.tableswitch 99 0 5 #[38, 48, 58, 68, 78, 87], 38) := by decide +kernel
set_option maxRecDepth 100000 in
theorem yd_by_cX11_person_0 : ydk cX11_person 0 [42, 180, 0, 31, 27, 182, 0, 177, 154, 0, 5, 2, 172, 28, 170, 0, 0, 0, 0, 99, 0, 0, 0, 0, 0, 0, 0, 5, 0, 0, 0, 38, 0, 0, 0, 48, 0, 0, 0, 58, 0, 0, 0, 68, 0, 0, 0, 78, 0, 0, 0, 87, 42, 180, 0, 66, 180, 0, 215, 27, 46, 172, 42, 180, 0, 66, 180, 0, 218, 27, 46, 172] = true := by decide +kernel
theorem dX11_person_0 : decode cX11_person 0 = .ok (.aload_n 0, 1) := yd_op_42 (i := 0) yd_by_cX11_person_0 rfl rfl
theorem dX11_person_1 : decode cX11_person 1 = .ok (.getfield 31, 3) := yd_op_180 (i := 1) (a := 0) (b := 31) yd_by_cX11_person_0 rfl rfl
theorem dX11_person_4 : decode cX11_person 4 = .ok (.iload_n 1, 1) := yd_op_27 (i := 4) yd_by_cX11_person_0 rfl rfl
theorem dX11_person_5 : decode cX11_person 5 = .ok (.invokevirtual 177, 3) := yd_op_182 (i := 5) (a := 0) (b := 177) yd_by_cX11_person_0 rfl rfl
theorem dX11_person_8 : decode cX11_person 8 = .ok (.ifCond .ne 5, 3) := yd_op_154 (i := 8) (a := 0) (b := 5) yd_by_cX11_person_0 rfl rfl
theorem dX11_person_11 : decode cX11_person 11 = .ok (.iconst (-1), 1) := yd_op_2 (i := 11) yd_by_cX11_person_0 rfl rfl
theorem dX11_person_12 : decode cX11_person 12 = .ok (.ireturn, 1) := yd_op_172 (i := 12) yd_by_cX11_person_0 rfl rfl
theorem dX11_person_13 : decode cX11_person 13 = .ok (.iload_n 2, 1) := yd_op_28 (i := 13) yd_by_cX11_person_0 rfl rfl
theorem dX11_person_52 : decode cX11_person 52 = .ok (.aload_n 0, 1) := yd_op_42 (i := 52) yd_by_cX11_person_0 rfl rfl
theorem dX11_person_53 : decode cX11_person 53 = .ok (.getfield 66, 3) := yd_op_180 (i := 53) (a := 0) (b := 66) yd_by_cX11_person_0 rfl rfl
theorem dX11_person_56 : decode cX11_person 56 = .ok (.getfield 215, 3) := yd_op_180 (i := 56) (a := 0) (b := 215) yd_by_cX11_person_0 rfl rfl
theorem dX11_person_59 : decode cX11_person 59 = .ok (.iload_n 1, 1) := yd_op_27 (i := 59) yd_by_cX11_person_0 rfl rfl
theorem dX11_person_60 : decode cX11_person 60 = .ok (.iaload, 1) := yd_op_46 (i := 60) yd_by_cX11_person_0 rfl rfl
theorem dX11_person_61 : decode cX11_person 61 = .ok (.ireturn, 1) := yd_op_172 (i := 61) yd_by_cX11_person_0 rfl rfl
theorem dX11_person_62 : decode cX11_person 62 = .ok (.aload_n 0, 1) := yd_op_42 (i := 62) yd_by_cX11_person_0 rfl rfl
theorem dX11_person_63 : decode cX11_person 63 = .ok (.getfield 66, 3) := yd_op_180 (i := 63) (a := 0) (b := 66) yd_by_cX11_person_0 rfl rfl
theorem dX11_person_66 : decode cX11_person 66 = .ok (.getfield 218, 3) := yd_op_180 (i := 66) (a := 0) (b := 218) yd_by_cX11_person_0 rfl rfl
theorem dX11_person_69 : decode cX11_person 69 = .ok (.iload_n 1, 1) := yd_op_27 (i := 69) yd_by_cX11_person_0 rfl rfl
theorem dX11_person_70 : decode cX11_person 70 = .ok (.iaload, 1) := yd_op_46 (i := 70) yd_by_cX11_person_0 rfl rfl
theorem dX11_person_71 : decode cX11_person 71 = .ok (.ireturn, 1) := yd_op_172 (i := 71) yd_by_cX11_person_0 rfl rfl
set_option maxRecDepth 100000 in
theorem yd_by_cX11_person_1 : ydk cX11_person 72 [42, 180, 0, 31, 180, 0, 221, 27, 46, 172, 42, 180, 0, 66, 180, 0, 224, 27, 46, 172, 42, 182, 0, 163, 27, 122, 4, 126, 172, 42] = true := by decide +kernel
theorem dX11_person_72 : decode cX11_person 72 = .ok (.aload_n 0, 1) := yd_op_42 (i := 0) yd_by_cX11_person_1 rfl rfl
theorem dX11_person_73 : decode cX11_person 73 = .ok (.getfield 31, 3) := yd_op_180 (i := 1) (a := 0) (b := 31) yd_by_cX11_person_1 rfl rfl
theorem dX11_person_76 : decode cX11_person 76 = .ok (.getfield 221, 3) := yd_op_180 (i := 4) (a := 0) (b := 221) yd_by_cX11_person_1 rfl rfl
theorem dX11_person_79 : decode cX11_person 79 = .ok (.iload_n 1, 1) := yd_op_27 (i := 7) yd_by_cX11_person_1 rfl rfl
theorem dX11_person_80 : decode cX11_person 80 = .ok (.iaload, 1) := yd_op_46 (i := 8) yd_by_cX11_person_1 rfl rfl
theorem dX11_person_81 : decode cX11_person 81 = .ok (.ireturn, 1) := yd_op_172 (i := 9) yd_by_cX11_person_1 rfl rfl
theorem dX11_person_82 : decode cX11_person 82 = .ok (.aload_n 0, 1) := yd_op_42 (i := 10) yd_by_cX11_person_1 rfl rfl
theorem dX11_person_83 : decode cX11_person 83 = .ok (.getfield 66, 3) := yd_op_180 (i := 11) (a := 0) (b := 66) yd_by_cX11_person_1 rfl rfl
theorem dX11_person_86 : decode cX11_person 86 = .ok (.getfield 224, 3) := yd_op_180 (i := 14) (a := 0) (b := 224) yd_by_cX11_person_1 rfl rfl
theorem dX11_person_89 : decode cX11_person 89 = .ok (.iload_n 1, 1) := yd_op_27 (i := 17) yd_by_cX11_person_1 rfl rfl
theorem dX11_person_90 : decode cX11_person 90 = .ok (.iaload, 1) := yd_op_46 (i := 18) yd_by_cX11_person_1 rfl rfl
theorem dX11_person_91 : decode cX11_person 91 = .ok (.ireturn, 1) := yd_op_172 (i := 19) yd_by_cX11_person_1 rfl rfl
theorem dX11_person_92 : decode cX11_person 92 = .ok (.aload_n 0, 1) := yd_op_42 (i := 20) yd_by_cX11_person_1 rfl rfl
theorem dX11_person_93 : decode cX11_person 93 = .ok (.invokevirtual 163, 3) := yd_op_182 (i := 21) (a := 0) (b := 163) yd_by_cX11_person_1 rfl rfl
theorem dX11_person_96 : decode cX11_person 96 = .ok (.iload_n 1, 1) := yd_op_27 (i := 24) yd_by_cX11_person_1 rfl rfl
theorem dX11_person_97 : decode cX11_person 97 = .ok (.ishr, 1) := yd_op_122 (i := 25) yd_by_cX11_person_1 rfl rfl
theorem dX11_person_98 : decode cX11_person 98 = .ok (.iconst 1, 1) := yd_op_4 (i := 26) yd_by_cX11_person_1 rfl rfl
theorem dX11_person_99 : decode cX11_person 99 = .ok (.iand, 1) := yd_op_126 (i := 27) yd_by_cX11_person_1 rfl rfl
theorem dX11_person_100 : decode cX11_person 100 = .ok (.ireturn, 1) := yd_op_172 (i := 28) yd_by_cX11_person_1 rfl rfl
theorem dX11_person_101 : decode cX11_person 101 = .ok (.aload_n 0, 1) := yd_op_42 (i := 29) yd_by_cX11_person_1 rfl rfl
set_option maxRecDepth 100000 in
theorem yd_by_cX11_person_2 : ydk cX11_person 102 [180, 0, 66, 180, 0, 171, 27, 122, 4, 126, 172, 2, 172] = true := by decide +kernel
theorem dX11_person_102 : decode cX11_person 102 = .ok (.getfield 66, 3) := yd_op_180 (i := 0) (a := 0) (b := 66) yd_by_cX11_person_2 rfl rfl
theorem dX11_person_105 : decode cX11_person 105 = .ok (.getfield 171, 3) := yd_op_180 (i := 3) (a := 0) (b := 171) yd_by_cX11_person_2 rfl rfl
theorem dX11_person_108 : decode cX11_person 108 = .ok (.iload_n 1, 1) := yd_op_27 (i := 6) yd_by_cX11_person_2 rfl rfl
theorem dX11_person_109 : decode cX11_person 109 = .ok (.ishr, 1) := yd_op_122 (i := 7) yd_by_cX11_person_2 rfl rfl
theorem dX11_person_110 : decode cX11_person 110 = .ok (.iconst 1, 1) := yd_op_4 (i := 8) yd_by_cX11_person_2 rfl rfl
theorem dX11_person_111 : decode cX11_person 111 = .ok (.iand, 1) := yd_op_126 (i := 9) yd_by_cX11_person_2 rfl rfl
theorem dX11_person_112 : decode cX11_person 112 = .ok (.ireturn, 1) := yd_op_172 (i := 10) yd_by_cX11_person_2 rfl rfl
theorem dX11_person_113 : decode cX11_person 113 = .ok (.iconst (-1), 1) := yd_op_2 (i := 11) yd_by_cX11_person_2 rfl rfl
theorem dX11_person_114 : decode cX11_person 114 = .ok (.ireturn, 1) := yd_op_172 (i := 12) yd_by_cX11_person_2 rfl rfl
set_option maxRecDepth 100000 in
theorem yd_by_cX11_lifts_0 : ydk cX11_lifts 0 [42, 180, 0, 31, 27, 182, 0, 177, 153, 0, 15, 42, 180, 0, 31, 28, 29, 182, 0, 186, 154, 0, 5, 2, 172, 42, 180, 0, 92, 42, 180, 0, 31, 42, 180, 0, 66, 3] = true := by decide +kernel
theorem dX11_lifts_0 : decode cX11_lifts 0 = .ok (.aload_n 0, 1) := yd_op_42 (i := 0) yd_by_cX11_lifts_0 rfl rfl
theorem dX11_lifts_1 : decode cX11_lifts 1 = .ok (.getfield 31, 3) := yd_op_180 (i := 1) (a := 0) (b := 31) yd_by_cX11_lifts_0 rfl rfl
theorem dX11_lifts_4 : decode cX11_lifts 4 = .ok (.iload_n 1, 1) := yd_op_27 (i := 4) yd_by_cX11_lifts_0 rfl rfl
theorem dX11_lifts_5 : decode cX11_lifts 5 = .ok (.invokevirtual 177, 3) := yd_op_182 (i := 5) (a := 0) (b := 177) yd_by_cX11_lifts_0 rfl rfl
theorem dX11_lifts_8 : decode cX11_lifts 8 = .ok (.ifCond .eq 15, 3) := yd_op_153 (i := 8) (a := 0) (b := 15) yd_by_cX11_lifts_0 rfl rfl
theorem dX11_lifts_11 : decode cX11_lifts 11 = .ok (.aload_n 0, 1) := yd_op_42 (i := 11) yd_by_cX11_lifts_0 rfl rfl
theorem dX11_lifts_12 : decode cX11_lifts 12 = .ok (.getfield 31, 3) := yd_op_180 (i := 12) (a := 0) (b := 31) yd_by_cX11_lifts_0 rfl rfl
theorem dX11_lifts_15 : decode cX11_lifts 15 = .ok (.iload_n 2, 1) := yd_op_28 (i := 15) yd_by_cX11_lifts_0 rfl rfl
theorem dX11_lifts_16 : decode cX11_lifts 16 = .ok (.iload_n 3, 1) := yd_op_29 (i := 16) yd_by_cX11_lifts_0 rfl rfl
theorem dX11_lifts_17 : decode cX11_lifts 17 = .ok (.invokevirtual 186, 3) := yd_op_182 (i := 17) (a := 0) (b := 186) yd_by_cX11_lifts_0 rfl rfl
theorem dX11_lifts_20 : decode cX11_lifts 20 = .ok (.ifCond .ne 5, 3) := yd_op_154 (i := 20) (a := 0) (b := 5) yd_by_cX11_lifts_0 rfl rfl
theorem dX11_lifts_23 : decode cX11_lifts 23 = .ok (.iconst (-1), 1) := yd_op_2 (i := 23) yd_by_cX11_lifts_0 rfl rfl
theorem dX11_lifts_24 : decode cX11_lifts 24 = .ok (.ireturn, 1) := yd_op_172 (i := 24) yd_by_cX11_lifts_0 rfl rfl
theorem dX11_lifts_25 : decode cX11_lifts 25 = .ok (.aload_n 0, 1) := yd_op_42 (i := 25) yd_by_cX11_lifts_0 rfl rfl
theorem dX11_lifts_26 : decode cX11_lifts 26 = .ok (.getfield 92, 3) := yd_op_180 (i := 26) (a := 0) (b := 92) yd_by_cX11_lifts_0 rfl rfl
theorem dX11_lifts_29 : decode cX11_lifts 29 = .ok (.aload_n 0, 1) := yd_op_42 (i := 29) yd_by_cX11_lifts_0 rfl rfl
theorem dX11_lifts_30 : decode cX11_lifts 30 = .ok (.getfield 31, 3) := yd_op_180 (i := 30) (a := 0) (b := 31) yd_by_cX11_lifts_0 rfl rfl
theorem dX11_lifts_33 : decode cX11_lifts 33 = .ok (.aload_n 0, 1) := yd_op_42 (i := 33) yd_by_cX11_lifts_0 rfl rfl
theorem dX11_lifts_34 : decode cX11_lifts 34 = .ok (.getfield 66, 3) := yd_op_180 (i := 34) (a := 0) (b := 66) yd_by_cX11_lifts_0 rfl rfl
theorem dX11_lifts_37 : decode cX11_lifts 37 = .ok (.iconst 0, 1) := yd_op_3 (i := 37) yd_by_cX11_lifts_0 rfl rfl
set_option maxRecDepth 100000 in
theorem yd_by_cX11_lifts_1 : ydk cX11_lifts 38 [182, 0, 227, 42, 180, 0, 92, 180, 0, 231, 27, 16, 36, 104, 42, 180, 0, 31, 28, 29, 182, 0, 190, 96, 46, 172] = true := by decide +kernel
theorem dX11_lifts_38 : decode cX11_lifts 38 = .ok (.invokevirtual 227, 3) := yd_op_182 (i := 0) (a := 0) (b := 227) yd_by_cX11_lifts_1 rfl rfl
theorem dX11_lifts_41 : decode cX11_lifts 41 = .ok (.aload_n 0, 1) := yd_op_42 (i := 3) yd_by_cX11_lifts_1 rfl rfl
theorem dX11_lifts_42 : decode cX11_lifts 42 = .ok (.getfield 92, 3) := yd_op_180 (i := 4) (a := 0) (b := 92) yd_by_cX11_lifts_1 rfl rfl
theorem dX11_lifts_45 : decode cX11_lifts 45 = .ok (.getfield 231, 3) := yd_op_180 (i := 7) (a := 0) (b := 231) yd_by_cX11_lifts_1 rfl rfl
theorem dX11_lifts_48 : decode cX11_lifts 48 = .ok (.iload_n 1, 1) := yd_op_27 (i := 10) yd_by_cX11_lifts_1 rfl rfl
theorem dX11_lifts_49 : decode cX11_lifts 49 = .ok (.bipush 36, 2) := yd_op_16 (i := 11) (a := 36) yd_by_cX11_lifts_1 rfl rfl
theorem dX11_lifts_51 : decode cX11_lifts 51 = .ok (.imul, 1) := yd_op_104 (i := 13) yd_by_cX11_lifts_1 rfl rfl
theorem dX11_lifts_52 : decode cX11_lifts 52 = .ok (.aload_n 0, 1) := yd_op_42 (i := 14) yd_by_cX11_lifts_1 rfl rfl
theorem dX11_lifts_53 : decode cX11_lifts 53 = .ok (.getfield 31, 3) := yd_op_180 (i := 15) (a := 0) (b := 31) yd_by_cX11_lifts_1 rfl rfl
theorem dX11_lifts_56 : decode cX11_lifts 56 = .ok (.iload_n 2, 1) := yd_op_28 (i := 18) yd_by_cX11_lifts_1 rfl rfl
theorem dX11_lifts_57 : decode cX11_lifts 57 = .ok (.iload_n 3, 1) := yd_op_29 (i := 19) yd_by_cX11_lifts_1 rfl rfl
theorem dX11_lifts_58 : decode cX11_lifts 58 = .ok (.invokevirtual 190, 3) := yd_op_182 (i := 20) (a := 0) (b := 190) yd_by_cX11_lifts_1 rfl rfl
theorem dX11_lifts_61 : decode cX11_lifts 61 = .ok (.iadd, 1) := yd_op_96 (i := 23) yd_by_cX11_lifts_1 rfl rfl
theorem dX11_lifts_62 : decode cX11_lifts 62 = .ok (.iaload, 1) := yd_op_46 (i := 24) yd_by_cX11_lifts_1 rfl rfl
theorem dX11_lifts_63 : decode cX11_lifts 63 = .ok (.ireturn, 1) := yd_op_172 (i := 25) yd_by_cX11_lifts_1 rfl rfl
theorem dX11_kept_28 : decode cX11_kept 28 = .ok (.tableswitch 45 0 2 #[28, 33, 38], 28) := by decide +kernel
set_option maxRecDepth 100000 in
theorem yd_by_cX11_kept_0 : ydk cX11_kept 0 [27, 155, 0, 14, 27, 42, 180, 0, 66, 180, 0, 174, 161, 0, 5, 2, 172, 42, 180, 0, 66, 180, 0, 234, 27, 46, 62, 28, 170, 0, 0, 0, 0, 0, 0, 45, 0, 0, 0, 0, 0, 0, 0, 2, 0, 0, 0, 28, 0, 0, 0, 33, 0, 0, 0, 38, 29, 16, 6, 122, 172] = true := by decide +kernel
theorem dX11_kept_0 : decode cX11_kept 0 = .ok (.iload_n 1, 1) := yd_op_27 (i := 0) yd_by_cX11_kept_0 rfl rfl
theorem dX11_kept_1 : decode cX11_kept 1 = .ok (.ifCond .lt 14, 3) := yd_op_155 (i := 1) (a := 0) (b := 14) yd_by_cX11_kept_0 rfl rfl
theorem dX11_kept_4 : decode cX11_kept 4 = .ok (.iload_n 1, 1) := yd_op_27 (i := 4) yd_by_cX11_kept_0 rfl rfl
theorem dX11_kept_5 : decode cX11_kept 5 = .ok (.aload_n 0, 1) := yd_op_42 (i := 5) yd_by_cX11_kept_0 rfl rfl
theorem dX11_kept_6 : decode cX11_kept 6 = .ok (.getfield 66, 3) := yd_op_180 (i := 6) (a := 0) (b := 66) yd_by_cX11_kept_0 rfl rfl
theorem dX11_kept_9 : decode cX11_kept 9 = .ok (.getfield 174, 3) := yd_op_180 (i := 9) (a := 0) (b := 174) yd_by_cX11_kept_0 rfl rfl
theorem dX11_kept_12 : decode cX11_kept 12 = .ok (.if_icmp .lt 5, 3) := yd_op_161 (i := 12) (a := 0) (b := 5) yd_by_cX11_kept_0 rfl rfl
theorem dX11_kept_15 : decode cX11_kept 15 = .ok (.iconst (-1), 1) := yd_op_2 (i := 15) yd_by_cX11_kept_0 rfl rfl
theorem dX11_kept_16 : decode cX11_kept 16 = .ok (.ireturn, 1) := yd_op_172 (i := 16) yd_by_cX11_kept_0 rfl rfl
theorem dX11_kept_17 : decode cX11_kept 17 = .ok (.aload_n 0, 1) := yd_op_42 (i := 17) yd_by_cX11_kept_0 rfl rfl
theorem dX11_kept_18 : decode cX11_kept 18 = .ok (.getfield 66, 3) := yd_op_180 (i := 18) (a := 0) (b := 66) yd_by_cX11_kept_0 rfl rfl
theorem dX11_kept_21 : decode cX11_kept 21 = .ok (.getfield 234, 3) := yd_op_180 (i := 21) (a := 0) (b := 234) yd_by_cX11_kept_0 rfl rfl
theorem dX11_kept_24 : decode cX11_kept 24 = .ok (.iload_n 1, 1) := yd_op_27 (i := 24) yd_by_cX11_kept_0 rfl rfl
theorem dX11_kept_25 : decode cX11_kept 25 = .ok (.iaload, 1) := yd_op_46 (i := 25) yd_by_cX11_kept_0 rfl rfl
theorem dX11_kept_26 : decode cX11_kept 26 = .ok (.istore_n 3, 1) := yd_op_62 (i := 26) yd_by_cX11_kept_0 rfl rfl
theorem dX11_kept_27 : decode cX11_kept 27 = .ok (.iload_n 2, 1) := yd_op_28 (i := 27) yd_by_cX11_kept_0 rfl rfl
theorem dX11_kept_56 : decode cX11_kept 56 = .ok (.iload_n 3, 1) := yd_op_29 (i := 56) yd_by_cX11_kept_0 rfl rfl
theorem dX11_kept_57 : decode cX11_kept 57 = .ok (.bipush 6, 2) := yd_op_16 (i := 57) (a := 6) yd_by_cX11_kept_0 rfl rfl
theorem dX11_kept_59 : decode cX11_kept 59 = .ok (.ishr, 1) := yd_op_122 (i := 59) yd_by_cX11_kept_0 rfl rfl
theorem dX11_kept_60 : decode cX11_kept 60 = .ok (.ireturn, 1) := yd_op_172 (i := 60) yd_by_cX11_kept_0 rfl rfl
set_option maxRecDepth 100000 in
theorem yd_by_cX11_kept_1 : ydk cX11_kept 61 [29, 16, 7, 126, 172, 29, 6, 122, 16, 7, 126, 172, 2, 172] = true := by decide +kernel
theorem dX11_kept_61 : decode cX11_kept 61 = .ok (.iload_n 3, 1) := yd_op_29 (i := 0) yd_by_cX11_kept_1 rfl rfl
theorem dX11_kept_62 : decode cX11_kept 62 = .ok (.bipush 7, 2) := yd_op_16 (i := 1) (a := 7) yd_by_cX11_kept_1 rfl rfl
theorem dX11_kept_64 : decode cX11_kept 64 = .ok (.iand, 1) := yd_op_126 (i := 3) yd_by_cX11_kept_1 rfl rfl
theorem dX11_kept_65 : decode cX11_kept 65 = .ok (.ireturn, 1) := yd_op_172 (i := 4) yd_by_cX11_kept_1 rfl rfl
theorem dX11_kept_66 : decode cX11_kept 66 = .ok (.iload_n 3, 1) := yd_op_29 (i := 5) yd_by_cX11_kept_1 rfl rfl
theorem dX11_kept_67 : decode cX11_kept 67 = .ok (.iconst 3, 1) := yd_op_6 (i := 6) yd_by_cX11_kept_1 rfl rfl
theorem dX11_kept_68 : decode cX11_kept 68 = .ok (.ishr, 1) := yd_op_122 (i := 7) yd_by_cX11_kept_1 rfl rfl
theorem dX11_kept_69 : decode cX11_kept 69 = .ok (.bipush 7, 2) := yd_op_16 (i := 8) (a := 7) yd_by_cX11_kept_1 rfl rfl
theorem dX11_kept_71 : decode cX11_kept 71 = .ok (.iand, 1) := yd_op_126 (i := 10) yd_by_cX11_kept_1 rfl rfl
theorem dX11_kept_72 : decode cX11_kept 72 = .ok (.ireturn, 1) := yd_op_172 (i := 11) yd_by_cX11_kept_1 rfl rfl
theorem dX11_kept_73 : decode cX11_kept 73 = .ok (.iconst (-1), 1) := yd_op_2 (i := 12) yd_by_cX11_kept_1 rfl rfl
theorem dX11_kept_74 : decode cX11_kept 74 = .ok (.ireturn, 1) := yd_op_172 (i := 13) yd_by_cX11_kept_1 rfl rfl
theorem dX11_later_50 : decode cX11_later 50 = .ok (.lookupswitch 45 #[(0, 26), (1, 37)], 26) := by decide +kernel
set_option maxRecDepth 100000 in
theorem yd_by_cX11_later_0 : ydk cX11_later 0 [42, 27, 3, 16, 60, 182, 0, 237, 153, 0, 12, 28, 155, 0, 8, 28, 5, 164, 0, 5, 2, 172, 42, 3, 182, 0, 241, 3, 62, 29, 27] = true := by decide +kernel
theorem dX11_later_0 : decode cX11_later 0 = .ok (.aload_n 0, 1) := yd_op_42 (i := 0) yd_by_cX11_later_0 rfl rfl
theorem dX11_later_1 : decode cX11_later 1 = .ok (.iload_n 1, 1) := yd_op_27 (i := 1) yd_by_cX11_later_0 rfl rfl
theorem dX11_later_2 : decode cX11_later 2 = .ok (.iconst 0, 1) := yd_op_3 (i := 2) yd_by_cX11_later_0 rfl rfl
theorem dX11_later_3 : decode cX11_later 3 = .ok (.bipush 60, 2) := yd_op_16 (i := 3) (a := 60) yd_by_cX11_later_0 rfl rfl
theorem dX11_later_5 : decode cX11_later 5 = .ok (.invokevirtual 237, 3) := yd_op_182 (i := 5) (a := 0) (b := 237) yd_by_cX11_later_0 rfl rfl
theorem dX11_later_8 : decode cX11_later 8 = .ok (.ifCond .eq 12, 3) := yd_op_153 (i := 8) (a := 0) (b := 12) yd_by_cX11_later_0 rfl rfl
theorem dX11_later_11 : decode cX11_later 11 = .ok (.iload_n 2, 1) := yd_op_28 (i := 11) yd_by_cX11_later_0 rfl rfl
theorem dX11_later_12 : decode cX11_later 12 = .ok (.ifCond .lt 8, 3) := yd_op_155 (i := 12) (a := 0) (b := 8) yd_by_cX11_later_0 rfl rfl
theorem dX11_later_15 : decode cX11_later 15 = .ok (.iload_n 2, 1) := yd_op_28 (i := 15) yd_by_cX11_later_0 rfl rfl
theorem dX11_later_16 : decode cX11_later 16 = .ok (.iconst 2, 1) := yd_op_5 (i := 16) yd_by_cX11_later_0 rfl rfl
theorem dX11_later_17 : decode cX11_later 17 = .ok (.if_icmp .le 5, 3) := yd_op_164 (i := 17) (a := 0) (b := 5) yd_by_cX11_later_0 rfl rfl
theorem dX11_later_20 : decode cX11_later 20 = .ok (.iconst (-1), 1) := yd_op_2 (i := 20) yd_by_cX11_later_0 rfl rfl
theorem dX11_later_21 : decode cX11_later 21 = .ok (.ireturn, 1) := yd_op_172 (i := 21) yd_by_cX11_later_0 rfl rfl
theorem dX11_later_22 : decode cX11_later 22 = .ok (.aload_n 0, 1) := yd_op_42 (i := 22) yd_by_cX11_later_0 rfl rfl
theorem dX11_later_23 : decode cX11_later 23 = .ok (.iconst 0, 1) := yd_op_3 (i := 23) yd_by_cX11_later_0 rfl rfl
theorem dX11_later_24 : decode cX11_later 24 = .ok (.invokevirtual 241, 3) := yd_op_182 (i := 24) (a := 0) (b := 241) yd_by_cX11_later_0 rfl rfl
theorem dX11_later_27 : decode cX11_later 27 = .ok (.iconst 0, 1) := yd_op_3 (i := 27) yd_by_cX11_later_0 rfl rfl
theorem dX11_later_28 : decode cX11_later 28 = .ok (.istore_n 3, 1) := yd_op_62 (i := 28) yd_by_cX11_later_0 rfl rfl
theorem dX11_later_29 : decode cX11_later 29 = .ok (.iload_n 3, 1) := yd_op_29 (i := 29) yd_by_cX11_later_0 rfl rfl
theorem dX11_later_30 : decode cX11_later 30 = .ok (.iload_n 1, 1) := yd_op_27 (i := 30) yd_by_cX11_later_0 rfl rfl
set_option maxRecDepth 100000 in
theorem yd_by_cX11_later_1 : ydk cX11_later 31 [162, 0, 18, 42, 180, 0, 92, 2, 182, 0, 244, 88, 132, 3, 1, 167, 255, 239, 28, 171, 0, 0, 0, 0, 45, 0, 0, 0, 2, 0, 0, 0, 0, 0, 0, 0, 26, 0, 0, 0, 1, 0, 0, 0, 37, 42, 180, 0, 70, 180, 0, 153, 184, 0, 157, 172, 42, 180, 0, 92, 182, 0, 248, 172, 42, 180, 0, 70] = true := by decide +kernel
theorem dX11_later_31 : decode cX11_later 31 = .ok (.if_icmp .ge 18, 3) := yd_op_162 (i := 0) (a := 0) (b := 18) yd_by_cX11_later_1 rfl rfl
theorem dX11_later_34 : decode cX11_later 34 = .ok (.aload_n 0, 1) := yd_op_42 (i := 3) yd_by_cX11_later_1 rfl rfl
theorem dX11_later_35 : decode cX11_later 35 = .ok (.getfield 92, 3) := yd_op_180 (i := 4) (a := 0) (b := 92) yd_by_cX11_later_1 rfl rfl
theorem dX11_later_38 : decode cX11_later 38 = .ok (.iconst (-1), 1) := yd_op_2 (i := 7) yd_by_cX11_later_1 rfl rfl
theorem dX11_later_39 : decode cX11_later 39 = .ok (.invokevirtual 244, 3) := yd_op_182 (i := 8) (a := 0) (b := 244) yd_by_cX11_later_1 rfl rfl
theorem dX11_later_42 : decode cX11_later 42 = .ok (.pop2, 1) := yd_op_88 (i := 11) yd_by_cX11_later_1 rfl rfl
theorem dX11_later_43 : decode cX11_later 43 = .ok (.iinc 3 1, 3) := yd_op_132 (i := 12) (a := 3) (b := 1) yd_by_cX11_later_1 rfl rfl
theorem dX11_later_46 : decode cX11_later 46 = .ok (.goto (-17), 3) := yd_op_167 (i := 15) (a := 255) (b := 239) yd_by_cX11_later_1 rfl rfl
theorem dX11_later_49 : decode cX11_later 49 = .ok (.iload_n 2, 1) := yd_op_28 (i := 18) yd_by_cX11_later_1 rfl rfl
theorem dX11_later_76 : decode cX11_later 76 = .ok (.aload_n 0, 1) := yd_op_42 (i := 45) yd_by_cX11_later_1 rfl rfl
theorem dX11_later_77 : decode cX11_later 77 = .ok (.getfield 70, 3) := yd_op_180 (i := 46) (a := 0) (b := 70) yd_by_cX11_later_1 rfl rfl
theorem dX11_later_80 : decode cX11_later 80 = .ok (.getfield 153, 3) := yd_op_180 (i := 49) (a := 0) (b := 153) yd_by_cX11_later_1 rfl rfl
theorem dX11_later_83 : decode cX11_later 83 = .ok (.invokestatic 157, 3) := yd_op_184 (i := 52) (a := 0) (b := 157) yd_by_cX11_later_1 rfl rfl
theorem dX11_later_86 : decode cX11_later 86 = .ok (.ireturn, 1) := yd_op_172 (i := 55) yd_by_cX11_later_1 rfl rfl
theorem dX11_later_87 : decode cX11_later 87 = .ok (.aload_n 0, 1) := yd_op_42 (i := 56) yd_by_cX11_later_1 rfl rfl
theorem dX11_later_88 : decode cX11_later 88 = .ok (.getfield 92, 3) := yd_op_180 (i := 57) (a := 0) (b := 92) yd_by_cX11_later_1 rfl rfl
theorem dX11_later_91 : decode cX11_later 91 = .ok (.invokevirtual 248, 3) := yd_op_182 (i := 60) (a := 0) (b := 248) yd_by_cX11_later_1 rfl rfl
theorem dX11_later_94 : decode cX11_later 94 = .ok (.ireturn, 1) := yd_op_172 (i := 63) yd_by_cX11_later_1 rfl rfl
theorem dX11_later_95 : decode cX11_later 95 = .ok (.aload_n 0, 1) := yd_op_42 (i := 64) yd_by_cX11_later_1 rfl rfl
theorem dX11_later_96 : decode cX11_later 96 = .ok (.getfield 70, 3) := yd_op_180 (i := 65) (a := 0) (b := 70) yd_by_cX11_later_1 rfl rfl
set_option maxRecDepth 100000 in
theorem yd_by_cX11_later_2 : ydk cX11_later 99 [42, 180, 0, 31, 180, 0, 147, 182, 0, 251, 172] = true := by decide +kernel
theorem dX11_later_99 : decode cX11_later 99 = .ok (.aload_n 0, 1) := yd_op_42 (i := 0) yd_by_cX11_later_2 rfl rfl
theorem dX11_later_100 : decode cX11_later 100 = .ok (.getfield 31, 3) := yd_op_180 (i := 1) (a := 0) (b := 31) yd_by_cX11_later_2 rfl rfl
theorem dX11_later_103 : decode cX11_later 103 = .ok (.getfield 147, 3) := yd_op_180 (i := 4) (a := 0) (b := 147) yd_by_cX11_later_2 rfl rfl
theorem dX11_later_106 : decode cX11_later 106 = .ok (.invokevirtual 251, 3) := yd_op_182 (i := 7) (a := 0) (b := 251) yd_by_cX11_later_2 rfl rfl
theorem dX11_later_109 : decode cX11_later 109 = .ok (.ireturn, 1) := yd_op_172 (i := 10) yd_by_cX11_later_2 rfl rfl
set_option maxRecDepth 100000 in
theorem yd_by_cX11_next_0 : ydk cX11_next 0 [16, 60, 17, 3, 231, 42, 180, 0, 66, 180, 0, 150, 100, 184, 0, 254, 60, 42, 3, 182, 0, 241, 4, 61, 28, 27, 163, 0, 24, 42, 180, 0, 92, 2, 182, 0, 244] = true := by decide +kernel
theorem dX11_next_0 : decode cX11_next 0 = .ok (.bipush 60, 2) := yd_op_16 (i := 0) (a := 60) yd_by_cX11_next_0 rfl rfl
theorem dX11_next_2 : decode cX11_next 2 = .ok (.sipush 999, 3) := yd_op_17 (i := 2) (a := 3) (b := 231) yd_by_cX11_next_0 rfl rfl
theorem dX11_next_5 : decode cX11_next 5 = .ok (.aload_n 0, 1) := yd_op_42 (i := 5) yd_by_cX11_next_0 rfl rfl
theorem dX11_next_6 : decode cX11_next 6 = .ok (.getfield 66, 3) := yd_op_180 (i := 6) (a := 0) (b := 66) yd_by_cX11_next_0 rfl rfl
theorem dX11_next_9 : decode cX11_next 9 = .ok (.getfield 150, 3) := yd_op_180 (i := 9) (a := 0) (b := 150) yd_by_cX11_next_0 rfl rfl
theorem dX11_next_12 : decode cX11_next 12 = .ok (.isub, 1) := yd_op_100 (i := 12) yd_by_cX11_next_0 rfl rfl
theorem dX11_next_13 : decode cX11_next 13 = .ok (.invokestatic 254, 3) := yd_op_184 (i := 13) (a := 0) (b := 254) yd_by_cX11_next_0 rfl rfl
theorem dX11_next_16 : decode cX11_next 16 = .ok (.istore_n 1, 1) := yd_op_60 (i := 16) yd_by_cX11_next_0 rfl rfl
theorem dX11_next_17 : decode cX11_next 17 = .ok (.aload_n 0, 1) := yd_op_42 (i := 17) yd_by_cX11_next_0 rfl rfl
theorem dX11_next_18 : decode cX11_next 18 = .ok (.iconst 0, 1) := yd_op_3 (i := 18) yd_by_cX11_next_0 rfl rfl
theorem dX11_next_19 : decode cX11_next 19 = .ok (.invokevirtual 241, 3) := yd_op_182 (i := 19) (a := 0) (b := 241) yd_by_cX11_next_0 rfl rfl
theorem dX11_next_22 : decode cX11_next 22 = .ok (.iconst 1, 1) := yd_op_4 (i := 22) yd_by_cX11_next_0 rfl rfl
theorem dX11_next_23 : decode cX11_next 23 = .ok (.istore_n 2, 1) := yd_op_61 (i := 23) yd_by_cX11_next_0 rfl rfl
theorem dX11_next_24 : decode cX11_next 24 = .ok (.iload_n 2, 1) := yd_op_28 (i := 24) yd_by_cX11_next_0 rfl rfl
theorem dX11_next_25 : decode cX11_next 25 = .ok (.iload_n 1, 1) := yd_op_27 (i := 25) yd_by_cX11_next_0 rfl rfl
theorem dX11_next_26 : decode cX11_next 26 = .ok (.if_icmp .gt 24, 3) := yd_op_163 (i := 26) (a := 0) (b := 24) yd_by_cX11_next_0 rfl rfl
theorem dX11_next_29 : decode cX11_next 29 = .ok (.aload_n 0, 1) := yd_op_42 (i := 29) yd_by_cX11_next_0 rfl rfl
theorem dX11_next_30 : decode cX11_next 30 = .ok (.getfield 92, 3) := yd_op_180 (i := 30) (a := 0) (b := 92) yd_by_cX11_next_0 rfl rfl
theorem dX11_next_33 : decode cX11_next 33 = .ok (.iconst (-1), 1) := yd_op_2 (i := 33) yd_by_cX11_next_0 rfl rfl
theorem dX11_next_34 : decode cX11_next 34 = .ok (.invokevirtual 244, 3) := yd_op_182 (i := 34) (a := 0) (b := 244) yd_by_cX11_next_0 rfl rfl
set_option maxRecDepth 100000 in
theorem yd_by_cX11_next_1 : ydk cX11_next 37 [9, 148, 153, 0, 5, 28, 172, 132, 2, 1, 167, 255, 233, 2, 172] = true := by decide +kernel
theorem dX11_next_37 : decode cX11_next 37 = .ok (.lconst 0, 1) := yd_op_9 (i := 0) yd_by_cX11_next_1 rfl rfl
theorem dX11_next_38 : decode cX11_next 38 = .ok (.lcmp, 1) := yd_op_148 (i := 1) yd_by_cX11_next_1 rfl rfl
theorem dX11_next_39 : decode cX11_next 39 = .ok (.ifCond .eq 5, 3) := yd_op_153 (i := 2) (a := 0) (b := 5) yd_by_cX11_next_1 rfl rfl
theorem dX11_next_42 : decode cX11_next 42 = .ok (.iload_n 2, 1) := yd_op_28 (i := 5) yd_by_cX11_next_1 rfl rfl
theorem dX11_next_43 : decode cX11_next 43 = .ok (.ireturn, 1) := yd_op_172 (i := 6) yd_by_cX11_next_1 rfl rfl
theorem dX11_next_44 : decode cX11_next 44 = .ok (.iinc 2 1, 3) := yd_op_132 (i := 7) (a := 2) (b := 1) yd_by_cX11_next_1 rfl rfl
theorem dX11_next_47 : decode cX11_next 47 = .ok (.goto (-23), 3) := yd_op_167 (i := 10) (a := 255) (b := 233) yd_by_cX11_next_1 rfl rfl
theorem dX11_next_50 : decode cX11_next 50 = .ok (.iconst (-1), 1) := yd_op_2 (i := 13) yd_by_cX11_next_1 rfl rfl
theorem dX11_next_51 : decode cX11_next 51 = .ok (.ireturn, 1) := yd_op_172 (i := 14) yd_by_cX11_next_1 rfl rfl
set_option maxRecDepth 100000 in
theorem yd_by_cX11_lasts_0 : ydk cX11_lasts 0 [42, 27, 4, 16, 30, 182, 0, 237, 154, 0, 5, 2, 172, 3, 61, 28, 16, 99, 163, 0, 20, 42, 27, 28, 182, 1, 3, 153, 0, 5, 28, 172] = true := by decide +kernel
theorem dX11_lasts_0 : decode cX11_lasts 0 = .ok (.aload_n 0, 1) := yd_op_42 (i := 0) yd_by_cX11_lasts_0 rfl rfl
theorem dX11_lasts_1 : decode cX11_lasts 1 = .ok (.iload_n 1, 1) := yd_op_27 (i := 1) yd_by_cX11_lasts_0 rfl rfl
theorem dX11_lasts_2 : decode cX11_lasts 2 = .ok (.iconst 1, 1) := yd_op_4 (i := 2) yd_by_cX11_lasts_0 rfl rfl
theorem dX11_lasts_3 : decode cX11_lasts 3 = .ok (.bipush 30, 2) := yd_op_16 (i := 3) (a := 30) yd_by_cX11_lasts_0 rfl rfl
theorem dX11_lasts_5 : decode cX11_lasts 5 = .ok (.invokevirtual 237, 3) := yd_op_182 (i := 5) (a := 0) (b := 237) yd_by_cX11_lasts_0 rfl rfl
theorem dX11_lasts_8 : decode cX11_lasts 8 = .ok (.ifCond .ne 5, 3) := yd_op_154 (i := 8) (a := 0) (b := 5) yd_by_cX11_lasts_0 rfl rfl
theorem dX11_lasts_11 : decode cX11_lasts 11 = .ok (.iconst (-1), 1) := yd_op_2 (i := 11) yd_by_cX11_lasts_0 rfl rfl
theorem dX11_lasts_12 : decode cX11_lasts 12 = .ok (.ireturn, 1) := yd_op_172 (i := 12) yd_by_cX11_lasts_0 rfl rfl
theorem dX11_lasts_13 : decode cX11_lasts 13 = .ok (.iconst 0, 1) := yd_op_3 (i := 13) yd_by_cX11_lasts_0 rfl rfl
theorem dX11_lasts_14 : decode cX11_lasts 14 = .ok (.istore_n 2, 1) := yd_op_61 (i := 14) yd_by_cX11_lasts_0 rfl rfl
theorem dX11_lasts_15 : decode cX11_lasts 15 = .ok (.iload_n 2, 1) := yd_op_28 (i := 15) yd_by_cX11_lasts_0 rfl rfl
theorem dX11_lasts_16 : decode cX11_lasts 16 = .ok (.bipush 99, 2) := yd_op_16 (i := 16) (a := 99) yd_by_cX11_lasts_0 rfl rfl
theorem dX11_lasts_18 : decode cX11_lasts 18 = .ok (.if_icmp .gt 20, 3) := yd_op_163 (i := 18) (a := 0) (b := 20) yd_by_cX11_lasts_0 rfl rfl
theorem dX11_lasts_21 : decode cX11_lasts 21 = .ok (.aload_n 0, 1) := yd_op_42 (i := 21) yd_by_cX11_lasts_0 rfl rfl
theorem dX11_lasts_22 : decode cX11_lasts 22 = .ok (.iload_n 1, 1) := yd_op_27 (i := 22) yd_by_cX11_lasts_0 rfl rfl
theorem dX11_lasts_23 : decode cX11_lasts 23 = .ok (.iload_n 2, 1) := yd_op_28 (i := 23) yd_by_cX11_lasts_0 rfl rfl
theorem dX11_lasts_24 : decode cX11_lasts 24 = .ok (.invokevirtual 259, 3) := yd_op_182 (i := 24) (a := 1) (b := 3) yd_by_cX11_lasts_0 rfl rfl
theorem dX11_lasts_27 : decode cX11_lasts 27 = .ok (.ifCond .eq 5, 3) := yd_op_153 (i := 27) (a := 0) (b := 5) yd_by_cX11_lasts_0 rfl rfl
theorem dX11_lasts_30 : decode cX11_lasts 30 = .ok (.iload_n 2, 1) := yd_op_28 (i := 30) yd_by_cX11_lasts_0 rfl rfl
theorem dX11_lasts_31 : decode cX11_lasts 31 = .ok (.ireturn, 1) := yd_op_172 (i := 31) yd_by_cX11_lasts_0 rfl rfl
set_option maxRecDepth 100000 in
theorem yd_by_cX11_lasts_1 : ydk cX11_lasts 32 [132, 2, 1, 167, 255, 236, 2, 172] = true := by decide +kernel
theorem dX11_lasts_32 : decode cX11_lasts 32 = .ok (.iinc 2 1, 3) := yd_op_132 (i := 0) (a := 2) (b := 1) yd_by_cX11_lasts_1 rfl rfl
theorem dX11_lasts_35 : decode cX11_lasts 35 = .ok (.goto (-20), 3) := yd_op_167 (i := 3) (a := 255) (b := 236) yd_by_cX11_lasts_1 rfl rfl
theorem dX11_lasts_38 : decode cX11_lasts 38 = .ok (.iconst (-1), 1) := yd_op_2 (i := 6) yd_by_cX11_lasts_1 rfl rfl
theorem dX11_lasts_39 : decode cX11_lasts 39 = .ok (.ireturn, 1) := yd_op_172 (i := 7) yd_by_cX11_lasts_1 rfl rfl
set_option maxRecDepth 100000 in
theorem yd_by_cX11_free_0 : ydk cX11_free 0 [42, 180, 0, 92, 42, 182, 0, 200, 182, 1, 6, 172] = true := by decide +kernel
theorem dX11_free_0 : decode cX11_free 0 = .ok (.aload_n 0, 1) := yd_op_42 (i := 0) yd_by_cX11_free_0 rfl rfl
theorem dX11_free_1 : decode cX11_free 1 = .ok (.getfield 92, 3) := yd_op_180 (i := 1) (a := 0) (b := 92) yd_by_cX11_free_0 rfl rfl
theorem dX11_free_4 : decode cX11_free 4 = .ok (.aload_n 0, 1) := yd_op_42 (i := 4) yd_by_cX11_free_0 rfl rfl
theorem dX11_free_5 : decode cX11_free 5 = .ok (.invokevirtual 200, 3) := yd_op_182 (i := 5) (a := 0) (b := 200) yd_by_cX11_free_0 rfl rfl
theorem dX11_free_8 : decode cX11_free 8 = .ok (.invokevirtual 262, 3) := yd_op_182 (i := 8) (a := 1) (b := 6) yd_by_cX11_free_0 rfl rfl
theorem dX11_free_11 : decode cX11_free 11 = .ok (.ireturn, 1) := yd_op_172 (i := 11) yd_by_cX11_free_0 rfl rfl
set_option maxRecDepth 100000 in
theorem yd_by_cX11_needed_0 : ydk cX11_needed 0 [42, 180, 0, 31, 182, 1, 9, 154, 0, 5, 2, 172, 42, 182, 0, 200, 87, 42, 180, 0, 83, 42, 180, 0, 92, 182, 1, 13, 172] = true := by decide +kernel
theorem dX11_needed_0 : decode cX11_needed 0 = .ok (.aload_n 0, 1) := yd_op_42 (i := 0) yd_by_cX11_needed_0 rfl rfl
theorem dX11_needed_1 : decode cX11_needed 1 = .ok (.getfield 31, 3) := yd_op_180 (i := 1) (a := 0) (b := 31) yd_by_cX11_needed_0 rfl rfl
theorem dX11_needed_4 : decode cX11_needed 4 = .ok (.invokevirtual 265, 3) := yd_op_182 (i := 4) (a := 1) (b := 9) yd_by_cX11_needed_0 rfl rfl
theorem dX11_needed_7 : decode cX11_needed 7 = .ok (.ifCond .ne 5, 3) := yd_op_154 (i := 7) (a := 0) (b := 5) yd_by_cX11_needed_0 rfl rfl
theorem dX11_needed_10 : decode cX11_needed 10 = .ok (.iconst (-1), 1) := yd_op_2 (i := 10) yd_by_cX11_needed_0 rfl rfl
theorem dX11_needed_11 : decode cX11_needed 11 = .ok (.ireturn, 1) := yd_op_172 (i := 11) yd_by_cX11_needed_0 rfl rfl
theorem dX11_needed_12 : decode cX11_needed 12 = .ok (.aload_n 0, 1) := yd_op_42 (i := 12) yd_by_cX11_needed_0 rfl rfl
theorem dX11_needed_13 : decode cX11_needed 13 = .ok (.invokevirtual 200, 3) := yd_op_182 (i := 13) (a := 0) (b := 200) yd_by_cX11_needed_0 rfl rfl
theorem dX11_needed_16 : decode cX11_needed 16 = .ok (.pop, 1) := yd_op_87 (i := 16) yd_by_cX11_needed_0 rfl rfl
theorem dX11_needed_17 : decode cX11_needed 17 = .ok (.aload_n 0, 1) := yd_op_42 (i := 17) yd_by_cX11_needed_0 rfl rfl
theorem dX11_needed_18 : decode cX11_needed 18 = .ok (.getfield 83, 3) := yd_op_180 (i := 18) (a := 0) (b := 83) yd_by_cX11_needed_0 rfl rfl
theorem dX11_needed_21 : decode cX11_needed 21 = .ok (.aload_n 0, 1) := yd_op_42 (i := 21) yd_by_cX11_needed_0 rfl rfl
theorem dX11_needed_22 : decode cX11_needed 22 = .ok (.getfield 92, 3) := yd_op_180 (i := 22) (a := 0) (b := 92) yd_by_cX11_needed_0 rfl rfl
theorem dX11_needed_25 : decode cX11_needed 25 = .ok (.invokevirtual 269, 3) := yd_op_182 (i := 25) (a := 1) (b := 13) yd_by_cX11_needed_0 rfl rfl
theorem dX11_needed_28 : decode cX11_needed 28 = .ok (.ireturn, 1) := yd_op_172 (i := 28) yd_by_cX11_needed_0 rfl rfl
set_option maxRecDepth 100000 in
theorem yd_by_cX11_stand_0 : ydk cX11_stand 0 [42, 180, 0, 31, 27, 182, 0, 177, 153, 0, 17, 42, 180, 0, 66, 180, 0, 171, 27, 122, 4, 126, 153, 0, 5, 2, 172, 42, 182, 0, 163, 4, 27, 120] = true := by decide +kernel
theorem dX11_stand_0 : decode cX11_stand 0 = .ok (.aload_n 0, 1) := yd_op_42 (i := 0) yd_by_cX11_stand_0 rfl rfl
theorem dX11_stand_1 : decode cX11_stand 1 = .ok (.getfield 31, 3) := yd_op_180 (i := 1) (a := 0) (b := 31) yd_by_cX11_stand_0 rfl rfl
theorem dX11_stand_4 : decode cX11_stand 4 = .ok (.iload_n 1, 1) := yd_op_27 (i := 4) yd_by_cX11_stand_0 rfl rfl
theorem dX11_stand_5 : decode cX11_stand 5 = .ok (.invokevirtual 177, 3) := yd_op_182 (i := 5) (a := 0) (b := 177) yd_by_cX11_stand_0 rfl rfl
theorem dX11_stand_8 : decode cX11_stand 8 = .ok (.ifCond .eq 17, 3) := yd_op_153 (i := 8) (a := 0) (b := 17) yd_by_cX11_stand_0 rfl rfl
theorem dX11_stand_11 : decode cX11_stand 11 = .ok (.aload_n 0, 1) := yd_op_42 (i := 11) yd_by_cX11_stand_0 rfl rfl
theorem dX11_stand_12 : decode cX11_stand 12 = .ok (.getfield 66, 3) := yd_op_180 (i := 12) (a := 0) (b := 66) yd_by_cX11_stand_0 rfl rfl
theorem dX11_stand_15 : decode cX11_stand 15 = .ok (.getfield 171, 3) := yd_op_180 (i := 15) (a := 0) (b := 171) yd_by_cX11_stand_0 rfl rfl
theorem dX11_stand_18 : decode cX11_stand 18 = .ok (.iload_n 1, 1) := yd_op_27 (i := 18) yd_by_cX11_stand_0 rfl rfl
theorem dX11_stand_19 : decode cX11_stand 19 = .ok (.ishr, 1) := yd_op_122 (i := 19) yd_by_cX11_stand_0 rfl rfl
theorem dX11_stand_20 : decode cX11_stand 20 = .ok (.iconst 1, 1) := yd_op_4 (i := 20) yd_by_cX11_stand_0 rfl rfl
theorem dX11_stand_21 : decode cX11_stand 21 = .ok (.iand, 1) := yd_op_126 (i := 21) yd_by_cX11_stand_0 rfl rfl
theorem dX11_stand_22 : decode cX11_stand 22 = .ok (.ifCond .eq 5, 3) := yd_op_153 (i := 22) (a := 0) (b := 5) yd_by_cX11_stand_0 rfl rfl
theorem dX11_stand_25 : decode cX11_stand 25 = .ok (.iconst (-1), 1) := yd_op_2 (i := 25) yd_by_cX11_stand_0 rfl rfl
theorem dX11_stand_26 : decode cX11_stand 26 = .ok (.ireturn, 1) := yd_op_172 (i := 26) yd_by_cX11_stand_0 rfl rfl
theorem dX11_stand_27 : decode cX11_stand 27 = .ok (.aload_n 0, 1) := yd_op_42 (i := 27) yd_by_cX11_stand_0 rfl rfl
theorem dX11_stand_28 : decode cX11_stand 28 = .ok (.invokevirtual 163, 3) := yd_op_182 (i := 28) (a := 0) (b := 163) yd_by_cX11_stand_0 rfl rfl
theorem dX11_stand_31 : decode cX11_stand 31 = .ok (.iconst 1, 1) := yd_op_4 (i := 31) yd_by_cX11_stand_0 rfl rfl
theorem dX11_stand_32 : decode cX11_stand 32 = .ok (.iload_n 1, 1) := yd_op_27 (i := 32) yd_by_cX11_stand_0 rfl rfl
theorem dX11_stand_33 : decode cX11_stand 33 = .ok (.ishl, 1) := yd_op_120 (i := 33) yd_by_cX11_stand_0 rfl rfl
set_option maxRecDepth 100000 in
theorem yd_by_cX11_stand_1 : ydk cX11_stand 34 [2, 130, 126, 62, 42, 180, 0, 92, 29, 182, 1, 17, 42, 42, 180, 0, 92, 27, 182, 1, 20, 28, 182, 1, 23, 172] = true := by decide +kernel
theorem dX11_stand_34 : decode cX11_stand 34 = .ok (.iconst (-1), 1) := yd_op_2 (i := 0) yd_by_cX11_stand_1 rfl rfl
theorem dX11_stand_35 : decode cX11_stand 35 = .ok (.ixor, 1) := yd_op_130 (i := 1) yd_by_cX11_stand_1 rfl rfl
theorem dX11_stand_36 : decode cX11_stand 36 = .ok (.iand, 1) := yd_op_126 (i := 2) yd_by_cX11_stand_1 rfl rfl
theorem dX11_stand_37 : decode cX11_stand 37 = .ok (.istore_n 3, 1) := yd_op_62 (i := 3) yd_by_cX11_stand_1 rfl rfl
theorem dX11_stand_38 : decode cX11_stand 38 = .ok (.aload_n 0, 1) := yd_op_42 (i := 4) yd_by_cX11_stand_1 rfl rfl
theorem dX11_stand_39 : decode cX11_stand 39 = .ok (.getfield 92, 3) := yd_op_180 (i := 5) (a := 0) (b := 92) yd_by_cX11_stand_1 rfl rfl
theorem dX11_stand_42 : decode cX11_stand 42 = .ok (.iload_n 3, 1) := yd_op_29 (i := 8) yd_by_cX11_stand_1 rfl rfl
theorem dX11_stand_43 : decode cX11_stand 43 = .ok (.invokevirtual 273, 3) := yd_op_182 (i := 9) (a := 1) (b := 17) yd_by_cX11_stand_1 rfl rfl
theorem dX11_stand_46 : decode cX11_stand 46 = .ok (.aload_n 0, 1) := yd_op_42 (i := 12) yd_by_cX11_stand_1 rfl rfl
theorem dX11_stand_47 : decode cX11_stand 47 = .ok (.aload_n 0, 1) := yd_op_42 (i := 13) yd_by_cX11_stand_1 rfl rfl
theorem dX11_stand_48 : decode cX11_stand 48 = .ok (.getfield 92, 3) := yd_op_180 (i := 14) (a := 0) (b := 92) yd_by_cX11_stand_1 rfl rfl
theorem dX11_stand_51 : decode cX11_stand 51 = .ok (.iload_n 1, 1) := yd_op_27 (i := 17) yd_by_cX11_stand_1 rfl rfl
theorem dX11_stand_52 : decode cX11_stand 52 = .ok (.invokevirtual 276, 3) := yd_op_182 (i := 18) (a := 1) (b := 20) yd_by_cX11_stand_1 rfl rfl
theorem dX11_stand_55 : decode cX11_stand 55 = .ok (.iload_n 2, 1) := yd_op_28 (i := 21) yd_by_cX11_stand_1 rfl rfl
theorem dX11_stand_56 : decode cX11_stand 56 = .ok (.invokevirtual 279, 3) := yd_op_182 (i := 22) (a := 1) (b := 23) yd_by_cX11_stand_1 rfl rfl
theorem dX11_stand_59 : decode cX11_stand 59 = .ok (.ireturn, 1) := yd_op_172 (i := 25) yd_by_cX11_stand_1 rfl rfl
set_option maxRecDepth 100000 in
theorem yd_by_cX11_weak_0 : ydk cX11_weak 0 [27, 5, 160, 0, 5, 2, 172, 42, 182, 0, 200, 87, 42, 42, 180, 0, 92, 182, 1, 26, 27, 182, 1, 23, 172] = true := by decide +kernel
theorem dX11_weak_0 : decode cX11_weak 0 = .ok (.iload_n 1, 1) := yd_op_27 (i := 0) yd_by_cX11_weak_0 rfl rfl
theorem dX11_weak_1 : decode cX11_weak 1 = .ok (.iconst 2, 1) := yd_op_5 (i := 1) yd_by_cX11_weak_0 rfl rfl
theorem dX11_weak_2 : decode cX11_weak 2 = .ok (.if_icmp .ne 5, 3) := yd_op_160 (i := 2) (a := 0) (b := 5) yd_by_cX11_weak_0 rfl rfl
theorem dX11_weak_5 : decode cX11_weak 5 = .ok (.iconst (-1), 1) := yd_op_2 (i := 5) yd_by_cX11_weak_0 rfl rfl
theorem dX11_weak_6 : decode cX11_weak 6 = .ok (.ireturn, 1) := yd_op_172 (i := 6) yd_by_cX11_weak_0 rfl rfl
theorem dX11_weak_7 : decode cX11_weak 7 = .ok (.aload_n 0, 1) := yd_op_42 (i := 7) yd_by_cX11_weak_0 rfl rfl
theorem dX11_weak_8 : decode cX11_weak 8 = .ok (.invokevirtual 200, 3) := yd_op_182 (i := 8) (a := 0) (b := 200) yd_by_cX11_weak_0 rfl rfl
theorem dX11_weak_11 : decode cX11_weak 11 = .ok (.pop, 1) := yd_op_87 (i := 11) yd_by_cX11_weak_0 rfl rfl
theorem dX11_weak_12 : decode cX11_weak 12 = .ok (.aload_n 0, 1) := yd_op_42 (i := 12) yd_by_cX11_weak_0 rfl rfl
theorem dX11_weak_13 : decode cX11_weak 13 = .ok (.aload_n 0, 1) := yd_op_42 (i := 13) yd_by_cX11_weak_0 rfl rfl
theorem dX11_weak_14 : decode cX11_weak 14 = .ok (.getfield 92, 3) := yd_op_180 (i := 14) (a := 0) (b := 92) yd_by_cX11_weak_0 rfl rfl
theorem dX11_weak_17 : decode cX11_weak 17 = .ok (.invokevirtual 282, 3) := yd_op_182 (i := 17) (a := 1) (b := 26) yd_by_cX11_weak_0 rfl rfl
theorem dX11_weak_20 : decode cX11_weak 20 = .ok (.iload_n 1, 1) := yd_op_27 (i := 20) yd_by_cX11_weak_0 rfl rfl
theorem dX11_weak_21 : decode cX11_weak 21 = .ok (.invokevirtual 279, 3) := yd_op_182 (i := 21) (a := 1) (b := 23) yd_by_cX11_weak_0 rfl rfl
theorem dX11_weak_24 : decode cX11_weak 24 = .ok (.ireturn, 1) := yd_op_172 (i := 24) yd_by_cX11_weak_0 rfl rfl
set_option maxRecDepth 100000 in
theorem yd_by_cX11_mends_0 : ydk cX11_mends 0 [42, 27, 4, 16, 30, 182, 0, 237, 154, 0, 5, 2, 172, 2, 62, 3, 54, 4, 21, 4, 42, 180, 0, 31, 182, 1, 29, 162, 0, 52, 42, 180, 0, 66, 21, 4] = true := by decide +kernel
theorem dX11_mends_0 : decode cX11_mends 0 = .ok (.aload_n 0, 1) := yd_op_42 (i := 0) yd_by_cX11_mends_0 rfl rfl
theorem dX11_mends_1 : decode cX11_mends 1 = .ok (.iload_n 1, 1) := yd_op_27 (i := 1) yd_by_cX11_mends_0 rfl rfl
theorem dX11_mends_2 : decode cX11_mends 2 = .ok (.iconst 1, 1) := yd_op_4 (i := 2) yd_by_cX11_mends_0 rfl rfl
theorem dX11_mends_3 : decode cX11_mends 3 = .ok (.bipush 30, 2) := yd_op_16 (i := 3) (a := 30) yd_by_cX11_mends_0 rfl rfl
theorem dX11_mends_5 : decode cX11_mends 5 = .ok (.invokevirtual 237, 3) := yd_op_182 (i := 5) (a := 0) (b := 237) yd_by_cX11_mends_0 rfl rfl
theorem dX11_mends_8 : decode cX11_mends 8 = .ok (.ifCond .ne 5, 3) := yd_op_154 (i := 8) (a := 0) (b := 5) yd_by_cX11_mends_0 rfl rfl
theorem dX11_mends_11 : decode cX11_mends 11 = .ok (.iconst (-1), 1) := yd_op_2 (i := 11) yd_by_cX11_mends_0 rfl rfl
theorem dX11_mends_12 : decode cX11_mends 12 = .ok (.ireturn, 1) := yd_op_172 (i := 12) yd_by_cX11_mends_0 rfl rfl
theorem dX11_mends_13 : decode cX11_mends 13 = .ok (.iconst (-1), 1) := yd_op_2 (i := 13) yd_by_cX11_mends_0 rfl rfl
theorem dX11_mends_14 : decode cX11_mends 14 = .ok (.istore_n 3, 1) := yd_op_62 (i := 14) yd_by_cX11_mends_0 rfl rfl
theorem dX11_mends_15 : decode cX11_mends 15 = .ok (.iconst 0, 1) := yd_op_3 (i := 15) yd_by_cX11_mends_0 rfl rfl
theorem dX11_mends_16 : decode cX11_mends 16 = .ok (.istore 4, 2) := yd_op_54 (i := 16) (a := 4) yd_by_cX11_mends_0 rfl rfl
theorem dX11_mends_18 : decode cX11_mends 18 = .ok (.iload 4, 2) := yd_op_21 (i := 18) (a := 4) yd_by_cX11_mends_0 rfl rfl
theorem dX11_mends_20 : decode cX11_mends 20 = .ok (.aload_n 0, 1) := yd_op_42 (i := 20) yd_by_cX11_mends_0 rfl rfl
theorem dX11_mends_21 : decode cX11_mends 21 = .ok (.getfield 31, 3) := yd_op_180 (i := 21) (a := 0) (b := 31) yd_by_cX11_mends_0 rfl rfl
theorem dX11_mends_24 : decode cX11_mends 24 = .ok (.invokevirtual 285, 3) := yd_op_182 (i := 24) (a := 1) (b := 29) yd_by_cX11_mends_0 rfl rfl
theorem dX11_mends_27 : decode cX11_mends 27 = .ok (.if_icmp .ge 52, 3) := yd_op_162 (i := 27) (a := 0) (b := 52) yd_by_cX11_mends_0 rfl rfl
theorem dX11_mends_30 : decode cX11_mends 30 = .ok (.aload_n 0, 1) := yd_op_42 (i := 30) yd_by_cX11_mends_0 rfl rfl
theorem dX11_mends_31 : decode cX11_mends 31 = .ok (.getfield 66, 3) := yd_op_180 (i := 31) (a := 0) (b := 66) yd_by_cX11_mends_0 rfl rfl
theorem dX11_mends_34 : decode cX11_mends 34 = .ok (.iload 4, 2) := yd_op_21 (i := 34) (a := 4) yd_by_cX11_mends_0 rfl rfl
set_option maxRecDepth 100000 in
theorem yd_by_cX11_mends_1 : ydk cX11_mends 36 [182, 0, 197, 153, 0, 34, 21, 4, 42, 21, 4, 27, 182, 1, 32, 184, 1, 35, 54, 5, 29, 2, 160, 0, 8, 21, 5, 167, 0, 9, 29, 21, 5, 184, 0, 254, 62, 132, 4, 1, 167, 255, 198] = true := by decide +kernel
theorem dX11_mends_36 : decode cX11_mends 36 = .ok (.invokevirtual 197, 3) := yd_op_182 (i := 0) (a := 0) (b := 197) yd_by_cX11_mends_1 rfl rfl
theorem dX11_mends_39 : decode cX11_mends 39 = .ok (.ifCond .eq 34, 3) := yd_op_153 (i := 3) (a := 0) (b := 34) yd_by_cX11_mends_1 rfl rfl
theorem dX11_mends_42 : decode cX11_mends 42 = .ok (.iload 4, 2) := yd_op_21 (i := 6) (a := 4) yd_by_cX11_mends_1 rfl rfl
theorem dX11_mends_44 : decode cX11_mends 44 = .ok (.aload_n 0, 1) := yd_op_42 (i := 8) yd_by_cX11_mends_1 rfl rfl
theorem dX11_mends_45 : decode cX11_mends 45 = .ok (.iload 4, 2) := yd_op_21 (i := 9) (a := 4) yd_by_cX11_mends_1 rfl rfl
theorem dX11_mends_47 : decode cX11_mends 47 = .ok (.iload_n 1, 1) := yd_op_27 (i := 11) yd_by_cX11_mends_1 rfl rfl
theorem dX11_mends_48 : decode cX11_mends 48 = .ok (.invokevirtual 288, 3) := yd_op_182 (i := 12) (a := 1) (b := 32) yd_by_cX11_mends_1 rfl rfl
theorem dX11_mends_51 : decode cX11_mends 51 = .ok (.invokestatic 291, 3) := yd_op_184 (i := 15) (a := 1) (b := 35) yd_by_cX11_mends_1 rfl rfl
theorem dX11_mends_54 : decode cX11_mends 54 = .ok (.istore 5, 2) := yd_op_54 (i := 18) (a := 5) yd_by_cX11_mends_1 rfl rfl
theorem dX11_mends_56 : decode cX11_mends 56 = .ok (.iload_n 3, 1) := yd_op_29 (i := 20) yd_by_cX11_mends_1 rfl rfl
theorem dX11_mends_57 : decode cX11_mends 57 = .ok (.iconst (-1), 1) := yd_op_2 (i := 21) yd_by_cX11_mends_1 rfl rfl
theorem dX11_mends_58 : decode cX11_mends 58 = .ok (.if_icmp .ne 8, 3) := yd_op_160 (i := 22) (a := 0) (b := 8) yd_by_cX11_mends_1 rfl rfl
theorem dX11_mends_61 : decode cX11_mends 61 = .ok (.iload 5, 2) := yd_op_21 (i := 25) (a := 5) yd_by_cX11_mends_1 rfl rfl
theorem dX11_mends_63 : decode cX11_mends 63 = .ok (.goto 9, 3) := yd_op_167 (i := 27) (a := 0) (b := 9) yd_by_cX11_mends_1 rfl rfl
theorem dX11_mends_66 : decode cX11_mends 66 = .ok (.iload_n 3, 1) := yd_op_29 (i := 30) yd_by_cX11_mends_1 rfl rfl
theorem dX11_mends_67 : decode cX11_mends 67 = .ok (.iload 5, 2) := yd_op_21 (i := 31) (a := 5) yd_by_cX11_mends_1 rfl rfl
theorem dX11_mends_69 : decode cX11_mends 69 = .ok (.invokestatic 254, 3) := yd_op_184 (i := 33) (a := 0) (b := 254) yd_by_cX11_mends_1 rfl rfl
theorem dX11_mends_72 : decode cX11_mends 72 = .ok (.istore_n 3, 1) := yd_op_62 (i := 36) yd_by_cX11_mends_1 rfl rfl
theorem dX11_mends_73 : decode cX11_mends 73 = .ok (.iinc 4 1, 3) := yd_op_132 (i := 37) (a := 4) (b := 1) yd_by_cX11_mends_1 rfl rfl
theorem dX11_mends_76 : decode cX11_mends 76 = .ok (.goto (-58), 3) := yd_op_167 (i := 40) (a := 255) (b := 198) yd_by_cX11_mends_1 rfl rfl
set_option maxRecDepth 100000 in
theorem yd_by_cX11_mends_2 : ydk cX11_mends 79 [42, 29, 28, 182, 1, 23, 172] = true := by decide +kernel
theorem dX11_mends_79 : decode cX11_mends 79 = .ok (.aload_n 0, 1) := yd_op_42 (i := 0) yd_by_cX11_mends_2 rfl rfl
theorem dX11_mends_80 : decode cX11_mends 80 = .ok (.iload_n 3, 1) := yd_op_29 (i := 1) yd_by_cX11_mends_2 rfl rfl
theorem dX11_mends_81 : decode cX11_mends 81 = .ok (.iload_n 2, 1) := yd_op_28 (i := 2) yd_by_cX11_mends_2 rfl rfl
theorem dX11_mends_82 : decode cX11_mends 82 = .ok (.invokevirtual 279, 3) := yd_op_182 (i := 3) (a := 1) (b := 23) yd_by_cX11_mends_2 rfl rfl
theorem dX11_mends_85 : decode cX11_mends 85 = .ok (.ireturn, 1) := yd_op_172 (i := 6) yd_by_cX11_mends_2 rfl rfl
set_option maxRecDepth 100000 in
theorem yd_by_cX11_sound_0 : ydk cX11_sound 0 [42, 180, 0, 31, 182, 1, 9, 153, 0, 25, 42, 180, 0, 83, 42, 180, 0, 31, 42, 180, 0, 14, 182, 1, 38, 153, 0, 7, 4, 167, 0, 4, 3, 60, 42, 180, 0, 14, 3, 181, 0, 110] = true := by decide +kernel
theorem dX11_sound_0 : decode cX11_sound 0 = .ok (.aload_n 0, 1) := yd_op_42 (i := 0) yd_by_cX11_sound_0 rfl rfl
theorem dX11_sound_1 : decode cX11_sound 1 = .ok (.getfield 31, 3) := yd_op_180 (i := 1) (a := 0) (b := 31) yd_by_cX11_sound_0 rfl rfl
theorem dX11_sound_4 : decode cX11_sound 4 = .ok (.invokevirtual 265, 3) := yd_op_182 (i := 4) (a := 1) (b := 9) yd_by_cX11_sound_0 rfl rfl
theorem dX11_sound_7 : decode cX11_sound 7 = .ok (.ifCond .eq 25, 3) := yd_op_153 (i := 7) (a := 0) (b := 25) yd_by_cX11_sound_0 rfl rfl
theorem dX11_sound_10 : decode cX11_sound 10 = .ok (.aload_n 0, 1) := yd_op_42 (i := 10) yd_by_cX11_sound_0 rfl rfl
theorem dX11_sound_11 : decode cX11_sound 11 = .ok (.getfield 83, 3) := yd_op_180 (i := 11) (a := 0) (b := 83) yd_by_cX11_sound_0 rfl rfl
theorem dX11_sound_14 : decode cX11_sound 14 = .ok (.aload_n 0, 1) := yd_op_42 (i := 14) yd_by_cX11_sound_0 rfl rfl
theorem dX11_sound_15 : decode cX11_sound 15 = .ok (.getfield 31, 3) := yd_op_180 (i := 15) (a := 0) (b := 31) yd_by_cX11_sound_0 rfl rfl
theorem dX11_sound_18 : decode cX11_sound 18 = .ok (.aload_n 0, 1) := yd_op_42 (i := 18) yd_by_cX11_sound_0 rfl rfl
theorem dX11_sound_19 : decode cX11_sound 19 = .ok (.getfield 14, 3) := yd_op_180 (i := 19) (a := 0) (b := 14) yd_by_cX11_sound_0 rfl rfl
theorem dX11_sound_22 : decode cX11_sound 22 = .ok (.invokevirtual 294, 3) := yd_op_182 (i := 22) (a := 1) (b := 38) yd_by_cX11_sound_0 rfl rfl
theorem dX11_sound_25 : decode cX11_sound 25 = .ok (.ifCond .eq 7, 3) := yd_op_153 (i := 25) (a := 0) (b := 7) yd_by_cX11_sound_0 rfl rfl
theorem dX11_sound_28 : decode cX11_sound 28 = .ok (.iconst 1, 1) := yd_op_4 (i := 28) yd_by_cX11_sound_0 rfl rfl
theorem dX11_sound_29 : decode cX11_sound 29 = .ok (.goto 4, 3) := yd_op_167 (i := 29) (a := 0) (b := 4) yd_by_cX11_sound_0 rfl rfl
theorem dX11_sound_32 : decode cX11_sound 32 = .ok (.iconst 0, 1) := yd_op_3 (i := 32) yd_by_cX11_sound_0 rfl rfl
theorem dX11_sound_33 : decode cX11_sound 33 = .ok (.istore_n 1, 1) := yd_op_60 (i := 33) yd_by_cX11_sound_0 rfl rfl
theorem dX11_sound_34 : decode cX11_sound 34 = .ok (.aload_n 0, 1) := yd_op_42 (i := 34) yd_by_cX11_sound_0 rfl rfl
theorem dX11_sound_35 : decode cX11_sound 35 = .ok (.getfield 14, 3) := yd_op_180 (i := 35) (a := 0) (b := 14) yd_by_cX11_sound_0 rfl rfl
theorem dX11_sound_38 : decode cX11_sound 38 = .ok (.iconst 0, 1) := yd_op_3 (i := 38) yd_by_cX11_sound_0 rfl rfl
theorem dX11_sound_39 : decode cX11_sound 39 = .ok (.putfield 110, 3) := yd_op_181 (i := 39) (a := 0) (b := 110) yd_by_cX11_sound_0 rfl rfl
set_option maxRecDepth 100000 in
theorem yd_by_cX11_sound_1 : ydk cX11_sound 42 [27, 153, 0, 13, 42, 180, 0, 83, 180, 0, 138, 167, 0, 8, 42, 4, 182, 0, 113, 172] = true := by decide +kernel
theorem dX11_sound_42 : decode cX11_sound 42 = .ok (.iload_n 1, 1) := yd_op_27 (i := 0) yd_by_cX11_sound_1 rfl rfl
theorem dX11_sound_43 : decode cX11_sound 43 = .ok (.ifCond .eq 13, 3) := yd_op_153 (i := 1) (a := 0) (b := 13) yd_by_cX11_sound_1 rfl rfl
theorem dX11_sound_46 : decode cX11_sound 46 = .ok (.aload_n 0, 1) := yd_op_42 (i := 4) yd_by_cX11_sound_1 rfl rfl
theorem dX11_sound_47 : decode cX11_sound 47 = .ok (.getfield 83, 3) := yd_op_180 (i := 5) (a := 0) (b := 83) yd_by_cX11_sound_1 rfl rfl
theorem dX11_sound_50 : decode cX11_sound 50 = .ok (.getfield 138, 3) := yd_op_180 (i := 8) (a := 0) (b := 138) yd_by_cX11_sound_1 rfl rfl
theorem dX11_sound_53 : decode cX11_sound 53 = .ok (.goto 8, 3) := yd_op_167 (i := 11) (a := 0) (b := 8) yd_by_cX11_sound_1 rfl rfl
theorem dX11_sound_56 : decode cX11_sound 56 = .ok (.aload_n 0, 1) := yd_op_42 (i := 14) yd_by_cX11_sound_1 rfl rfl
theorem dX11_sound_57 : decode cX11_sound 57 = .ok (.iconst 1, 1) := yd_op_4 (i := 15) yd_by_cX11_sound_1 rfl rfl
theorem dX11_sound_58 : decode cX11_sound 58 = .ok (.invokevirtual 113, 3) := yd_op_182 (i := 16) (a := 0) (b := 113) yd_by_cX11_sound_1 rfl rfl
theorem dX11_sound_61 : decode cX11_sound 61 = .ok (.ireturn, 1) := yd_op_172 (i := 19) yd_by_cX11_sound_1 rfl rfl
theorem dX11_who_29 : decode cX11_who 29 = .ok (.tableswitch 51 0 2 #[27, 35, 43], 27) := by decide +kernel
set_option maxRecDepth 100000 in
theorem yd_by_cX11_who_0 : ydk cX11_who 0 [42, 180, 0, 31, 182, 1, 9, 154, 0, 5, 2, 172, 42, 182, 0, 200, 87, 42, 180, 0, 83, 42, 180, 0, 92, 182, 1, 42, 27, 170, 0, 0, 0, 0, 0, 51, 0, 0, 0, 0, 0, 0, 0, 2, 0, 0, 0, 27, 0, 0, 0, 35, 0, 0, 0, 43, 42, 180, 0, 83, 182, 1, 46, 172, 42] = true := by decide +kernel
theorem dX11_who_0 : decode cX11_who 0 = .ok (.aload_n 0, 1) := yd_op_42 (i := 0) yd_by_cX11_who_0 rfl rfl
theorem dX11_who_1 : decode cX11_who 1 = .ok (.getfield 31, 3) := yd_op_180 (i := 1) (a := 0) (b := 31) yd_by_cX11_who_0 rfl rfl
theorem dX11_who_4 : decode cX11_who 4 = .ok (.invokevirtual 265, 3) := yd_op_182 (i := 4) (a := 1) (b := 9) yd_by_cX11_who_0 rfl rfl
theorem dX11_who_7 : decode cX11_who 7 = .ok (.ifCond .ne 5, 3) := yd_op_154 (i := 7) (a := 0) (b := 5) yd_by_cX11_who_0 rfl rfl
theorem dX11_who_10 : decode cX11_who 10 = .ok (.iconst (-1), 1) := yd_op_2 (i := 10) yd_by_cX11_who_0 rfl rfl
theorem dX11_who_11 : decode cX11_who 11 = .ok (.ireturn, 1) := yd_op_172 (i := 11) yd_by_cX11_who_0 rfl rfl
theorem dX11_who_12 : decode cX11_who 12 = .ok (.aload_n 0, 1) := yd_op_42 (i := 12) yd_by_cX11_who_0 rfl rfl
theorem dX11_who_13 : decode cX11_who 13 = .ok (.invokevirtual 200, 3) := yd_op_182 (i := 13) (a := 0) (b := 200) yd_by_cX11_who_0 rfl rfl
theorem dX11_who_16 : decode cX11_who 16 = .ok (.pop, 1) := yd_op_87 (i := 16) yd_by_cX11_who_0 rfl rfl
theorem dX11_who_17 : decode cX11_who 17 = .ok (.aload_n 0, 1) := yd_op_42 (i := 17) yd_by_cX11_who_0 rfl rfl
theorem dX11_who_18 : decode cX11_who 18 = .ok (.getfield 83, 3) := yd_op_180 (i := 18) (a := 0) (b := 83) yd_by_cX11_who_0 rfl rfl
theorem dX11_who_21 : decode cX11_who 21 = .ok (.aload_n 0, 1) := yd_op_42 (i := 21) yd_by_cX11_who_0 rfl rfl
theorem dX11_who_22 : decode cX11_who 22 = .ok (.getfield 92, 3) := yd_op_180 (i := 22) (a := 0) (b := 92) yd_by_cX11_who_0 rfl rfl
theorem dX11_who_25 : decode cX11_who 25 = .ok (.invokevirtual 298, 3) := yd_op_182 (i := 25) (a := 1) (b := 42) yd_by_cX11_who_0 rfl rfl
theorem dX11_who_28 : decode cX11_who 28 = .ok (.iload_n 1, 1) := yd_op_27 (i := 28) yd_by_cX11_who_0 rfl rfl
theorem dX11_who_56 : decode cX11_who 56 = .ok (.aload_n 0, 1) := yd_op_42 (i := 56) yd_by_cX11_who_0 rfl rfl
theorem dX11_who_57 : decode cX11_who 57 = .ok (.getfield 83, 3) := yd_op_180 (i := 57) (a := 0) (b := 83) yd_by_cX11_who_0 rfl rfl
theorem dX11_who_60 : decode cX11_who 60 = .ok (.invokevirtual 302, 3) := yd_op_182 (i := 60) (a := 1) (b := 46) yd_by_cX11_who_0 rfl rfl
theorem dX11_who_63 : decode cX11_who 63 = .ok (.ireturn, 1) := yd_op_172 (i := 63) yd_by_cX11_who_0 rfl rfl
theorem dX11_who_64 : decode cX11_who 64 = .ok (.aload_n 0, 1) := yd_op_42 (i := 64) yd_by_cX11_who_0 rfl rfl
set_option maxRecDepth 100000 in
theorem yd_by_cX11_who_1 : ydk cX11_who 65 [180, 0, 83, 182, 1, 49, 172, 42, 180, 0, 83, 182, 1, 52, 172, 2, 172] = true := by decide +kernel
theorem dX11_who_65 : decode cX11_who 65 = .ok (.getfield 83, 3) := yd_op_180 (i := 0) (a := 0) (b := 83) yd_by_cX11_who_1 rfl rfl
theorem dX11_who_68 : decode cX11_who 68 = .ok (.invokevirtual 305, 3) := yd_op_182 (i := 3) (a := 1) (b := 49) yd_by_cX11_who_1 rfl rfl
theorem dX11_who_71 : decode cX11_who 71 = .ok (.ireturn, 1) := yd_op_172 (i := 6) yd_by_cX11_who_1 rfl rfl
theorem dX11_who_72 : decode cX11_who 72 = .ok (.aload_n 0, 1) := yd_op_42 (i := 7) yd_by_cX11_who_1 rfl rfl
theorem dX11_who_73 : decode cX11_who 73 = .ok (.getfield 83, 3) := yd_op_180 (i := 8) (a := 0) (b := 83) yd_by_cX11_who_1 rfl rfl
theorem dX11_who_76 : decode cX11_who 76 = .ok (.invokevirtual 308, 3) := yd_op_182 (i := 11) (a := 1) (b := 52) yd_by_cX11_who_1 rfl rfl
theorem dX11_who_79 : decode cX11_who 79 = .ok (.ireturn, 1) := yd_op_172 (i := 14) yd_by_cX11_who_1 rfl rfl
theorem dX11_who_80 : decode cX11_who 80 = .ok (.iconst (-1), 1) := yd_op_2 (i := 15) yd_by_cX11_who_1 rfl rfl
theorem dX11_who_81 : decode cX11_who 81 = .ok (.ireturn, 1) := yd_op_172 (i := 16) yd_by_cX11_who_1 rfl rfl
set_option maxRecDepth 100000 in
theorem yd_by_cX11_knock_0 : ydk cX11_knock 0 [42, 182, 0, 200, 87, 42, 180, 0, 83, 42, 180, 0, 92, 182, 1, 42, 42, 42, 180, 0, 83, 42, 180, 0, 92, 182, 1, 55, 27, 182, 1, 23, 172] = true := by decide +kernel
theorem dX11_knock_0 : decode cX11_knock 0 = .ok (.aload_n 0, 1) := yd_op_42 (i := 0) yd_by_cX11_knock_0 rfl rfl
theorem dX11_knock_1 : decode cX11_knock 1 = .ok (.invokevirtual 200, 3) := yd_op_182 (i := 1) (a := 0) (b := 200) yd_by_cX11_knock_0 rfl rfl
theorem dX11_knock_4 : decode cX11_knock 4 = .ok (.pop, 1) := yd_op_87 (i := 4) yd_by_cX11_knock_0 rfl rfl
theorem dX11_knock_5 : decode cX11_knock 5 = .ok (.aload_n 0, 1) := yd_op_42 (i := 5) yd_by_cX11_knock_0 rfl rfl
theorem dX11_knock_6 : decode cX11_knock 6 = .ok (.getfield 83, 3) := yd_op_180 (i := 6) (a := 0) (b := 83) yd_by_cX11_knock_0 rfl rfl
theorem dX11_knock_9 : decode cX11_knock 9 = .ok (.aload_n 0, 1) := yd_op_42 (i := 9) yd_by_cX11_knock_0 rfl rfl
theorem dX11_knock_10 : decode cX11_knock 10 = .ok (.getfield 92, 3) := yd_op_180 (i := 10) (a := 0) (b := 92) yd_by_cX11_knock_0 rfl rfl
theorem dX11_knock_13 : decode cX11_knock 13 = .ok (.invokevirtual 298, 3) := yd_op_182 (i := 13) (a := 1) (b := 42) yd_by_cX11_knock_0 rfl rfl
theorem dX11_knock_16 : decode cX11_knock 16 = .ok (.aload_n 0, 1) := yd_op_42 (i := 16) yd_by_cX11_knock_0 rfl rfl
theorem dX11_knock_17 : decode cX11_knock 17 = .ok (.aload_n 0, 1) := yd_op_42 (i := 17) yd_by_cX11_knock_0 rfl rfl
theorem dX11_knock_18 : decode cX11_knock 18 = .ok (.getfield 83, 3) := yd_op_180 (i := 18) (a := 0) (b := 83) yd_by_cX11_knock_0 rfl rfl
theorem dX11_knock_21 : decode cX11_knock 21 = .ok (.aload_n 0, 1) := yd_op_42 (i := 21) yd_by_cX11_knock_0 rfl rfl
theorem dX11_knock_22 : decode cX11_knock 22 = .ok (.getfield 92, 3) := yd_op_180 (i := 22) (a := 0) (b := 92) yd_by_cX11_knock_0 rfl rfl
theorem dX11_knock_25 : decode cX11_knock 25 = .ok (.invokevirtual 311, 3) := yd_op_182 (i := 25) (a := 1) (b := 55) yd_by_cX11_knock_0 rfl rfl
theorem dX11_knock_28 : decode cX11_knock 28 = .ok (.iload_n 1, 1) := yd_op_27 (i := 28) yd_by_cX11_knock_0 rfl rfl
theorem dX11_knock_29 : decode cX11_knock 29 = .ok (.invokevirtual 279, 3) := yd_op_182 (i := 29) (a := 1) (b := 23) yd_by_cX11_knock_0 rfl rfl
theorem dX11_knock_32 : decode cX11_knock 32 = .ok (.ireturn, 1) := yd_op_172 (i := 32) yd_by_cX11_knock_0 rfl rfl
set_option maxRecDepth 100000 in
theorem yd_by_cX11_rest_0 : ydk cX11_rest 0 [42, 180, 0, 31, 27, 182, 0, 177, 153, 0, 27, 28, 155, 0, 23, 28, 4, 163, 0, 18, 42, 180, 0, 66, 180, 0, 171, 27, 122, 4, 126, 28, 160, 0, 9, 42] = true := by decide +kernel
theorem dX11_rest_0 : decode cX11_rest 0 = .ok (.aload_n 0, 1) := yd_op_42 (i := 0) yd_by_cX11_rest_0 rfl rfl
theorem dX11_rest_1 : decode cX11_rest 1 = .ok (.getfield 31, 3) := yd_op_180 (i := 1) (a := 0) (b := 31) yd_by_cX11_rest_0 rfl rfl
theorem dX11_rest_4 : decode cX11_rest 4 = .ok (.iload_n 1, 1) := yd_op_27 (i := 4) yd_by_cX11_rest_0 rfl rfl
theorem dX11_rest_5 : decode cX11_rest 5 = .ok (.invokevirtual 177, 3) := yd_op_182 (i := 5) (a := 0) (b := 177) yd_by_cX11_rest_0 rfl rfl
theorem dX11_rest_8 : decode cX11_rest 8 = .ok (.ifCond .eq 27, 3) := yd_op_153 (i := 8) (a := 0) (b := 27) yd_by_cX11_rest_0 rfl rfl
theorem dX11_rest_11 : decode cX11_rest 11 = .ok (.iload_n 2, 1) := yd_op_28 (i := 11) yd_by_cX11_rest_0 rfl rfl
theorem dX11_rest_12 : decode cX11_rest 12 = .ok (.ifCond .lt 23, 3) := yd_op_155 (i := 12) (a := 0) (b := 23) yd_by_cX11_rest_0 rfl rfl
theorem dX11_rest_15 : decode cX11_rest 15 = .ok (.iload_n 2, 1) := yd_op_28 (i := 15) yd_by_cX11_rest_0 rfl rfl
theorem dX11_rest_16 : decode cX11_rest 16 = .ok (.iconst 1, 1) := yd_op_4 (i := 16) yd_by_cX11_rest_0 rfl rfl
theorem dX11_rest_17 : decode cX11_rest 17 = .ok (.if_icmp .gt 18, 3) := yd_op_163 (i := 17) (a := 0) (b := 18) yd_by_cX11_rest_0 rfl rfl
theorem dX11_rest_20 : decode cX11_rest 20 = .ok (.aload_n 0, 1) := yd_op_42 (i := 20) yd_by_cX11_rest_0 rfl rfl
theorem dX11_rest_21 : decode cX11_rest 21 = .ok (.getfield 66, 3) := yd_op_180 (i := 21) (a := 0) (b := 66) yd_by_cX11_rest_0 rfl rfl
theorem dX11_rest_24 : decode cX11_rest 24 = .ok (.getfield 171, 3) := yd_op_180 (i := 24) (a := 0) (b := 171) yd_by_cX11_rest_0 rfl rfl
theorem dX11_rest_27 : decode cX11_rest 27 = .ok (.iload_n 1, 1) := yd_op_27 (i := 27) yd_by_cX11_rest_0 rfl rfl
theorem dX11_rest_28 : decode cX11_rest 28 = .ok (.ishr, 1) := yd_op_122 (i := 28) yd_by_cX11_rest_0 rfl rfl
theorem dX11_rest_29 : decode cX11_rest 29 = .ok (.iconst 1, 1) := yd_op_4 (i := 29) yd_by_cX11_rest_0 rfl rfl
theorem dX11_rest_30 : decode cX11_rest 30 = .ok (.iand, 1) := yd_op_126 (i := 30) yd_by_cX11_rest_0 rfl rfl
theorem dX11_rest_31 : decode cX11_rest 31 = .ok (.iload_n 2, 1) := yd_op_28 (i := 31) yd_by_cX11_rest_0 rfl rfl
theorem dX11_rest_32 : decode cX11_rest 32 = .ok (.if_icmp .ne 9, 3) := yd_op_160 (i := 32) (a := 0) (b := 9) yd_by_cX11_rest_0 rfl rfl
theorem dX11_rest_35 : decode cX11_rest 35 = .ok (.aload_n 0, 1) := yd_op_42 (i := 35) yd_by_cX11_rest_0 rfl rfl
set_option maxRecDepth 100000 in
theorem yd_by_cX11_rest_1 : ydk cX11_rest 36 [5, 182, 0, 120, 172, 42, 180, 0, 76, 42, 180, 0, 66, 182, 1, 58, 42, 180, 0, 66, 89, 180, 0, 171, 4, 27, 120, 130, 181, 0, 171, 4, 172] = true := by decide +kernel
theorem dX11_rest_36 : decode cX11_rest 36 = .ok (.iconst 2, 1) := yd_op_5 (i := 0) yd_by_cX11_rest_1 rfl rfl
theorem dX11_rest_37 : decode cX11_rest 37 = .ok (.invokevirtual 120, 3) := yd_op_182 (i := 1) (a := 0) (b := 120) yd_by_cX11_rest_1 rfl rfl
theorem dX11_rest_40 : decode cX11_rest 40 = .ok (.ireturn, 1) := yd_op_172 (i := 4) yd_by_cX11_rest_1 rfl rfl
theorem dX11_rest_41 : decode cX11_rest 41 = .ok (.aload_n 0, 1) := yd_op_42 (i := 5) yd_by_cX11_rest_1 rfl rfl
theorem dX11_rest_42 : decode cX11_rest 42 = .ok (.getfield 76, 3) := yd_op_180 (i := 6) (a := 0) (b := 76) yd_by_cX11_rest_1 rfl rfl
theorem dX11_rest_45 : decode cX11_rest 45 = .ok (.aload_n 0, 1) := yd_op_42 (i := 9) yd_by_cX11_rest_1 rfl rfl
theorem dX11_rest_46 : decode cX11_rest 46 = .ok (.getfield 66, 3) := yd_op_180 (i := 10) (a := 0) (b := 66) yd_by_cX11_rest_1 rfl rfl
theorem dX11_rest_49 : decode cX11_rest 49 = .ok (.invokevirtual 314, 3) := yd_op_182 (i := 13) (a := 1) (b := 58) yd_by_cX11_rest_1 rfl rfl
theorem dX11_rest_52 : decode cX11_rest 52 = .ok (.aload_n 0, 1) := yd_op_42 (i := 16) yd_by_cX11_rest_1 rfl rfl
theorem dX11_rest_53 : decode cX11_rest 53 = .ok (.getfield 66, 3) := yd_op_180 (i := 17) (a := 0) (b := 66) yd_by_cX11_rest_1 rfl rfl
theorem dX11_rest_56 : decode cX11_rest 56 = .ok (.dup, 1) := yd_op_89 (i := 20) yd_by_cX11_rest_1 rfl rfl
theorem dX11_rest_57 : decode cX11_rest 57 = .ok (.getfield 171, 3) := yd_op_180 (i := 21) (a := 0) (b := 171) yd_by_cX11_rest_1 rfl rfl
theorem dX11_rest_60 : decode cX11_rest 60 = .ok (.iconst 1, 1) := yd_op_4 (i := 24) yd_by_cX11_rest_1 rfl rfl
theorem dX11_rest_61 : decode cX11_rest 61 = .ok (.iload_n 1, 1) := yd_op_27 (i := 25) yd_by_cX11_rest_1 rfl rfl
theorem dX11_rest_62 : decode cX11_rest 62 = .ok (.ishl, 1) := yd_op_120 (i := 26) yd_by_cX11_rest_1 rfl rfl
theorem dX11_rest_63 : decode cX11_rest 63 = .ok (.ixor, 1) := yd_op_130 (i := 27) yd_by_cX11_rest_1 rfl rfl
theorem dX11_rest_64 : decode cX11_rest 64 = .ok (.putfield 171, 3) := yd_op_181 (i := 28) (a := 0) (b := 171) yd_by_cX11_rest_1 rfl rfl
theorem dX11_rest_67 : decode cX11_rest 67 = .ok (.iconst 1, 1) := yd_op_4 (i := 31) yd_by_cX11_rest_1 rfl rfl
theorem dX11_rest_68 : decode cX11_rest 68 = .ok (.ireturn, 1) := yd_op_172 (i := 32) yd_by_cX11_rest_1 rfl rfl
set_option maxRecDepth 100000 in
theorem yd_by_cX11_go_0 : ydk cX11_go 0 [42, 180, 0, 31, 27, 182, 0, 177, 153, 0, 39, 42, 180, 0, 31, 28, 29, 182, 0, 186, 153, 0, 27, 42, 180, 0, 66, 42, 180, 0, 31, 42, 180, 0, 31, 28, 29, 182, 0, 190] = true := by decide +kernel
theorem dX11_go_0 : decode cX11_go 0 = .ok (.aload_n 0, 1) := yd_op_42 (i := 0) yd_by_cX11_go_0 rfl rfl
theorem dX11_go_1 : decode cX11_go 1 = .ok (.getfield 31, 3) := yd_op_180 (i := 1) (a := 0) (b := 31) yd_by_cX11_go_0 rfl rfl
theorem dX11_go_4 : decode cX11_go 4 = .ok (.iload_n 1, 1) := yd_op_27 (i := 4) yd_by_cX11_go_0 rfl rfl
theorem dX11_go_5 : decode cX11_go 5 = .ok (.invokevirtual 177, 3) := yd_op_182 (i := 5) (a := 0) (b := 177) yd_by_cX11_go_0 rfl rfl
theorem dX11_go_8 : decode cX11_go 8 = .ok (.ifCond .eq 39, 3) := yd_op_153 (i := 8) (a := 0) (b := 39) yd_by_cX11_go_0 rfl rfl
theorem dX11_go_11 : decode cX11_go 11 = .ok (.aload_n 0, 1) := yd_op_42 (i := 11) yd_by_cX11_go_0 rfl rfl
theorem dX11_go_12 : decode cX11_go 12 = .ok (.getfield 31, 3) := yd_op_180 (i := 12) (a := 0) (b := 31) yd_by_cX11_go_0 rfl rfl
theorem dX11_go_15 : decode cX11_go 15 = .ok (.iload_n 2, 1) := yd_op_28 (i := 15) yd_by_cX11_go_0 rfl rfl
theorem dX11_go_16 : decode cX11_go 16 = .ok (.iload_n 3, 1) := yd_op_29 (i := 16) yd_by_cX11_go_0 rfl rfl
theorem dX11_go_17 : decode cX11_go 17 = .ok (.invokevirtual 186, 3) := yd_op_182 (i := 17) (a := 0) (b := 186) yd_by_cX11_go_0 rfl rfl
theorem dX11_go_20 : decode cX11_go 20 = .ok (.ifCond .eq 27, 3) := yd_op_153 (i := 20) (a := 0) (b := 27) yd_by_cX11_go_0 rfl rfl
theorem dX11_go_23 : decode cX11_go 23 = .ok (.aload_n 0, 1) := yd_op_42 (i := 23) yd_by_cX11_go_0 rfl rfl
theorem dX11_go_24 : decode cX11_go 24 = .ok (.getfield 66, 3) := yd_op_180 (i := 24) (a := 0) (b := 66) yd_by_cX11_go_0 rfl rfl
theorem dX11_go_27 : decode cX11_go 27 = .ok (.aload_n 0, 1) := yd_op_42 (i := 27) yd_by_cX11_go_0 rfl rfl
theorem dX11_go_28 : decode cX11_go 28 = .ok (.getfield 31, 3) := yd_op_180 (i := 28) (a := 0) (b := 31) yd_by_cX11_go_0 rfl rfl
theorem dX11_go_31 : decode cX11_go 31 = .ok (.aload_n 0, 1) := yd_op_42 (i := 31) yd_by_cX11_go_0 rfl rfl
theorem dX11_go_32 : decode cX11_go 32 = .ok (.getfield 31, 3) := yd_op_180 (i := 32) (a := 0) (b := 31) yd_by_cX11_go_0 rfl rfl
theorem dX11_go_35 : decode cX11_go 35 = .ok (.iload_n 2, 1) := yd_op_28 (i := 35) yd_by_cX11_go_0 rfl rfl
theorem dX11_go_36 : decode cX11_go 36 = .ok (.iload_n 3, 1) := yd_op_29 (i := 36) yd_by_cX11_go_0 rfl rfl
theorem dX11_go_37 : decode cX11_go 37 = .ok (.invokevirtual 190, 3) := yd_op_182 (i := 37) (a := 0) (b := 190) yd_by_cX11_go_0 rfl rfl
set_option maxRecDepth 100000 in
theorem yd_by_cX11_go_1 : ydk cX11_go 40 [182, 0, 206, 2, 159, 0, 9, 42, 5, 182, 0, 120, 172, 42, 180, 0, 76, 42, 180, 0, 66, 182, 1, 58, 42, 180, 0, 66, 180, 0, 215, 27, 28, 79, 42, 180, 0, 66] = true := by decide +kernel
theorem dX11_go_40 : decode cX11_go 40 = .ok (.invokevirtual 206, 3) := yd_op_182 (i := 0) (a := 0) (b := 206) yd_by_cX11_go_1 rfl rfl
theorem dX11_go_43 : decode cX11_go 43 = .ok (.iconst (-1), 1) := yd_op_2 (i := 3) yd_by_cX11_go_1 rfl rfl
theorem dX11_go_44 : decode cX11_go 44 = .ok (.if_icmp .eq 9, 3) := yd_op_159 (i := 4) (a := 0) (b := 9) yd_by_cX11_go_1 rfl rfl
theorem dX11_go_47 : decode cX11_go 47 = .ok (.aload_n 0, 1) := yd_op_42 (i := 7) yd_by_cX11_go_1 rfl rfl
theorem dX11_go_48 : decode cX11_go 48 = .ok (.iconst 2, 1) := yd_op_5 (i := 8) yd_by_cX11_go_1 rfl rfl
theorem dX11_go_49 : decode cX11_go 49 = .ok (.invokevirtual 120, 3) := yd_op_182 (i := 9) (a := 0) (b := 120) yd_by_cX11_go_1 rfl rfl
theorem dX11_go_52 : decode cX11_go 52 = .ok (.ireturn, 1) := yd_op_172 (i := 12) yd_by_cX11_go_1 rfl rfl
theorem dX11_go_53 : decode cX11_go 53 = .ok (.aload_n 0, 1) := yd_op_42 (i := 13) yd_by_cX11_go_1 rfl rfl
theorem dX11_go_54 : decode cX11_go 54 = .ok (.getfield 76, 3) := yd_op_180 (i := 14) (a := 0) (b := 76) yd_by_cX11_go_1 rfl rfl
theorem dX11_go_57 : decode cX11_go 57 = .ok (.aload_n 0, 1) := yd_op_42 (i := 17) yd_by_cX11_go_1 rfl rfl
theorem dX11_go_58 : decode cX11_go 58 = .ok (.getfield 66, 3) := yd_op_180 (i := 18) (a := 0) (b := 66) yd_by_cX11_go_1 rfl rfl
theorem dX11_go_61 : decode cX11_go 61 = .ok (.invokevirtual 314, 3) := yd_op_182 (i := 21) (a := 1) (b := 58) yd_by_cX11_go_1 rfl rfl
theorem dX11_go_64 : decode cX11_go 64 = .ok (.aload_n 0, 1) := yd_op_42 (i := 24) yd_by_cX11_go_1 rfl rfl
theorem dX11_go_65 : decode cX11_go 65 = .ok (.getfield 66, 3) := yd_op_180 (i := 25) (a := 0) (b := 66) yd_by_cX11_go_1 rfl rfl
theorem dX11_go_68 : decode cX11_go 68 = .ok (.getfield 215, 3) := yd_op_180 (i := 28) (a := 0) (b := 215) yd_by_cX11_go_1 rfl rfl
theorem dX11_go_71 : decode cX11_go 71 = .ok (.iload_n 1, 1) := yd_op_27 (i := 31) yd_by_cX11_go_1 rfl rfl
theorem dX11_go_72 : decode cX11_go 72 = .ok (.iload_n 2, 1) := yd_op_28 (i := 32) yd_by_cX11_go_1 rfl rfl
theorem dX11_go_73 : decode cX11_go 73 = .ok (.iastore, 1) := yd_op_79 (i := 33) yd_by_cX11_go_1 rfl rfl
theorem dX11_go_74 : decode cX11_go 74 = .ok (.aload_n 0, 1) := yd_op_42 (i := 34) yd_by_cX11_go_1 rfl rfl
theorem dX11_go_75 : decode cX11_go 75 = .ok (.getfield 66, 3) := yd_op_180 (i := 35) (a := 0) (b := 66) yd_by_cX11_go_1 rfl rfl
set_option maxRecDepth 100000 in
theorem yd_by_cX11_go_2 : ydk cX11_go 78 [180, 0, 218, 27, 29, 79, 4, 172] = true := by decide +kernel
theorem dX11_go_78 : decode cX11_go 78 = .ok (.getfield 218, 3) := yd_op_180 (i := 0) (a := 0) (b := 218) yd_by_cX11_go_2 rfl rfl
theorem dX11_go_81 : decode cX11_go 81 = .ok (.iload_n 1, 1) := yd_op_27 (i := 3) yd_by_cX11_go_2 rfl rfl
theorem dX11_go_82 : decode cX11_go 82 = .ok (.iload_n 3, 1) := yd_op_29 (i := 4) yd_by_cX11_go_2 rfl rfl
theorem dX11_go_83 : decode cX11_go 83 = .ok (.iastore, 1) := yd_op_79 (i := 5) yd_by_cX11_go_2 rfl rfl
theorem dX11_go_84 : decode cX11_go 84 = .ok (.iconst 1, 1) := yd_op_4 (i := 6) yd_by_cX11_go_2 rfl rfl
theorem dX11_go_85 : decode cX11_go 85 = .ok (.ireturn, 1) := yd_op_172 (i := 7) yd_by_cX11_go_2 rfl rfl
set_option maxRecDepth 100000 in
theorem yd_by_cX11_mend_0 : ydk cX11_mend 0 [42, 180, 0, 31, 27, 28, 182, 0, 186, 153, 0, 22, 42, 180, 0, 66, 42, 180, 0, 31, 27, 28, 182, 0, 190, 182, 0, 197, 154, 0, 9, 42, 5, 182, 0, 120, 172, 42] = true := by decide +kernel
theorem dX11_mend_0 : decode cX11_mend 0 = .ok (.aload_n 0, 1) := yd_op_42 (i := 0) yd_by_cX11_mend_0 rfl rfl
theorem dX11_mend_1 : decode cX11_mend 1 = .ok (.getfield 31, 3) := yd_op_180 (i := 1) (a := 0) (b := 31) yd_by_cX11_mend_0 rfl rfl
theorem dX11_mend_4 : decode cX11_mend 4 = .ok (.iload_n 1, 1) := yd_op_27 (i := 4) yd_by_cX11_mend_0 rfl rfl
theorem dX11_mend_5 : decode cX11_mend 5 = .ok (.iload_n 2, 1) := yd_op_28 (i := 5) yd_by_cX11_mend_0 rfl rfl
theorem dX11_mend_6 : decode cX11_mend 6 = .ok (.invokevirtual 186, 3) := yd_op_182 (i := 6) (a := 0) (b := 186) yd_by_cX11_mend_0 rfl rfl
theorem dX11_mend_9 : decode cX11_mend 9 = .ok (.ifCond .eq 22, 3) := yd_op_153 (i := 9) (a := 0) (b := 22) yd_by_cX11_mend_0 rfl rfl
theorem dX11_mend_12 : decode cX11_mend 12 = .ok (.aload_n 0, 1) := yd_op_42 (i := 12) yd_by_cX11_mend_0 rfl rfl
theorem dX11_mend_13 : decode cX11_mend 13 = .ok (.getfield 66, 3) := yd_op_180 (i := 13) (a := 0) (b := 66) yd_by_cX11_mend_0 rfl rfl
theorem dX11_mend_16 : decode cX11_mend 16 = .ok (.aload_n 0, 1) := yd_op_42 (i := 16) yd_by_cX11_mend_0 rfl rfl
theorem dX11_mend_17 : decode cX11_mend 17 = .ok (.getfield 31, 3) := yd_op_180 (i := 17) (a := 0) (b := 31) yd_by_cX11_mend_0 rfl rfl
theorem dX11_mend_20 : decode cX11_mend 20 = .ok (.iload_n 1, 1) := yd_op_27 (i := 20) yd_by_cX11_mend_0 rfl rfl
theorem dX11_mend_21 : decode cX11_mend 21 = .ok (.iload_n 2, 1) := yd_op_28 (i := 21) yd_by_cX11_mend_0 rfl rfl
theorem dX11_mend_22 : decode cX11_mend 22 = .ok (.invokevirtual 190, 3) := yd_op_182 (i := 22) (a := 0) (b := 190) yd_by_cX11_mend_0 rfl rfl
theorem dX11_mend_25 : decode cX11_mend 25 = .ok (.invokevirtual 197, 3) := yd_op_182 (i := 25) (a := 0) (b := 197) yd_by_cX11_mend_0 rfl rfl
theorem dX11_mend_28 : decode cX11_mend 28 = .ok (.ifCond .ne 9, 3) := yd_op_154 (i := 28) (a := 0) (b := 9) yd_by_cX11_mend_0 rfl rfl
theorem dX11_mend_31 : decode cX11_mend 31 = .ok (.aload_n 0, 1) := yd_op_42 (i := 31) yd_by_cX11_mend_0 rfl rfl
theorem dX11_mend_32 : decode cX11_mend 32 = .ok (.iconst 2, 1) := yd_op_5 (i := 32) yd_by_cX11_mend_0 rfl rfl
theorem dX11_mend_33 : decode cX11_mend 33 = .ok (.invokevirtual 120, 3) := yd_op_182 (i := 33) (a := 0) (b := 120) yd_by_cX11_mend_0 rfl rfl
theorem dX11_mend_36 : decode cX11_mend 36 = .ok (.ireturn, 1) := yd_op_172 (i := 36) yd_by_cX11_mend_0 rfl rfl
theorem dX11_mend_37 : decode cX11_mend 37 = .ok (.aload_n 0, 1) := yd_op_42 (i := 37) yd_by_cX11_mend_0 rfl rfl
set_option maxRecDepth 100000 in
theorem yd_by_cX11_mend_1 : ydk cX11_mend 38 [180, 0, 76, 42, 180, 0, 66, 182, 1, 58, 42, 180, 0, 66, 89, 180, 0, 153, 10, 42, 180, 0, 31, 27, 28, 182, 0, 190, 121, 131, 181, 0, 153, 4, 172] = true := by decide +kernel
theorem dX11_mend_38 : decode cX11_mend 38 = .ok (.getfield 76, 3) := yd_op_180 (i := 0) (a := 0) (b := 76) yd_by_cX11_mend_1 rfl rfl
theorem dX11_mend_41 : decode cX11_mend 41 = .ok (.aload_n 0, 1) := yd_op_42 (i := 3) yd_by_cX11_mend_1 rfl rfl
theorem dX11_mend_42 : decode cX11_mend 42 = .ok (.getfield 66, 3) := yd_op_180 (i := 4) (a := 0) (b := 66) yd_by_cX11_mend_1 rfl rfl
theorem dX11_mend_45 : decode cX11_mend 45 = .ok (.invokevirtual 314, 3) := yd_op_182 (i := 7) (a := 1) (b := 58) yd_by_cX11_mend_1 rfl rfl
theorem dX11_mend_48 : decode cX11_mend 48 = .ok (.aload_n 0, 1) := yd_op_42 (i := 10) yd_by_cX11_mend_1 rfl rfl
theorem dX11_mend_49 : decode cX11_mend 49 = .ok (.getfield 66, 3) := yd_op_180 (i := 11) (a := 0) (b := 66) yd_by_cX11_mend_1 rfl rfl
theorem dX11_mend_52 : decode cX11_mend 52 = .ok (.dup, 1) := yd_op_89 (i := 14) yd_by_cX11_mend_1 rfl rfl
theorem dX11_mend_53 : decode cX11_mend 53 = .ok (.getfield 153, 3) := yd_op_180 (i := 15) (a := 0) (b := 153) yd_by_cX11_mend_1 rfl rfl
theorem dX11_mend_56 : decode cX11_mend 56 = .ok (.lconst 1, 1) := yd_op_10 (i := 18) yd_by_cX11_mend_1 rfl rfl
theorem dX11_mend_57 : decode cX11_mend 57 = .ok (.aload_n 0, 1) := yd_op_42 (i := 19) yd_by_cX11_mend_1 rfl rfl
theorem dX11_mend_58 : decode cX11_mend 58 = .ok (.getfield 31, 3) := yd_op_180 (i := 20) (a := 0) (b := 31) yd_by_cX11_mend_1 rfl rfl
theorem dX11_mend_61 : decode cX11_mend 61 = .ok (.iload_n 1, 1) := yd_op_27 (i := 23) yd_by_cX11_mend_1 rfl rfl
theorem dX11_mend_62 : decode cX11_mend 62 = .ok (.iload_n 2, 1) := yd_op_28 (i := 24) yd_by_cX11_mend_1 rfl rfl
theorem dX11_mend_63 : decode cX11_mend 63 = .ok (.invokevirtual 190, 3) := yd_op_182 (i := 25) (a := 0) (b := 190) yd_by_cX11_mend_1 rfl rfl
theorem dX11_mend_66 : decode cX11_mend 66 = .ok (.lshl, 1) := yd_op_121 (i := 28) yd_by_cX11_mend_1 rfl rfl
theorem dX11_mend_67 : decode cX11_mend 67 = .ok (.lxor, 1) := yd_op_131 (i := 29) yd_by_cX11_mend_1 rfl rfl
theorem dX11_mend_68 : decode cX11_mend 68 = .ok (.putfield 153, 3) := yd_op_181 (i := 30) (a := 0) (b := 153) yd_by_cX11_mend_1 rfl rfl
theorem dX11_mend_71 : decode cX11_mend 71 = .ok (.iconst 1, 1) := yd_op_4 (i := 33) yd_by_cX11_mend_1 rfl rfl
theorem dX11_mend_72 : decode cX11_mend 72 = .ok (.ireturn, 1) := yd_op_172 (i := 34) yd_by_cX11_mend_1 rfl rfl
set_option maxRecDepth 100000 in
theorem yd_by_cX11_hours_0 : ydk cX11_hours 0 [42, 180, 0, 31, 182, 1, 9, 153, 0, 14, 27, 4, 161, 0, 9, 27, 16, 100, 164, 0, 9, 42, 6, 182, 0, 113, 172, 42, 180, 0, 76, 42, 180, 0, 66, 182, 1, 58, 42] = true := by decide +kernel
theorem dX11_hours_0 : decode cX11_hours 0 = .ok (.aload_n 0, 1) := yd_op_42 (i := 0) yd_by_cX11_hours_0 rfl rfl
theorem dX11_hours_1 : decode cX11_hours 1 = .ok (.getfield 31, 3) := yd_op_180 (i := 1) (a := 0) (b := 31) yd_by_cX11_hours_0 rfl rfl
theorem dX11_hours_4 : decode cX11_hours 4 = .ok (.invokevirtual 265, 3) := yd_op_182 (i := 4) (a := 1) (b := 9) yd_by_cX11_hours_0 rfl rfl
theorem dX11_hours_7 : decode cX11_hours 7 = .ok (.ifCond .eq 14, 3) := yd_op_153 (i := 7) (a := 0) (b := 14) yd_by_cX11_hours_0 rfl rfl
theorem dX11_hours_10 : decode cX11_hours 10 = .ok (.iload_n 1, 1) := yd_op_27 (i := 10) yd_by_cX11_hours_0 rfl rfl
theorem dX11_hours_11 : decode cX11_hours 11 = .ok (.iconst 1, 1) := yd_op_4 (i := 11) yd_by_cX11_hours_0 rfl rfl
theorem dX11_hours_12 : decode cX11_hours 12 = .ok (.if_icmp .lt 9, 3) := yd_op_161 (i := 12) (a := 0) (b := 9) yd_by_cX11_hours_0 rfl rfl
theorem dX11_hours_15 : decode cX11_hours 15 = .ok (.iload_n 1, 1) := yd_op_27 (i := 15) yd_by_cX11_hours_0 rfl rfl
theorem dX11_hours_16 : decode cX11_hours 16 = .ok (.bipush 100, 2) := yd_op_16 (i := 16) (a := 100) yd_by_cX11_hours_0 rfl rfl
theorem dX11_hours_18 : decode cX11_hours 18 = .ok (.if_icmp .le 9, 3) := yd_op_164 (i := 18) (a := 0) (b := 9) yd_by_cX11_hours_0 rfl rfl
theorem dX11_hours_21 : decode cX11_hours 21 = .ok (.aload_n 0, 1) := yd_op_42 (i := 21) yd_by_cX11_hours_0 rfl rfl
theorem dX11_hours_22 : decode cX11_hours 22 = .ok (.iconst 3, 1) := yd_op_6 (i := 22) yd_by_cX11_hours_0 rfl rfl
theorem dX11_hours_23 : decode cX11_hours 23 = .ok (.invokevirtual 113, 3) := yd_op_182 (i := 23) (a := 0) (b := 113) yd_by_cX11_hours_0 rfl rfl
theorem dX11_hours_26 : decode cX11_hours 26 = .ok (.ireturn, 1) := yd_op_172 (i := 26) yd_by_cX11_hours_0 rfl rfl
theorem dX11_hours_27 : decode cX11_hours 27 = .ok (.aload_n 0, 1) := yd_op_42 (i := 27) yd_by_cX11_hours_0 rfl rfl
theorem dX11_hours_28 : decode cX11_hours 28 = .ok (.getfield 76, 3) := yd_op_180 (i := 28) (a := 0) (b := 76) yd_by_cX11_hours_0 rfl rfl
theorem dX11_hours_31 : decode cX11_hours 31 = .ok (.aload_n 0, 1) := yd_op_42 (i := 31) yd_by_cX11_hours_0 rfl rfl
theorem dX11_hours_32 : decode cX11_hours 32 = .ok (.getfield 66, 3) := yd_op_180 (i := 32) (a := 0) (b := 66) yd_by_cX11_hours_0 rfl rfl
theorem dX11_hours_35 : decode cX11_hours 35 = .ok (.invokevirtual 314, 3) := yd_op_182 (i := 35) (a := 1) (b := 58) yd_by_cX11_hours_0 rfl rfl
theorem dX11_hours_38 : decode cX11_hours 38 = .ok (.aload_n 0, 1) := yd_op_42 (i := 38) yd_by_cX11_hours_0 rfl rfl
set_option maxRecDepth 100000 in
theorem yd_by_cX11_hours_1 : ydk cX11_hours 39 [180, 0, 92, 42, 180, 0, 31, 42, 180, 0, 66, 3, 182, 0, 227, 3, 61, 3, 62, 29, 27, 162, 0, 51, 42, 180, 0, 66, 180, 0, 150, 54, 4, 42, 180, 0, 92] = true := by decide +kernel
theorem dX11_hours_39 : decode cX11_hours 39 = .ok (.getfield 92, 3) := yd_op_180 (i := 0) (a := 0) (b := 92) yd_by_cX11_hours_1 rfl rfl
theorem dX11_hours_42 : decode cX11_hours 42 = .ok (.aload_n 0, 1) := yd_op_42 (i := 3) yd_by_cX11_hours_1 rfl rfl
theorem dX11_hours_43 : decode cX11_hours 43 = .ok (.getfield 31, 3) := yd_op_180 (i := 4) (a := 0) (b := 31) yd_by_cX11_hours_1 rfl rfl
theorem dX11_hours_46 : decode cX11_hours 46 = .ok (.aload_n 0, 1) := yd_op_42 (i := 7) yd_by_cX11_hours_1 rfl rfl
theorem dX11_hours_47 : decode cX11_hours 47 = .ok (.getfield 66, 3) := yd_op_180 (i := 8) (a := 0) (b := 66) yd_by_cX11_hours_1 rfl rfl
theorem dX11_hours_50 : decode cX11_hours 50 = .ok (.iconst 0, 1) := yd_op_3 (i := 11) yd_by_cX11_hours_1 rfl rfl
theorem dX11_hours_51 : decode cX11_hours 51 = .ok (.invokevirtual 227, 3) := yd_op_182 (i := 12) (a := 0) (b := 227) yd_by_cX11_hours_1 rfl rfl
theorem dX11_hours_54 : decode cX11_hours 54 = .ok (.iconst 0, 1) := yd_op_3 (i := 15) yd_by_cX11_hours_1 rfl rfl
theorem dX11_hours_55 : decode cX11_hours 55 = .ok (.istore_n 2, 1) := yd_op_61 (i := 16) yd_by_cX11_hours_1 rfl rfl
theorem dX11_hours_56 : decode cX11_hours 56 = .ok (.iconst 0, 1) := yd_op_3 (i := 17) yd_by_cX11_hours_1 rfl rfl
theorem dX11_hours_57 : decode cX11_hours 57 = .ok (.istore_n 3, 1) := yd_op_62 (i := 18) yd_by_cX11_hours_1 rfl rfl
theorem dX11_hours_58 : decode cX11_hours 58 = .ok (.iload_n 3, 1) := yd_op_29 (i := 19) yd_by_cX11_hours_1 rfl rfl
theorem dX11_hours_59 : decode cX11_hours 59 = .ok (.iload_n 1, 1) := yd_op_27 (i := 20) yd_by_cX11_hours_1 rfl rfl
theorem dX11_hours_60 : decode cX11_hours 60 = .ok (.if_icmp .ge 51, 3) := yd_op_162 (i := 21) (a := 0) (b := 51) yd_by_cX11_hours_1 rfl rfl
theorem dX11_hours_63 : decode cX11_hours 63 = .ok (.aload_n 0, 1) := yd_op_42 (i := 24) yd_by_cX11_hours_1 rfl rfl
theorem dX11_hours_64 : decode cX11_hours 64 = .ok (.getfield 66, 3) := yd_op_180 (i := 25) (a := 0) (b := 66) yd_by_cX11_hours_1 rfl rfl
theorem dX11_hours_67 : decode cX11_hours 67 = .ok (.getfield 150, 3) := yd_op_180 (i := 28) (a := 0) (b := 150) yd_by_cX11_hours_1 rfl rfl
theorem dX11_hours_70 : decode cX11_hours 70 = .ok (.istore 4, 2) := yd_op_54 (i := 31) (a := 4) yd_by_cX11_hours_1 rfl rfl
theorem dX11_hours_72 : decode cX11_hours 72 = .ok (.aload_n 0, 1) := yd_op_42 (i := 33) yd_by_cX11_hours_1 rfl rfl
theorem dX11_hours_73 : decode cX11_hours 73 = .ok (.getfield 92, 3) := yd_op_180 (i := 34) (a := 0) (b := 92) yd_by_cX11_hours_1 rfl rfl
set_option maxRecDepth 100000 in
theorem yd_by_cX11_hours_2 : ydk cX11_hours 76 [2, 182, 0, 244, 55, 5, 42, 180, 0, 66, 42, 180, 0, 31, 21, 4, 22, 5, 182, 1, 62, 28, 22, 5, 184, 0, 157, 96, 61, 132, 3, 1, 167, 255, 206, 28, 172] = true := by decide +kernel
theorem dX11_hours_76 : decode cX11_hours 76 = .ok (.iconst (-1), 1) := yd_op_2 (i := 0) yd_by_cX11_hours_2 rfl rfl
theorem dX11_hours_77 : decode cX11_hours 77 = .ok (.invokevirtual 244, 3) := yd_op_182 (i := 1) (a := 0) (b := 244) yd_by_cX11_hours_2 rfl rfl
theorem dX11_hours_80 : decode cX11_hours 80 = .ok (.lstore 5, 2) := yd_op_55 (i := 4) (a := 5) yd_by_cX11_hours_2 rfl rfl
theorem dX11_hours_82 : decode cX11_hours 82 = .ok (.aload_n 0, 1) := yd_op_42 (i := 6) yd_by_cX11_hours_2 rfl rfl
theorem dX11_hours_83 : decode cX11_hours 83 = .ok (.getfield 66, 3) := yd_op_180 (i := 7) (a := 0) (b := 66) yd_by_cX11_hours_2 rfl rfl
theorem dX11_hours_86 : decode cX11_hours 86 = .ok (.aload_n 0, 1) := yd_op_42 (i := 10) yd_by_cX11_hours_2 rfl rfl
theorem dX11_hours_87 : decode cX11_hours 87 = .ok (.getfield 31, 3) := yd_op_180 (i := 11) (a := 0) (b := 31) yd_by_cX11_hours_2 rfl rfl
theorem dX11_hours_90 : decode cX11_hours 90 = .ok (.iload 4, 2) := yd_op_21 (i := 14) (a := 4) yd_by_cX11_hours_2 rfl rfl
theorem dX11_hours_92 : decode cX11_hours 92 = .ok (.lload 5, 2) := yd_op_22 (i := 16) (a := 5) yd_by_cX11_hours_2 rfl rfl
theorem dX11_hours_94 : decode cX11_hours 94 = .ok (.invokevirtual 318, 3) := yd_op_182 (i := 18) (a := 1) (b := 62) yd_by_cX11_hours_2 rfl rfl
theorem dX11_hours_97 : decode cX11_hours 97 = .ok (.iload_n 2, 1) := yd_op_28 (i := 21) yd_by_cX11_hours_2 rfl rfl
theorem dX11_hours_98 : decode cX11_hours 98 = .ok (.lload 5, 2) := yd_op_22 (i := 22) (a := 5) yd_by_cX11_hours_2 rfl rfl
theorem dX11_hours_100 : decode cX11_hours 100 = .ok (.invokestatic 157, 3) := yd_op_184 (i := 24) (a := 0) (b := 157) yd_by_cX11_hours_2 rfl rfl
theorem dX11_hours_103 : decode cX11_hours 103 = .ok (.iadd, 1) := yd_op_96 (i := 27) yd_by_cX11_hours_2 rfl rfl
theorem dX11_hours_104 : decode cX11_hours 104 = .ok (.istore_n 2, 1) := yd_op_61 (i := 28) yd_by_cX11_hours_2 rfl rfl
theorem dX11_hours_105 : decode cX11_hours 105 = .ok (.iinc 3 1, 3) := yd_op_132 (i := 29) (a := 3) (b := 1) yd_by_cX11_hours_2 rfl rfl
theorem dX11_hours_108 : decode cX11_hours 108 = .ok (.goto (-50), 3) := yd_op_167 (i := 32) (a := 255) (b := 206) yd_by_cX11_hours_2 rfl rfl
theorem dX11_hours_111 : decode cX11_hours 111 = .ok (.iload_n 2, 1) := yd_op_28 (i := 35) yd_by_cX11_hours_2 rfl rfl
theorem dX11_hours_112 : decode cX11_hours 112 = .ok (.ireturn, 1) := yd_op_172 (i := 36) yd_by_cX11_hours_2 rfl rfl
set_option maxRecDepth 100000 in
theorem yd_by_cX11_chance_0 : ydk cX11_chance 0 [42, 180, 0, 31, 182, 1, 9, 153, 0, 14, 27, 4, 161, 0, 9, 27, 16, 100, 164, 0, 9, 42, 6, 182, 0, 113, 172, 42, 180, 0, 76, 42, 180, 0, 66, 182, 1, 58, 42] = true := by decide +kernel
theorem dX11_chance_0 : decode cX11_chance 0 = .ok (.aload_n 0, 1) := yd_op_42 (i := 0) yd_by_cX11_chance_0 rfl rfl
theorem dX11_chance_1 : decode cX11_chance 1 = .ok (.getfield 31, 3) := yd_op_180 (i := 1) (a := 0) (b := 31) yd_by_cX11_chance_0 rfl rfl
theorem dX11_chance_4 : decode cX11_chance 4 = .ok (.invokevirtual 265, 3) := yd_op_182 (i := 4) (a := 1) (b := 9) yd_by_cX11_chance_0 rfl rfl
theorem dX11_chance_7 : decode cX11_chance 7 = .ok (.ifCond .eq 14, 3) := yd_op_153 (i := 7) (a := 0) (b := 14) yd_by_cX11_chance_0 rfl rfl
theorem dX11_chance_10 : decode cX11_chance 10 = .ok (.iload_n 1, 1) := yd_op_27 (i := 10) yd_by_cX11_chance_0 rfl rfl
theorem dX11_chance_11 : decode cX11_chance 11 = .ok (.iconst 1, 1) := yd_op_4 (i := 11) yd_by_cX11_chance_0 rfl rfl
theorem dX11_chance_12 : decode cX11_chance 12 = .ok (.if_icmp .lt 9, 3) := yd_op_161 (i := 12) (a := 0) (b := 9) yd_by_cX11_chance_0 rfl rfl
theorem dX11_chance_15 : decode cX11_chance 15 = .ok (.iload_n 1, 1) := yd_op_27 (i := 15) yd_by_cX11_chance_0 rfl rfl
theorem dX11_chance_16 : decode cX11_chance 16 = .ok (.bipush 100, 2) := yd_op_16 (i := 16) (a := 100) yd_by_cX11_chance_0 rfl rfl
theorem dX11_chance_18 : decode cX11_chance 18 = .ok (.if_icmp .le 9, 3) := yd_op_164 (i := 18) (a := 0) (b := 9) yd_by_cX11_chance_0 rfl rfl
theorem dX11_chance_21 : decode cX11_chance 21 = .ok (.aload_n 0, 1) := yd_op_42 (i := 21) yd_by_cX11_chance_0 rfl rfl
theorem dX11_chance_22 : decode cX11_chance 22 = .ok (.iconst 3, 1) := yd_op_6 (i := 22) yd_by_cX11_chance_0 rfl rfl
theorem dX11_chance_23 : decode cX11_chance 23 = .ok (.invokevirtual 113, 3) := yd_op_182 (i := 23) (a := 0) (b := 113) yd_by_cX11_chance_0 rfl rfl
theorem dX11_chance_26 : decode cX11_chance 26 = .ok (.ireturn, 1) := yd_op_172 (i := 26) yd_by_cX11_chance_0 rfl rfl
theorem dX11_chance_27 : decode cX11_chance 27 = .ok (.aload_n 0, 1) := yd_op_42 (i := 27) yd_by_cX11_chance_0 rfl rfl
theorem dX11_chance_28 : decode cX11_chance 28 = .ok (.getfield 76, 3) := yd_op_180 (i := 28) (a := 0) (b := 76) yd_by_cX11_chance_0 rfl rfl
theorem dX11_chance_31 : decode cX11_chance 31 = .ok (.aload_n 0, 1) := yd_op_42 (i := 31) yd_by_cX11_chance_0 rfl rfl
theorem dX11_chance_32 : decode cX11_chance 32 = .ok (.getfield 66, 3) := yd_op_180 (i := 32) (a := 0) (b := 66) yd_by_cX11_chance_0 rfl rfl
theorem dX11_chance_35 : decode cX11_chance 35 = .ok (.invokevirtual 314, 3) := yd_op_182 (i := 35) (a := 1) (b := 58) yd_by_cX11_chance_0 rfl rfl
theorem dX11_chance_38 : decode cX11_chance 38 = .ok (.aload_n 0, 1) := yd_op_42 (i := 38) yd_by_cX11_chance_0 rfl rfl
set_option maxRecDepth 100000 in
theorem yd_by_cX11_chance_1 : ydk cX11_chance 39 [180, 0, 92, 42, 180, 0, 31, 42, 180, 0, 66, 3, 182, 0, 227, 3, 61, 3, 62, 29, 27, 162, 0, 75, 2, 54, 4, 42, 16, 100, 182, 1, 66, 42] = true := by decide +kernel
theorem dX11_chance_39 : decode cX11_chance 39 = .ok (.getfield 92, 3) := yd_op_180 (i := 0) (a := 0) (b := 92) yd_by_cX11_chance_1 rfl rfl
theorem dX11_chance_42 : decode cX11_chance 42 = .ok (.aload_n 0, 1) := yd_op_42 (i := 3) yd_by_cX11_chance_1 rfl rfl
theorem dX11_chance_43 : decode cX11_chance 43 = .ok (.getfield 31, 3) := yd_op_180 (i := 4) (a := 0) (b := 31) yd_by_cX11_chance_1 rfl rfl
theorem dX11_chance_46 : decode cX11_chance 46 = .ok (.aload_n 0, 1) := yd_op_42 (i := 7) yd_by_cX11_chance_1 rfl rfl
theorem dX11_chance_47 : decode cX11_chance 47 = .ok (.getfield 66, 3) := yd_op_180 (i := 8) (a := 0) (b := 66) yd_by_cX11_chance_1 rfl rfl
theorem dX11_chance_50 : decode cX11_chance 50 = .ok (.iconst 0, 1) := yd_op_3 (i := 11) yd_by_cX11_chance_1 rfl rfl
theorem dX11_chance_51 : decode cX11_chance 51 = .ok (.invokevirtual 227, 3) := yd_op_182 (i := 12) (a := 0) (b := 227) yd_by_cX11_chance_1 rfl rfl
theorem dX11_chance_54 : decode cX11_chance 54 = .ok (.iconst 0, 1) := yd_op_3 (i := 15) yd_by_cX11_chance_1 rfl rfl
theorem dX11_chance_55 : decode cX11_chance 55 = .ok (.istore_n 2, 1) := yd_op_61 (i := 16) yd_by_cX11_chance_1 rfl rfl
theorem dX11_chance_56 : decode cX11_chance 56 = .ok (.iconst 0, 1) := yd_op_3 (i := 17) yd_by_cX11_chance_1 rfl rfl
theorem dX11_chance_57 : decode cX11_chance 57 = .ok (.istore_n 3, 1) := yd_op_62 (i := 18) yd_by_cX11_chance_1 rfl rfl
theorem dX11_chance_58 : decode cX11_chance 58 = .ok (.iload_n 3, 1) := yd_op_29 (i := 19) yd_by_cX11_chance_1 rfl rfl
theorem dX11_chance_59 : decode cX11_chance 59 = .ok (.iload_n 1, 1) := yd_op_27 (i := 20) yd_by_cX11_chance_1 rfl rfl
theorem dX11_chance_60 : decode cX11_chance 60 = .ok (.if_icmp .ge 75, 3) := yd_op_162 (i := 21) (a := 0) (b := 75) yd_by_cX11_chance_1 rfl rfl
theorem dX11_chance_63 : decode cX11_chance 63 = .ok (.iconst (-1), 1) := yd_op_2 (i := 24) yd_by_cX11_chance_1 rfl rfl
theorem dX11_chance_64 : decode cX11_chance 64 = .ok (.istore 4, 2) := yd_op_54 (i := 25) (a := 4) yd_by_cX11_chance_1 rfl rfl
theorem dX11_chance_66 : decode cX11_chance 66 = .ok (.aload_n 0, 1) := yd_op_42 (i := 27) yd_by_cX11_chance_1 rfl rfl
theorem dX11_chance_67 : decode cX11_chance 67 = .ok (.bipush 100, 2) := yd_op_16 (i := 28) (a := 100) yd_by_cX11_chance_1 rfl rfl
theorem dX11_chance_69 : decode cX11_chance 69 = .ok (.invokevirtual 322, 3) := yd_op_182 (i := 30) (a := 1) (b := 66) yd_by_cX11_chance_1 rfl rfl
theorem dX11_chance_72 : decode cX11_chance 72 = .ok (.aload_n 0, 1) := yd_op_42 (i := 33) yd_by_cX11_chance_1 rfl rfl
set_option maxRecDepth 100000 in
theorem yd_by_cX11_chance_2 : ydk cX11_chance 73 [180, 0, 31, 180, 1, 69, 162, 0, 19, 42, 42, 180, 0, 31, 182, 1, 29, 182, 1, 66, 54, 4, 132, 2, 1, 42, 180, 0, 66, 180, 0, 150, 54, 5, 42, 180, 0, 66, 42, 180, 0, 31, 21, 5, 42] = true := by decide +kernel
theorem dX11_chance_73 : decode cX11_chance 73 = .ok (.getfield 31, 3) := yd_op_180 (i := 0) (a := 0) (b := 31) yd_by_cX11_chance_2 rfl rfl
theorem dX11_chance_76 : decode cX11_chance 76 = .ok (.getfield 325, 3) := yd_op_180 (i := 3) (a := 1) (b := 69) yd_by_cX11_chance_2 rfl rfl
theorem dX11_chance_79 : decode cX11_chance 79 = .ok (.if_icmp .ge 19, 3) := yd_op_162 (i := 6) (a := 0) (b := 19) yd_by_cX11_chance_2 rfl rfl
theorem dX11_chance_82 : decode cX11_chance 82 = .ok (.aload_n 0, 1) := yd_op_42 (i := 9) yd_by_cX11_chance_2 rfl rfl
theorem dX11_chance_83 : decode cX11_chance 83 = .ok (.aload_n 0, 1) := yd_op_42 (i := 10) yd_by_cX11_chance_2 rfl rfl
theorem dX11_chance_84 : decode cX11_chance 84 = .ok (.getfield 31, 3) := yd_op_180 (i := 11) (a := 0) (b := 31) yd_by_cX11_chance_2 rfl rfl
theorem dX11_chance_87 : decode cX11_chance 87 = .ok (.invokevirtual 285, 3) := yd_op_182 (i := 14) (a := 1) (b := 29) yd_by_cX11_chance_2 rfl rfl
theorem dX11_chance_90 : decode cX11_chance 90 = .ok (.invokevirtual 322, 3) := yd_op_182 (i := 17) (a := 1) (b := 66) yd_by_cX11_chance_2 rfl rfl
theorem dX11_chance_93 : decode cX11_chance 93 = .ok (.istore 4, 2) := yd_op_54 (i := 20) (a := 4) yd_by_cX11_chance_2 rfl rfl
theorem dX11_chance_95 : decode cX11_chance 95 = .ok (.iinc 2 1, 3) := yd_op_132 (i := 22) (a := 2) (b := 1) yd_by_cX11_chance_2 rfl rfl
theorem dX11_chance_98 : decode cX11_chance 98 = .ok (.aload_n 0, 1) := yd_op_42 (i := 25) yd_by_cX11_chance_2 rfl rfl
theorem dX11_chance_99 : decode cX11_chance 99 = .ok (.getfield 66, 3) := yd_op_180 (i := 26) (a := 0) (b := 66) yd_by_cX11_chance_2 rfl rfl
theorem dX11_chance_102 : decode cX11_chance 102 = .ok (.getfield 150, 3) := yd_op_180 (i := 29) (a := 0) (b := 150) yd_by_cX11_chance_2 rfl rfl
theorem dX11_chance_105 : decode cX11_chance 105 = .ok (.istore 5, 2) := yd_op_54 (i := 32) (a := 5) yd_by_cX11_chance_2 rfl rfl
theorem dX11_chance_107 : decode cX11_chance 107 = .ok (.aload_n 0, 1) := yd_op_42 (i := 34) yd_by_cX11_chance_2 rfl rfl
theorem dX11_chance_108 : decode cX11_chance 108 = .ok (.getfield 66, 3) := yd_op_180 (i := 35) (a := 0) (b := 66) yd_by_cX11_chance_2 rfl rfl
theorem dX11_chance_111 : decode cX11_chance 111 = .ok (.aload_n 0, 1) := yd_op_42 (i := 38) yd_by_cX11_chance_2 rfl rfl
theorem dX11_chance_112 : decode cX11_chance 112 = .ok (.getfield 31, 3) := yd_op_180 (i := 39) (a := 0) (b := 31) yd_by_cX11_chance_2 rfl rfl
theorem dX11_chance_115 : decode cX11_chance 115 = .ok (.iload 5, 2) := yd_op_21 (i := 42) (a := 5) yd_by_cX11_chance_2 rfl rfl
theorem dX11_chance_117 : decode cX11_chance 117 = .ok (.aload_n 0, 1) := yd_op_42 (i := 44) yd_by_cX11_chance_2 rfl rfl
set_option maxRecDepth 100000 in
theorem yd_by_cX11_chance_3 : ydk cX11_chance 118 [180, 0, 92, 21, 4, 182, 0, 244, 182, 1, 62, 132, 3, 1, 167, 255, 182, 28, 172] = true := by decide +kernel
theorem dX11_chance_118 : decode cX11_chance 118 = .ok (.getfield 92, 3) := yd_op_180 (i := 0) (a := 0) (b := 92) yd_by_cX11_chance_3 rfl rfl
theorem dX11_chance_121 : decode cX11_chance 121 = .ok (.iload 4, 2) := yd_op_21 (i := 3) (a := 4) yd_by_cX11_chance_3 rfl rfl
theorem dX11_chance_123 : decode cX11_chance 123 = .ok (.invokevirtual 244, 3) := yd_op_182 (i := 5) (a := 0) (b := 244) yd_by_cX11_chance_3 rfl rfl
theorem dX11_chance_126 : decode cX11_chance 126 = .ok (.invokevirtual 318, 3) := yd_op_182 (i := 8) (a := 1) (b := 62) yd_by_cX11_chance_3 rfl rfl
theorem dX11_chance_129 : decode cX11_chance 129 = .ok (.iinc 3 1, 3) := yd_op_132 (i := 11) (a := 3) (b := 1) yd_by_cX11_chance_3 rfl rfl
theorem dX11_chance_132 : decode cX11_chance 132 = .ok (.goto (-74), 3) := yd_op_167 (i := 14) (a := 255) (b := 182) yd_by_cX11_chance_3 rfl rfl
theorem dX11_chance_135 : decode cX11_chance 135 = .ok (.iload_n 2, 1) := yd_op_28 (i := 17) yd_by_cX11_chance_3 rfl rfl
theorem dX11_chance_136 : decode cX11_chance 136 = .ok (.ireturn, 1) := yd_op_172 (i := 18) yd_by_cX11_chance_3 rfl rfl
set_option maxRecDepth 100000 in
theorem yd_by_cX11_undo_0 : ydk cX11_undo 0 [42, 180, 0, 76, 42, 180, 0, 66, 182, 1, 72, 154, 0, 11, 42, 7, 182, 0, 120, 153, 0, 7, 4, 167, 0, 4, 3, 172] = true := by decide +kernel
theorem dX11_undo_0 : decode cX11_undo 0 = .ok (.aload_n 0, 1) := yd_op_42 (i := 0) yd_by_cX11_undo_0 rfl rfl
theorem dX11_undo_1 : decode cX11_undo 1 = .ok (.getfield 76, 3) := yd_op_180 (i := 1) (a := 0) (b := 76) yd_by_cX11_undo_0 rfl rfl
theorem dX11_undo_4 : decode cX11_undo 4 = .ok (.aload_n 0, 1) := yd_op_42 (i := 4) yd_by_cX11_undo_0 rfl rfl
theorem dX11_undo_5 : decode cX11_undo 5 = .ok (.getfield 66, 3) := yd_op_180 (i := 5) (a := 0) (b := 66) yd_by_cX11_undo_0 rfl rfl
theorem dX11_undo_8 : decode cX11_undo 8 = .ok (.invokevirtual 328, 3) := yd_op_182 (i := 8) (a := 1) (b := 72) yd_by_cX11_undo_0 rfl rfl
theorem dX11_undo_11 : decode cX11_undo 11 = .ok (.ifCond .ne 11, 3) := yd_op_154 (i := 11) (a := 0) (b := 11) yd_by_cX11_undo_0 rfl rfl
theorem dX11_undo_14 : decode cX11_undo 14 = .ok (.aload_n 0, 1) := yd_op_42 (i := 14) yd_by_cX11_undo_0 rfl rfl
theorem dX11_undo_15 : decode cX11_undo 15 = .ok (.iconst 4, 1) := yd_op_7 (i := 15) yd_by_cX11_undo_0 rfl rfl
theorem dX11_undo_16 : decode cX11_undo 16 = .ok (.invokevirtual 120, 3) := yd_op_182 (i := 16) (a := 0) (b := 120) yd_by_cX11_undo_0 rfl rfl
theorem dX11_undo_19 : decode cX11_undo 19 = .ok (.ifCond .eq 7, 3) := yd_op_153 (i := 19) (a := 0) (b := 7) yd_by_cX11_undo_0 rfl rfl
theorem dX11_undo_22 : decode cX11_undo 22 = .ok (.iconst 1, 1) := yd_op_4 (i := 22) yd_by_cX11_undo_0 rfl rfl
theorem dX11_undo_23 : decode cX11_undo 23 = .ok (.goto 4, 3) := yd_op_167 (i := 23) (a := 0) (b := 4) yd_by_cX11_undo_0 rfl rfl
theorem dX11_undo_26 : decode cX11_undo 26 = .ok (.iconst 0, 1) := yd_op_3 (i := 26) yd_by_cX11_undo_0 rfl rfl
theorem dX11_undo_27 : decode cX11_undo 27 = .ok (.ireturn, 1) := yd_op_172 (i := 27) yd_by_cX11_undo_0 rfl rfl
set_option maxRecDepth 100000 in
theorem yd_by_cX11_seed_0 : ydk cX11_seed 0 [27, 156, 0, 9, 42, 8, 182, 0, 120, 172, 42, 27, 181, 0, 100, 4, 172] = true := by decide +kernel
theorem dX11_seed_0 : decode cX11_seed 0 = .ok (.iload_n 1, 1) := yd_op_27 (i := 0) yd_by_cX11_seed_0 rfl rfl
theorem dX11_seed_1 : decode cX11_seed 1 = .ok (.ifCond .ge 9, 3) := yd_op_156 (i := 1) (a := 0) (b := 9) yd_by_cX11_seed_0 rfl rfl
theorem dX11_seed_4 : decode cX11_seed 4 = .ok (.aload_n 0, 1) := yd_op_42 (i := 4) yd_by_cX11_seed_0 rfl rfl
theorem dX11_seed_5 : decode cX11_seed 5 = .ok (.iconst 5, 1) := yd_op_8 (i := 5) yd_by_cX11_seed_0 rfl rfl
theorem dX11_seed_6 : decode cX11_seed 6 = .ok (.invokevirtual 120, 3) := yd_op_182 (i := 6) (a := 0) (b := 120) yd_by_cX11_seed_0 rfl rfl
theorem dX11_seed_9 : decode cX11_seed 9 = .ok (.ireturn, 1) := yd_op_172 (i := 9) yd_by_cX11_seed_0 rfl rfl
theorem dX11_seed_10 : decode cX11_seed 10 = .ok (.aload_n 0, 1) := yd_op_42 (i := 10) yd_by_cX11_seed_0 rfl rfl
theorem dX11_seed_11 : decode cX11_seed 11 = .ok (.iload_n 1, 1) := yd_op_27 (i := 11) yd_by_cX11_seed_0 rfl rfl
theorem dX11_seed_12 : decode cX11_seed 12 = .ok (.putfield 100, 3) := yd_op_181 (i := 12) (a := 0) (b := 100) yd_by_cX11_seed_0 rfl rfl
theorem dX11_seed_15 : decode cX11_seed 15 = .ok (.iconst 1, 1) := yd_op_4 (i := 15) yd_by_cX11_seed_0 rfl rfl
theorem dX11_seed_16 : decode cX11_seed 16 = .ok (.ireturn, 1) := yd_op_172 (i := 16) yd_by_cX11_seed_0 rfl rfl
theorem dX11_ask_67 : decode cX11_ask 67 = .ok (.tableswitch 67 27 31 #[33, 40, 47, 54, 60], 33) := by decide +kernel
set_option maxRecDepth 100000 in
theorem yd_by_cX11_ask_0 : ydk cX11_ask 0 [42, 180, 0, 31, 182, 1, 9, 154, 0, 15, 42, 180, 0, 14, 3, 181, 0, 110, 20, 0, 210, 173, 42, 180, 0, 50, 42, 180, 0, 24, 42, 180, 0, 14, 182, 1, 76, 60, 42, 180, 0, 14] = true := by decide +kernel
theorem dX11_ask_0 : decode cX11_ask 0 = .ok (.aload_n 0, 1) := yd_op_42 (i := 0) yd_by_cX11_ask_0 rfl rfl
theorem dX11_ask_1 : decode cX11_ask 1 = .ok (.getfield 31, 3) := yd_op_180 (i := 1) (a := 0) (b := 31) yd_by_cX11_ask_0 rfl rfl
theorem dX11_ask_4 : decode cX11_ask 4 = .ok (.invokevirtual 265, 3) := yd_op_182 (i := 4) (a := 1) (b := 9) yd_by_cX11_ask_0 rfl rfl
theorem dX11_ask_7 : decode cX11_ask 7 = .ok (.ifCond .ne 15, 3) := yd_op_154 (i := 7) (a := 0) (b := 15) yd_by_cX11_ask_0 rfl rfl
theorem dX11_ask_10 : decode cX11_ask 10 = .ok (.aload_n 0, 1) := yd_op_42 (i := 10) yd_by_cX11_ask_0 rfl rfl
theorem dX11_ask_11 : decode cX11_ask 11 = .ok (.getfield 14, 3) := yd_op_180 (i := 11) (a := 0) (b := 14) yd_by_cX11_ask_0 rfl rfl
theorem dX11_ask_14 : decode cX11_ask 14 = .ok (.iconst 0, 1) := yd_op_3 (i := 14) yd_by_cX11_ask_0 rfl rfl
theorem dX11_ask_15 : decode cX11_ask 15 = .ok (.putfield 110, 3) := yd_op_181 (i := 15) (a := 0) (b := 110) yd_by_cX11_ask_0 rfl rfl
theorem dX11_ask_18 : decode cX11_ask 18 = .ok (.ldc2_w 210, 3) := yd_op_20 (i := 18) (a := 0) (b := 210) yd_by_cX11_ask_0 rfl rfl
theorem dX11_ask_21 : decode cX11_ask 21 = .ok (.lreturn, 1) := yd_op_173 (i := 21) yd_by_cX11_ask_0 rfl rfl
theorem dX11_ask_22 : decode cX11_ask 22 = .ok (.aload_n 0, 1) := yd_op_42 (i := 22) yd_by_cX11_ask_0 rfl rfl
theorem dX11_ask_23 : decode cX11_ask 23 = .ok (.getfield 50, 3) := yd_op_180 (i := 23) (a := 0) (b := 50) yd_by_cX11_ask_0 rfl rfl
theorem dX11_ask_26 : decode cX11_ask 26 = .ok (.aload_n 0, 1) := yd_op_42 (i := 26) yd_by_cX11_ask_0 rfl rfl
theorem dX11_ask_27 : decode cX11_ask 27 = .ok (.getfield 24, 3) := yd_op_180 (i := 27) (a := 0) (b := 24) yd_by_cX11_ask_0 rfl rfl
theorem dX11_ask_30 : decode cX11_ask 30 = .ok (.aload_n 0, 1) := yd_op_42 (i := 30) yd_by_cX11_ask_0 rfl rfl
theorem dX11_ask_31 : decode cX11_ask 31 = .ok (.getfield 14, 3) := yd_op_180 (i := 31) (a := 0) (b := 14) yd_by_cX11_ask_0 rfl rfl
theorem dX11_ask_34 : decode cX11_ask 34 = .ok (.invokevirtual 332, 3) := yd_op_182 (i := 34) (a := 1) (b := 76) yd_by_cX11_ask_0 rfl rfl
theorem dX11_ask_37 : decode cX11_ask 37 = .ok (.istore_n 1, 1) := yd_op_60 (i := 37) yd_by_cX11_ask_0 rfl rfl
theorem dX11_ask_38 : decode cX11_ask 38 = .ok (.aload_n 0, 1) := yd_op_42 (i := 38) yd_by_cX11_ask_0 rfl rfl
theorem dX11_ask_39 : decode cX11_ask 39 = .ok (.getfield 14, 3) := yd_op_180 (i := 39) (a := 0) (b := 14) yd_by_cX11_ask_0 rfl rfl
set_option maxRecDepth 100000 in
theorem yd_by_cX11_ask_1 : ydk cX11_ask 42 [3, 181, 0, 110, 42, 182, 0, 128, 42, 180, 0, 104, 153, 0, 7, 20, 0, 210, 173, 42, 182, 0, 163, 61, 27, 170, 0, 0, 0, 67, 0, 0, 0, 27, 0, 0, 0, 31, 0, 0, 0, 33, 0, 0, 0, 40, 0, 0, 0, 47, 0, 0, 0, 54, 0, 0, 0, 60, 42, 28, 182, 1, 80, 133, 173, 42, 28] = true := by decide +kernel
theorem dX11_ask_42 : decode cX11_ask 42 = .ok (.iconst 0, 1) := yd_op_3 (i := 0) yd_by_cX11_ask_1 rfl rfl
theorem dX11_ask_43 : decode cX11_ask 43 = .ok (.putfield 110, 3) := yd_op_181 (i := 1) (a := 0) (b := 110) yd_by_cX11_ask_1 rfl rfl
theorem dX11_ask_46 : decode cX11_ask 46 = .ok (.aload_n 0, 1) := yd_op_42 (i := 4) yd_by_cX11_ask_1 rfl rfl
theorem dX11_ask_47 : decode cX11_ask 47 = .ok (.invokevirtual 128, 3) := yd_op_182 (i := 5) (a := 0) (b := 128) yd_by_cX11_ask_1 rfl rfl
theorem dX11_ask_50 : decode cX11_ask 50 = .ok (.aload_n 0, 1) := yd_op_42 (i := 8) yd_by_cX11_ask_1 rfl rfl
theorem dX11_ask_51 : decode cX11_ask 51 = .ok (.getfield 104, 3) := yd_op_180 (i := 9) (a := 0) (b := 104) yd_by_cX11_ask_1 rfl rfl
theorem dX11_ask_54 : decode cX11_ask 54 = .ok (.ifCond .eq 7, 3) := yd_op_153 (i := 12) (a := 0) (b := 7) yd_by_cX11_ask_1 rfl rfl
theorem dX11_ask_57 : decode cX11_ask 57 = .ok (.ldc2_w 210, 3) := yd_op_20 (i := 15) (a := 0) (b := 210) yd_by_cX11_ask_1 rfl rfl
theorem dX11_ask_60 : decode cX11_ask 60 = .ok (.lreturn, 1) := yd_op_173 (i := 18) yd_by_cX11_ask_1 rfl rfl
theorem dX11_ask_61 : decode cX11_ask 61 = .ok (.aload_n 0, 1) := yd_op_42 (i := 19) yd_by_cX11_ask_1 rfl rfl
theorem dX11_ask_62 : decode cX11_ask 62 = .ok (.invokevirtual 163, 3) := yd_op_182 (i := 20) (a := 0) (b := 163) yd_by_cX11_ask_1 rfl rfl
theorem dX11_ask_65 : decode cX11_ask 65 = .ok (.istore_n 2, 1) := yd_op_61 (i := 23) yd_by_cX11_ask_1 rfl rfl
theorem dX11_ask_66 : decode cX11_ask 66 = .ok (.iload_n 1, 1) := yd_op_27 (i := 24) yd_by_cX11_ask_1 rfl rfl
theorem dX11_ask_100 : decode cX11_ask 100 = .ok (.aload_n 0, 1) := yd_op_42 (i := 58) yd_by_cX11_ask_1 rfl rfl
theorem dX11_ask_101 : decode cX11_ask 101 = .ok (.iload_n 2, 1) := yd_op_28 (i := 59) yd_by_cX11_ask_1 rfl rfl
theorem dX11_ask_102 : decode cX11_ask 102 = .ok (.invokevirtual 336, 3) := yd_op_182 (i := 60) (a := 1) (b := 80) yd_by_cX11_ask_1 rfl rfl
theorem dX11_ask_105 : decode cX11_ask 105 = .ok (.i2l, 1) := yd_op_133 (i := 63) yd_by_cX11_ask_1 rfl rfl
theorem dX11_ask_106 : decode cX11_ask 106 = .ok (.lreturn, 1) := yd_op_173 (i := 64) yd_by_cX11_ask_1 rfl rfl
theorem dX11_ask_107 : decode cX11_ask 107 = .ok (.aload_n 0, 1) := yd_op_42 (i := 65) yd_by_cX11_ask_1 rfl rfl
theorem dX11_ask_108 : decode cX11_ask 108 = .ok (.iload_n 2, 1) := yd_op_28 (i := 66) yd_by_cX11_ask_1 rfl rfl
set_option maxRecDepth 100000 in
theorem yd_by_cX11_ask_2 : ydk cX11_ask 109 [182, 1, 83, 133, 173, 42, 28, 182, 1, 86, 133, 173, 42, 28, 182, 1, 89, 173, 42, 28, 182, 1, 92, 133, 173, 42, 28, 182, 1, 95] = true := by decide +kernel
theorem dX11_ask_109 : decode cX11_ask 109 = .ok (.invokevirtual 339, 3) := yd_op_182 (i := 0) (a := 1) (b := 83) yd_by_cX11_ask_2 rfl rfl
theorem dX11_ask_112 : decode cX11_ask 112 = .ok (.i2l, 1) := yd_op_133 (i := 3) yd_by_cX11_ask_2 rfl rfl
theorem dX11_ask_113 : decode cX11_ask 113 = .ok (.lreturn, 1) := yd_op_173 (i := 4) yd_by_cX11_ask_2 rfl rfl
theorem dX11_ask_114 : decode cX11_ask 114 = .ok (.aload_n 0, 1) := yd_op_42 (i := 5) yd_by_cX11_ask_2 rfl rfl
theorem dX11_ask_115 : decode cX11_ask 115 = .ok (.iload_n 2, 1) := yd_op_28 (i := 6) yd_by_cX11_ask_2 rfl rfl
theorem dX11_ask_116 : decode cX11_ask 116 = .ok (.invokevirtual 342, 3) := yd_op_182 (i := 7) (a := 1) (b := 86) yd_by_cX11_ask_2 rfl rfl
theorem dX11_ask_119 : decode cX11_ask 119 = .ok (.i2l, 1) := yd_op_133 (i := 10) yd_by_cX11_ask_2 rfl rfl
theorem dX11_ask_120 : decode cX11_ask 120 = .ok (.lreturn, 1) := yd_op_173 (i := 11) yd_by_cX11_ask_2 rfl rfl
theorem dX11_ask_121 : decode cX11_ask 121 = .ok (.aload_n 0, 1) := yd_op_42 (i := 12) yd_by_cX11_ask_2 rfl rfl
theorem dX11_ask_122 : decode cX11_ask 122 = .ok (.iload_n 2, 1) := yd_op_28 (i := 13) yd_by_cX11_ask_2 rfl rfl
theorem dX11_ask_123 : decode cX11_ask 123 = .ok (.invokevirtual 345, 3) := yd_op_182 (i := 14) (a := 1) (b := 89) yd_by_cX11_ask_2 rfl rfl
theorem dX11_ask_126 : decode cX11_ask 126 = .ok (.lreturn, 1) := yd_op_173 (i := 17) yd_by_cX11_ask_2 rfl rfl
theorem dX11_ask_127 : decode cX11_ask 127 = .ok (.aload_n 0, 1) := yd_op_42 (i := 18) yd_by_cX11_ask_2 rfl rfl
theorem dX11_ask_128 : decode cX11_ask 128 = .ok (.iload_n 2, 1) := yd_op_28 (i := 19) yd_by_cX11_ask_2 rfl rfl
theorem dX11_ask_129 : decode cX11_ask 129 = .ok (.invokevirtual 348, 3) := yd_op_182 (i := 20) (a := 1) (b := 92) yd_by_cX11_ask_2 rfl rfl
theorem dX11_ask_132 : decode cX11_ask 132 = .ok (.i2l, 1) := yd_op_133 (i := 23) yd_by_cX11_ask_2 rfl rfl
theorem dX11_ask_133 : decode cX11_ask 133 = .ok (.lreturn, 1) := yd_op_173 (i := 24) yd_by_cX11_ask_2 rfl rfl
theorem dX11_ask_134 : decode cX11_ask 134 = .ok (.aload_n 0, 1) := yd_op_42 (i := 25) yd_by_cX11_ask_2 rfl rfl
theorem dX11_ask_135 : decode cX11_ask 135 = .ok (.iload_n 2, 1) := yd_op_28 (i := 26) yd_by_cX11_ask_2 rfl rfl
theorem dX11_ask_136 : decode cX11_ask 136 = .ok (.invokevirtual 351, 3) := yd_op_182 (i := 27) (a := 1) (b := 95) yd_by_cX11_ask_2 rfl rfl
set_option maxRecDepth 100000 in
theorem yd_by_cX11_ask_3 : ydk cX11_ask 139 [133, 173] = true := by decide +kernel
theorem dX11_ask_139 : decode cX11_ask 139 = .ok (.i2l, 1) := yd_op_133 (i := 0) yd_by_cX11_ask_3 rfl rfl
theorem dX11_ask_140 : decode cX11_ask 140 = .ok (.lreturn, 1) := yd_op_173 (i := 1) yd_by_cX11_ask_3 rfl rfl
set_option maxRecDepth 100000 in
theorem yd_by_cX11_image_0 : ydk cX11_image 0 [42, 180, 0, 18, 3, 181, 0, 110, 42, 180, 0, 18, 42, 180, 0, 66, 180, 0, 150, 16, 8, 122, 182, 1, 98, 42, 180, 0, 18, 42, 180, 0, 66, 180, 0, 150, 17, 0, 255, 126, 182, 1, 98] = true := by decide +kernel
theorem dX11_image_0 : decode cX11_image 0 = .ok (.aload_n 0, 1) := yd_op_42 (i := 0) yd_by_cX11_image_0 rfl rfl
theorem dX11_image_1 : decode cX11_image 1 = .ok (.getfield 18, 3) := yd_op_180 (i := 1) (a := 0) (b := 18) yd_by_cX11_image_0 rfl rfl
theorem dX11_image_4 : decode cX11_image 4 = .ok (.iconst 0, 1) := yd_op_3 (i := 4) yd_by_cX11_image_0 rfl rfl
theorem dX11_image_5 : decode cX11_image 5 = .ok (.putfield 110, 3) := yd_op_181 (i := 5) (a := 0) (b := 110) yd_by_cX11_image_0 rfl rfl
theorem dX11_image_8 : decode cX11_image 8 = .ok (.aload_n 0, 1) := yd_op_42 (i := 8) yd_by_cX11_image_0 rfl rfl
theorem dX11_image_9 : decode cX11_image 9 = .ok (.getfield 18, 3) := yd_op_180 (i := 9) (a := 0) (b := 18) yd_by_cX11_image_0 rfl rfl
theorem dX11_image_12 : decode cX11_image 12 = .ok (.aload_n 0, 1) := yd_op_42 (i := 12) yd_by_cX11_image_0 rfl rfl
theorem dX11_image_13 : decode cX11_image 13 = .ok (.getfield 66, 3) := yd_op_180 (i := 13) (a := 0) (b := 66) yd_by_cX11_image_0 rfl rfl
theorem dX11_image_16 : decode cX11_image 16 = .ok (.getfield 150, 3) := yd_op_180 (i := 16) (a := 0) (b := 150) yd_by_cX11_image_0 rfl rfl
theorem dX11_image_19 : decode cX11_image 19 = .ok (.bipush 8, 2) := yd_op_16 (i := 19) (a := 8) yd_by_cX11_image_0 rfl rfl
theorem dX11_image_21 : decode cX11_image 21 = .ok (.ishr, 1) := yd_op_122 (i := 21) yd_by_cX11_image_0 rfl rfl
theorem dX11_image_22 : decode cX11_image 22 = .ok (.invokevirtual 354, 3) := yd_op_182 (i := 22) (a := 1) (b := 98) yd_by_cX11_image_0 rfl rfl
theorem dX11_image_25 : decode cX11_image 25 = .ok (.aload_n 0, 1) := yd_op_42 (i := 25) yd_by_cX11_image_0 rfl rfl
theorem dX11_image_26 : decode cX11_image 26 = .ok (.getfield 18, 3) := yd_op_180 (i := 26) (a := 0) (b := 18) yd_by_cX11_image_0 rfl rfl
theorem dX11_image_29 : decode cX11_image 29 = .ok (.aload_n 0, 1) := yd_op_42 (i := 29) yd_by_cX11_image_0 rfl rfl
theorem dX11_image_30 : decode cX11_image 30 = .ok (.getfield 66, 3) := yd_op_180 (i := 30) (a := 0) (b := 66) yd_by_cX11_image_0 rfl rfl
theorem dX11_image_33 : decode cX11_image 33 = .ok (.getfield 150, 3) := yd_op_180 (i := 33) (a := 0) (b := 150) yd_by_cX11_image_0 rfl rfl
theorem dX11_image_36 : decode cX11_image 36 = .ok (.sipush 255, 3) := yd_op_17 (i := 36) (a := 0) (b := 255) yd_by_cX11_image_0 rfl rfl
theorem dX11_image_39 : decode cX11_image 39 = .ok (.iand, 1) := yd_op_126 (i := 39) yd_by_cX11_image_0 rfl rfl
theorem dX11_image_40 : decode cX11_image 40 = .ok (.invokevirtual 354, 3) := yd_op_182 (i := 40) (a := 1) (b := 98) yd_by_cX11_image_0 rfl rfl
set_option maxRecDepth 100000 in
theorem yd_by_cX11_image_1 : ydk cX11_image 43 [3, 60, 27, 42, 180, 0, 31, 182, 1, 29, 162, 0, 32, 42, 180, 0, 18, 42, 180, 0, 66, 27, 182, 0, 197, 153, 0, 7, 4, 167, 0, 4, 3, 182, 1, 98, 132, 1, 1, 167, 255, 219] = true := by decide +kernel
theorem dX11_image_43 : decode cX11_image 43 = .ok (.iconst 0, 1) := yd_op_3 (i := 0) yd_by_cX11_image_1 rfl rfl
theorem dX11_image_44 : decode cX11_image 44 = .ok (.istore_n 1, 1) := yd_op_60 (i := 1) yd_by_cX11_image_1 rfl rfl
theorem dX11_image_45 : decode cX11_image 45 = .ok (.iload_n 1, 1) := yd_op_27 (i := 2) yd_by_cX11_image_1 rfl rfl
theorem dX11_image_46 : decode cX11_image 46 = .ok (.aload_n 0, 1) := yd_op_42 (i := 3) yd_by_cX11_image_1 rfl rfl
theorem dX11_image_47 : decode cX11_image 47 = .ok (.getfield 31, 3) := yd_op_180 (i := 4) (a := 0) (b := 31) yd_by_cX11_image_1 rfl rfl
theorem dX11_image_50 : decode cX11_image 50 = .ok (.invokevirtual 285, 3) := yd_op_182 (i := 7) (a := 1) (b := 29) yd_by_cX11_image_1 rfl rfl
theorem dX11_image_53 : decode cX11_image 53 = .ok (.if_icmp .ge 32, 3) := yd_op_162 (i := 10) (a := 0) (b := 32) yd_by_cX11_image_1 rfl rfl
theorem dX11_image_56 : decode cX11_image 56 = .ok (.aload_n 0, 1) := yd_op_42 (i := 13) yd_by_cX11_image_1 rfl rfl
theorem dX11_image_57 : decode cX11_image 57 = .ok (.getfield 18, 3) := yd_op_180 (i := 14) (a := 0) (b := 18) yd_by_cX11_image_1 rfl rfl
theorem dX11_image_60 : decode cX11_image 60 = .ok (.aload_n 0, 1) := yd_op_42 (i := 17) yd_by_cX11_image_1 rfl rfl
theorem dX11_image_61 : decode cX11_image 61 = .ok (.getfield 66, 3) := yd_op_180 (i := 18) (a := 0) (b := 66) yd_by_cX11_image_1 rfl rfl
theorem dX11_image_64 : decode cX11_image 64 = .ok (.iload_n 1, 1) := yd_op_27 (i := 21) yd_by_cX11_image_1 rfl rfl
theorem dX11_image_65 : decode cX11_image 65 = .ok (.invokevirtual 197, 3) := yd_op_182 (i := 22) (a := 0) (b := 197) yd_by_cX11_image_1 rfl rfl
theorem dX11_image_68 : decode cX11_image 68 = .ok (.ifCond .eq 7, 3) := yd_op_153 (i := 25) (a := 0) (b := 7) yd_by_cX11_image_1 rfl rfl
theorem dX11_image_71 : decode cX11_image 71 = .ok (.iconst 1, 1) := yd_op_4 (i := 28) yd_by_cX11_image_1 rfl rfl
theorem dX11_image_72 : decode cX11_image 72 = .ok (.goto 4, 3) := yd_op_167 (i := 29) (a := 0) (b := 4) yd_by_cX11_image_1 rfl rfl
theorem dX11_image_75 : decode cX11_image 75 = .ok (.iconst 0, 1) := yd_op_3 (i := 32) yd_by_cX11_image_1 rfl rfl
theorem dX11_image_76 : decode cX11_image 76 = .ok (.invokevirtual 354, 3) := yd_op_182 (i := 33) (a := 1) (b := 98) yd_by_cX11_image_1 rfl rfl
theorem dX11_image_79 : decode cX11_image 79 = .ok (.iinc 1 1, 3) := yd_op_132 (i := 36) (a := 1) (b := 1) yd_by_cX11_image_1 rfl rfl
theorem dX11_image_82 : decode cX11_image 82 = .ok (.goto (-37), 3) := yd_op_167 (i := 39) (a := 255) (b := 219) yd_by_cX11_image_1 rfl rfl
set_option maxRecDepth 100000 in
theorem yd_by_cX11_image_2 : ydk cX11_image 85 [3, 60, 27, 42, 180, 0, 31, 180, 0, 147, 162, 0, 75, 42, 180, 0, 18, 42, 180, 0, 66, 180, 0, 215, 27, 46, 182, 1, 98, 42, 180, 0, 18, 42, 180, 0, 66, 180, 0, 218] = true := by decide +kernel
theorem dX11_image_85 : decode cX11_image 85 = .ok (.iconst 0, 1) := yd_op_3 (i := 0) yd_by_cX11_image_2 rfl rfl
theorem dX11_image_86 : decode cX11_image 86 = .ok (.istore_n 1, 1) := yd_op_60 (i := 1) yd_by_cX11_image_2 rfl rfl
theorem dX11_image_87 : decode cX11_image 87 = .ok (.iload_n 1, 1) := yd_op_27 (i := 2) yd_by_cX11_image_2 rfl rfl
theorem dX11_image_88 : decode cX11_image 88 = .ok (.aload_n 0, 1) := yd_op_42 (i := 3) yd_by_cX11_image_2 rfl rfl
theorem dX11_image_89 : decode cX11_image 89 = .ok (.getfield 31, 3) := yd_op_180 (i := 4) (a := 0) (b := 31) yd_by_cX11_image_2 rfl rfl
theorem dX11_image_92 : decode cX11_image 92 = .ok (.getfield 147, 3) := yd_op_180 (i := 7) (a := 0) (b := 147) yd_by_cX11_image_2 rfl rfl
theorem dX11_image_95 : decode cX11_image 95 = .ok (.if_icmp .ge 75, 3) := yd_op_162 (i := 10) (a := 0) (b := 75) yd_by_cX11_image_2 rfl rfl
theorem dX11_image_98 : decode cX11_image 98 = .ok (.aload_n 0, 1) := yd_op_42 (i := 13) yd_by_cX11_image_2 rfl rfl
theorem dX11_image_99 : decode cX11_image 99 = .ok (.getfield 18, 3) := yd_op_180 (i := 14) (a := 0) (b := 18) yd_by_cX11_image_2 rfl rfl
theorem dX11_image_102 : decode cX11_image 102 = .ok (.aload_n 0, 1) := yd_op_42 (i := 17) yd_by_cX11_image_2 rfl rfl
theorem dX11_image_103 : decode cX11_image 103 = .ok (.getfield 66, 3) := yd_op_180 (i := 18) (a := 0) (b := 66) yd_by_cX11_image_2 rfl rfl
theorem dX11_image_106 : decode cX11_image 106 = .ok (.getfield 215, 3) := yd_op_180 (i := 21) (a := 0) (b := 215) yd_by_cX11_image_2 rfl rfl
theorem dX11_image_109 : decode cX11_image 109 = .ok (.iload_n 1, 1) := yd_op_27 (i := 24) yd_by_cX11_image_2 rfl rfl
theorem dX11_image_110 : decode cX11_image 110 = .ok (.iaload, 1) := yd_op_46 (i := 25) yd_by_cX11_image_2 rfl rfl
theorem dX11_image_111 : decode cX11_image 111 = .ok (.invokevirtual 354, 3) := yd_op_182 (i := 26) (a := 1) (b := 98) yd_by_cX11_image_2 rfl rfl
theorem dX11_image_114 : decode cX11_image 114 = .ok (.aload_n 0, 1) := yd_op_42 (i := 29) yd_by_cX11_image_2 rfl rfl
theorem dX11_image_115 : decode cX11_image 115 = .ok (.getfield 18, 3) := yd_op_180 (i := 30) (a := 0) (b := 18) yd_by_cX11_image_2 rfl rfl
theorem dX11_image_118 : decode cX11_image 118 = .ok (.aload_n 0, 1) := yd_op_42 (i := 33) yd_by_cX11_image_2 rfl rfl
theorem dX11_image_119 : decode cX11_image 119 = .ok (.getfield 66, 3) := yd_op_180 (i := 34) (a := 0) (b := 66) yd_by_cX11_image_2 rfl rfl
theorem dX11_image_122 : decode cX11_image 122 = .ok (.getfield 218, 3) := yd_op_180 (i := 37) (a := 0) (b := 218) yd_by_cX11_image_2 rfl rfl
set_option maxRecDepth 100000 in
theorem yd_by_cX11_image_3 : ydk cX11_image 125 [27, 46, 182, 1, 98, 42, 180, 0, 18, 42, 180, 0, 66, 180, 0, 224, 27, 46, 182, 1, 98, 42, 180, 0, 18, 42, 180, 0, 66, 180, 0, 171, 27, 122, 4, 126] = true := by decide +kernel
theorem dX11_image_125 : decode cX11_image 125 = .ok (.iload_n 1, 1) := yd_op_27 (i := 0) yd_by_cX11_image_3 rfl rfl
theorem dX11_image_126 : decode cX11_image 126 = .ok (.iaload, 1) := yd_op_46 (i := 1) yd_by_cX11_image_3 rfl rfl
theorem dX11_image_127 : decode cX11_image 127 = .ok (.invokevirtual 354, 3) := yd_op_182 (i := 2) (a := 1) (b := 98) yd_by_cX11_image_3 rfl rfl
theorem dX11_image_130 : decode cX11_image 130 = .ok (.aload_n 0, 1) := yd_op_42 (i := 5) yd_by_cX11_image_3 rfl rfl
theorem dX11_image_131 : decode cX11_image 131 = .ok (.getfield 18, 3) := yd_op_180 (i := 6) (a := 0) (b := 18) yd_by_cX11_image_3 rfl rfl
theorem dX11_image_134 : decode cX11_image 134 = .ok (.aload_n 0, 1) := yd_op_42 (i := 9) yd_by_cX11_image_3 rfl rfl
theorem dX11_image_135 : decode cX11_image 135 = .ok (.getfield 66, 3) := yd_op_180 (i := 10) (a := 0) (b := 66) yd_by_cX11_image_3 rfl rfl
theorem dX11_image_138 : decode cX11_image 138 = .ok (.getfield 224, 3) := yd_op_180 (i := 13) (a := 0) (b := 224) yd_by_cX11_image_3 rfl rfl
theorem dX11_image_141 : decode cX11_image 141 = .ok (.iload_n 1, 1) := yd_op_27 (i := 16) yd_by_cX11_image_3 rfl rfl
theorem dX11_image_142 : decode cX11_image 142 = .ok (.iaload, 1) := yd_op_46 (i := 17) yd_by_cX11_image_3 rfl rfl
theorem dX11_image_143 : decode cX11_image 143 = .ok (.invokevirtual 354, 3) := yd_op_182 (i := 18) (a := 1) (b := 98) yd_by_cX11_image_3 rfl rfl
theorem dX11_image_146 : decode cX11_image 146 = .ok (.aload_n 0, 1) := yd_op_42 (i := 21) yd_by_cX11_image_3 rfl rfl
theorem dX11_image_147 : decode cX11_image 147 = .ok (.getfield 18, 3) := yd_op_180 (i := 22) (a := 0) (b := 18) yd_by_cX11_image_3 rfl rfl
theorem dX11_image_150 : decode cX11_image 150 = .ok (.aload_n 0, 1) := yd_op_42 (i := 25) yd_by_cX11_image_3 rfl rfl
theorem dX11_image_151 : decode cX11_image 151 = .ok (.getfield 66, 3) := yd_op_180 (i := 26) (a := 0) (b := 66) yd_by_cX11_image_3 rfl rfl
theorem dX11_image_154 : decode cX11_image 154 = .ok (.getfield 171, 3) := yd_op_180 (i := 29) (a := 0) (b := 171) yd_by_cX11_image_3 rfl rfl
theorem dX11_image_157 : decode cX11_image 157 = .ok (.iload_n 1, 1) := yd_op_27 (i := 32) yd_by_cX11_image_3 rfl rfl
theorem dX11_image_158 : decode cX11_image 158 = .ok (.ishr, 1) := yd_op_122 (i := 33) yd_by_cX11_image_3 rfl rfl
theorem dX11_image_159 : decode cX11_image 159 = .ok (.iconst 1, 1) := yd_op_4 (i := 34) yd_by_cX11_image_3 rfl rfl
theorem dX11_image_160 : decode cX11_image 160 = .ok (.iand, 1) := yd_op_126 (i := 35) yd_by_cX11_image_3 rfl rfl
set_option maxRecDepth 100000 in
theorem yd_by_cX11_image_4 : ydk cX11_image 161 [182, 1, 98, 132, 1, 1, 167, 255, 176, 42, 180, 0, 18, 42, 180, 0, 18, 42, 180, 0, 18, 180, 0, 110, 182, 1, 101, 182, 1, 98, 42, 180, 0, 18, 180, 0, 110, 172] = true := by decide +kernel
theorem dX11_image_161 : decode cX11_image 161 = .ok (.invokevirtual 354, 3) := yd_op_182 (i := 0) (a := 1) (b := 98) yd_by_cX11_image_4 rfl rfl
theorem dX11_image_164 : decode cX11_image 164 = .ok (.iinc 1 1, 3) := yd_op_132 (i := 3) (a := 1) (b := 1) yd_by_cX11_image_4 rfl rfl
theorem dX11_image_167 : decode cX11_image 167 = .ok (.goto (-80), 3) := yd_op_167 (i := 6) (a := 255) (b := 176) yd_by_cX11_image_4 rfl rfl
theorem dX11_image_170 : decode cX11_image 170 = .ok (.aload_n 0, 1) := yd_op_42 (i := 9) yd_by_cX11_image_4 rfl rfl
theorem dX11_image_171 : decode cX11_image 171 = .ok (.getfield 18, 3) := yd_op_180 (i := 10) (a := 0) (b := 18) yd_by_cX11_image_4 rfl rfl
theorem dX11_image_174 : decode cX11_image 174 = .ok (.aload_n 0, 1) := yd_op_42 (i := 13) yd_by_cX11_image_4 rfl rfl
theorem dX11_image_175 : decode cX11_image 175 = .ok (.getfield 18, 3) := yd_op_180 (i := 14) (a := 0) (b := 18) yd_by_cX11_image_4 rfl rfl
theorem dX11_image_178 : decode cX11_image 178 = .ok (.aload_n 0, 1) := yd_op_42 (i := 17) yd_by_cX11_image_4 rfl rfl
theorem dX11_image_179 : decode cX11_image 179 = .ok (.getfield 18, 3) := yd_op_180 (i := 18) (a := 0) (b := 18) yd_by_cX11_image_4 rfl rfl
theorem dX11_image_182 : decode cX11_image 182 = .ok (.getfield 110, 3) := yd_op_180 (i := 21) (a := 0) (b := 110) yd_by_cX11_image_4 rfl rfl
theorem dX11_image_185 : decode cX11_image 185 = .ok (.invokevirtual 357, 3) := yd_op_182 (i := 24) (a := 1) (b := 101) yd_by_cX11_image_4 rfl rfl
theorem dX11_image_188 : decode cX11_image 188 = .ok (.invokevirtual 354, 3) := yd_op_182 (i := 27) (a := 1) (b := 98) yd_by_cX11_image_4 rfl rfl
theorem dX11_image_191 : decode cX11_image 191 = .ok (.aload_n 0, 1) := yd_op_42 (i := 30) yd_by_cX11_image_4 rfl rfl
theorem dX11_image_192 : decode cX11_image 192 = .ok (.getfield 18, 3) := yd_op_180 (i := 31) (a := 0) (b := 18) yd_by_cX11_image_4 rfl rfl
theorem dX11_image_195 : decode cX11_image 195 = .ok (.getfield 110, 3) := yd_op_180 (i := 34) (a := 0) (b := 110) yd_by_cX11_image_4 rfl rfl
theorem dX11_image_198 : decode cX11_image 198 = .ok (.ireturn, 1) := yd_op_172 (i := 37) yd_by_cX11_image_4 rfl rfl
set_option maxRecDepth 100000 in
theorem yd_by_cX11_octet_0 : ydk cX11_octet 0 [42, 180, 0, 18, 27, 182, 1, 104, 172] = true := by decide +kernel
theorem dX11_octet_0 : decode cX11_octet 0 = .ok (.aload_n 0, 1) := yd_op_42 (i := 0) yd_by_cX11_octet_0 rfl rfl
theorem dX11_octet_1 : decode cX11_octet 1 = .ok (.getfield 18, 3) := yd_op_180 (i := 1) (a := 0) (b := 18) yd_by_cX11_octet_0 rfl rfl
theorem dX11_octet_4 : decode cX11_octet 4 = .ok (.iload_n 1, 1) := yd_op_27 (i := 4) yd_by_cX11_octet_0 rfl rfl
theorem dX11_octet_5 : decode cX11_octet 5 = .ok (.invokevirtual 360, 3) := yd_op_182 (i := 5) (a := 1) (b := 104) yd_by_cX11_octet_0 rfl rfl
theorem dX11_octet_8 : decode cX11_octet 8 = .ok (.ireturn, 1) := yd_op_172 (i := 8) yd_by_cX11_octet_0 rfl rfl
set_option maxRecDepth 100000 in
theorem yd_by_cX11_on_0 : ydk cX11_on 0 [42, 180, 0, 31, 182, 1, 9, 153, 0, 25, 42, 180, 0, 70, 42, 180, 0, 31, 42, 180, 0, 14, 182, 1, 107, 153, 0, 7, 4, 167, 0, 4, 3, 60, 42, 180, 0, 14, 3, 181, 0, 110] = true := by decide +kernel
theorem dX11_on_0 : decode cX11_on 0 = .ok (.aload_n 0, 1) := yd_op_42 (i := 0) yd_by_cX11_on_0 rfl rfl
theorem dX11_on_1 : decode cX11_on 1 = .ok (.getfield 31, 3) := yd_op_180 (i := 1) (a := 0) (b := 31) yd_by_cX11_on_0 rfl rfl
theorem dX11_on_4 : decode cX11_on 4 = .ok (.invokevirtual 265, 3) := yd_op_182 (i := 4) (a := 1) (b := 9) yd_by_cX11_on_0 rfl rfl
theorem dX11_on_7 : decode cX11_on 7 = .ok (.ifCond .eq 25, 3) := yd_op_153 (i := 7) (a := 0) (b := 25) yd_by_cX11_on_0 rfl rfl
theorem dX11_on_10 : decode cX11_on 10 = .ok (.aload_n 0, 1) := yd_op_42 (i := 10) yd_by_cX11_on_0 rfl rfl
theorem dX11_on_11 : decode cX11_on 11 = .ok (.getfield 70, 3) := yd_op_180 (i := 11) (a := 0) (b := 70) yd_by_cX11_on_0 rfl rfl
theorem dX11_on_14 : decode cX11_on 14 = .ok (.aload_n 0, 1) := yd_op_42 (i := 14) yd_by_cX11_on_0 rfl rfl
theorem dX11_on_15 : decode cX11_on 15 = .ok (.getfield 31, 3) := yd_op_180 (i := 15) (a := 0) (b := 31) yd_by_cX11_on_0 rfl rfl
theorem dX11_on_18 : decode cX11_on 18 = .ok (.aload_n 0, 1) := yd_op_42 (i := 18) yd_by_cX11_on_0 rfl rfl
theorem dX11_on_19 : decode cX11_on 19 = .ok (.getfield 14, 3) := yd_op_180 (i := 19) (a := 0) (b := 14) yd_by_cX11_on_0 rfl rfl
theorem dX11_on_22 : decode cX11_on 22 = .ok (.invokevirtual 363, 3) := yd_op_182 (i := 22) (a := 1) (b := 107) yd_by_cX11_on_0 rfl rfl
theorem dX11_on_25 : decode cX11_on 25 = .ok (.ifCond .eq 7, 3) := yd_op_153 (i := 25) (a := 0) (b := 7) yd_by_cX11_on_0 rfl rfl
theorem dX11_on_28 : decode cX11_on 28 = .ok (.iconst 1, 1) := yd_op_4 (i := 28) yd_by_cX11_on_0 rfl rfl
theorem dX11_on_29 : decode cX11_on 29 = .ok (.goto 4, 3) := yd_op_167 (i := 29) (a := 0) (b := 4) yd_by_cX11_on_0 rfl rfl
theorem dX11_on_32 : decode cX11_on 32 = .ok (.iconst 0, 1) := yd_op_3 (i := 32) yd_by_cX11_on_0 rfl rfl
theorem dX11_on_33 : decode cX11_on 33 = .ok (.istore_n 1, 1) := yd_op_60 (i := 33) yd_by_cX11_on_0 rfl rfl
theorem dX11_on_34 : decode cX11_on 34 = .ok (.aload_n 0, 1) := yd_op_42 (i := 34) yd_by_cX11_on_0 rfl rfl
theorem dX11_on_35 : decode cX11_on 35 = .ok (.getfield 14, 3) := yd_op_180 (i := 35) (a := 0) (b := 14) yd_by_cX11_on_0 rfl rfl
theorem dX11_on_38 : decode cX11_on 38 = .ok (.iconst 0, 1) := yd_op_3 (i := 38) yd_by_cX11_on_0 rfl rfl
theorem dX11_on_39 : decode cX11_on 39 = .ok (.putfield 110, 3) := yd_op_181 (i := 39) (a := 0) (b := 110) yd_by_cX11_on_0 rfl rfl
set_option maxRecDepth 100000 in
theorem yd_by_cX11_on_1 : ydk cX11_on 42 [27, 154, 0, 9, 42, 8, 182, 0, 120, 172, 42, 180, 0, 66, 42, 180, 0, 70, 182, 1, 110, 42, 180, 0, 66, 3, 181, 0, 174, 42, 180, 0, 76, 3, 181, 0, 135, 4] = true := by decide +kernel
theorem dX11_on_42 : decode cX11_on 42 = .ok (.iload_n 1, 1) := yd_op_27 (i := 0) yd_by_cX11_on_1 rfl rfl
theorem dX11_on_43 : decode cX11_on 43 = .ok (.ifCond .ne 9, 3) := yd_op_154 (i := 1) (a := 0) (b := 9) yd_by_cX11_on_1 rfl rfl
theorem dX11_on_46 : decode cX11_on 46 = .ok (.aload_n 0, 1) := yd_op_42 (i := 4) yd_by_cX11_on_1 rfl rfl
theorem dX11_on_47 : decode cX11_on 47 = .ok (.iconst 5, 1) := yd_op_8 (i := 5) yd_by_cX11_on_1 rfl rfl
theorem dX11_on_48 : decode cX11_on 48 = .ok (.invokevirtual 120, 3) := yd_op_182 (i := 6) (a := 0) (b := 120) yd_by_cX11_on_1 rfl rfl
theorem dX11_on_51 : decode cX11_on 51 = .ok (.ireturn, 1) := yd_op_172 (i := 9) yd_by_cX11_on_1 rfl rfl
theorem dX11_on_52 : decode cX11_on 52 = .ok (.aload_n 0, 1) := yd_op_42 (i := 10) yd_by_cX11_on_1 rfl rfl
theorem dX11_on_53 : decode cX11_on 53 = .ok (.getfield 66, 3) := yd_op_180 (i := 11) (a := 0) (b := 66) yd_by_cX11_on_1 rfl rfl
theorem dX11_on_56 : decode cX11_on 56 = .ok (.aload_n 0, 1) := yd_op_42 (i := 14) yd_by_cX11_on_1 rfl rfl
theorem dX11_on_57 : decode cX11_on 57 = .ok (.getfield 70, 3) := yd_op_180 (i := 15) (a := 0) (b := 70) yd_by_cX11_on_1 rfl rfl
theorem dX11_on_60 : decode cX11_on 60 = .ok (.invokevirtual 366, 3) := yd_op_182 (i := 18) (a := 1) (b := 110) yd_by_cX11_on_1 rfl rfl
theorem dX11_on_63 : decode cX11_on 63 = .ok (.aload_n 0, 1) := yd_op_42 (i := 21) yd_by_cX11_on_1 rfl rfl
theorem dX11_on_64 : decode cX11_on 64 = .ok (.getfield 66, 3) := yd_op_180 (i := 22) (a := 0) (b := 66) yd_by_cX11_on_1 rfl rfl
theorem dX11_on_67 : decode cX11_on 67 = .ok (.iconst 0, 1) := yd_op_3 (i := 25) yd_by_cX11_on_1 rfl rfl
theorem dX11_on_68 : decode cX11_on 68 = .ok (.putfield 174, 3) := yd_op_181 (i := 26) (a := 0) (b := 174) yd_by_cX11_on_1 rfl rfl
theorem dX11_on_71 : decode cX11_on 71 = .ok (.aload_n 0, 1) := yd_op_42 (i := 29) yd_by_cX11_on_1 rfl rfl
theorem dX11_on_72 : decode cX11_on 72 = .ok (.getfield 76, 3) := yd_op_180 (i := 30) (a := 0) (b := 76) yd_by_cX11_on_1 rfl rfl
theorem dX11_on_75 : decode cX11_on 75 = .ok (.iconst 0, 1) := yd_op_3 (i := 33) yd_by_cX11_on_1 rfl rfl
theorem dX11_on_76 : decode cX11_on 76 = .ok (.putfield 135, 3) := yd_op_181 (i := 34) (a := 0) (b := 135) yd_by_cX11_on_1 rfl rfl
theorem dX11_on_79 : decode cX11_on 79 = .ok (.iconst 1, 1) := yd_op_4 (i := 37) yd_by_cX11_on_1 rfl rfl
set_option maxRecDepth 100000 in
theorem yd_by_cX11_on_2 : ydk cX11_on 80 [172] = true := by decide +kernel
theorem dX11_on_80 : decode cX11_on 80 = .ok (.ireturn, 1) := yd_op_172 (i := 0) yd_by_cX11_on_2 rfl rfl
set_option maxRecDepth 100000 in
theorem yd_by_cX11_status_0 : ydk cX11_status 0 [27, 155, 0, 18, 27, 16, 6, 162, 0, 12, 42, 180, 0, 96, 27, 46, 167, 0, 4, 2, 172] = true := by decide +kernel
theorem dX11_status_0 : decode cX11_status 0 = .ok (.iload_n 1, 1) := yd_op_27 (i := 0) yd_by_cX11_status_0 rfl rfl
theorem dX11_status_1 : decode cX11_status 1 = .ok (.ifCond .lt 18, 3) := yd_op_155 (i := 1) (a := 0) (b := 18) yd_by_cX11_status_0 rfl rfl
theorem dX11_status_4 : decode cX11_status 4 = .ok (.iload_n 1, 1) := yd_op_27 (i := 4) yd_by_cX11_status_0 rfl rfl
theorem dX11_status_5 : decode cX11_status 5 = .ok (.bipush 6, 2) := yd_op_16 (i := 5) (a := 6) yd_by_cX11_status_0 rfl rfl
theorem dX11_status_7 : decode cX11_status 7 = .ok (.if_icmp .ge 12, 3) := yd_op_162 (i := 7) (a := 0) (b := 12) yd_by_cX11_status_0 rfl rfl
theorem dX11_status_10 : decode cX11_status 10 = .ok (.aload_n 0, 1) := yd_op_42 (i := 10) yd_by_cX11_status_0 rfl rfl
theorem dX11_status_11 : decode cX11_status 11 = .ok (.getfield 96, 3) := yd_op_180 (i := 11) (a := 0) (b := 96) yd_by_cX11_status_0 rfl rfl
theorem dX11_status_14 : decode cX11_status 14 = .ok (.iload_n 1, 1) := yd_op_27 (i := 14) yd_by_cX11_status_0 rfl rfl
theorem dX11_status_15 : decode cX11_status 15 = .ok (.iaload, 1) := yd_op_46 (i := 15) yd_by_cX11_status_0 rfl rfl
theorem dX11_status_16 : decode cX11_status 16 = .ok (.goto 4, 3) := yd_op_167 (i := 16) (a := 0) (b := 4) yd_by_cX11_status_0 rfl rfl
theorem dX11_status_19 : decode cX11_status 19 = .ok (.iconst (-1), 1) := yd_op_2 (i := 19) yd_by_cX11_status_0 rfl rfl
theorem dX11_status_20 : decode cX11_status 20 = .ok (.ireturn, 1) := yd_op_172 (i := 20) yd_by_cX11_status_0 rfl rfl
set_option maxRecDepth 100000 in
theorem yd_by_cX11_refusal_0 : ydk cX11_refusal 0 [42, 180, 0, 96, 27, 92, 46, 4, 96, 79, 2, 172] = true := by decide +kernel
theorem dX11_refusal_0 : decode cX11_refusal 0 = .ok (.aload_n 0, 1) := yd_op_42 (i := 0) yd_by_cX11_refusal_0 rfl rfl
theorem dX11_refusal_1 : decode cX11_refusal 1 = .ok (.getfield 96, 3) := yd_op_180 (i := 1) (a := 0) (b := 96) yd_by_cX11_refusal_0 rfl rfl
theorem dX11_refusal_4 : decode cX11_refusal 4 = .ok (.iload_n 1, 1) := yd_op_27 (i := 4) yd_by_cX11_refusal_0 rfl rfl
theorem dX11_refusal_5 : decode cX11_refusal 5 = .ok (.dup2, 1) := yd_op_92 (i := 5) yd_by_cX11_refusal_0 rfl rfl
theorem dX11_refusal_6 : decode cX11_refusal 6 = .ok (.iaload, 1) := yd_op_46 (i := 6) yd_by_cX11_refusal_0 rfl rfl
theorem dX11_refusal_7 : decode cX11_refusal 7 = .ok (.iconst 1, 1) := yd_op_4 (i := 7) yd_by_cX11_refusal_0 rfl rfl
theorem dX11_refusal_8 : decode cX11_refusal 8 = .ok (.iadd, 1) := yd_op_96 (i := 8) yd_by_cX11_refusal_0 rfl rfl
theorem dX11_refusal_9 : decode cX11_refusal 9 = .ok (.iastore, 1) := yd_op_79 (i := 9) yd_by_cX11_refusal_0 rfl rfl
theorem dX11_refusal_10 : decode cX11_refusal 10 = .ok (.iconst (-1), 1) := yd_op_2 (i := 10) yd_by_cX11_refusal_0 rfl rfl
theorem dX11_refusal_11 : decode cX11_refusal 11 = .ok (.ireturn, 1) := yd_op_172 (i := 11) yd_by_cX11_refusal_0 rfl rfl
set_option maxRecDepth 100000 in
theorem yd_by_cX11_denial_0 : ydk cX11_denial 0 [42, 180, 0, 96, 27, 92, 46, 4, 96, 79, 3, 172] = true := by decide +kernel
theorem dX11_denial_0 : decode cX11_denial 0 = .ok (.aload_n 0, 1) := yd_op_42 (i := 0) yd_by_cX11_denial_0 rfl rfl
theorem dX11_denial_1 : decode cX11_denial 1 = .ok (.getfield 96, 3) := yd_op_180 (i := 1) (a := 0) (b := 96) yd_by_cX11_denial_0 rfl rfl
theorem dX11_denial_4 : decode cX11_denial 4 = .ok (.iload_n 1, 1) := yd_op_27 (i := 4) yd_by_cX11_denial_0 rfl rfl
theorem dX11_denial_5 : decode cX11_denial 5 = .ok (.dup2, 1) := yd_op_92 (i := 5) yd_by_cX11_denial_0 rfl rfl
theorem dX11_denial_6 : decode cX11_denial 6 = .ok (.iaload, 1) := yd_op_46 (i := 6) yd_by_cX11_denial_0 rfl rfl
theorem dX11_denial_7 : decode cX11_denial 7 = .ok (.iconst 1, 1) := yd_op_4 (i := 7) yd_by_cX11_denial_0 rfl rfl
theorem dX11_denial_8 : decode cX11_denial 8 = .ok (.iadd, 1) := yd_op_96 (i := 8) yd_by_cX11_denial_0 rfl rfl
theorem dX11_denial_9 : decode cX11_denial 9 = .ok (.iastore, 1) := yd_op_79 (i := 9) yd_by_cX11_denial_0 rfl rfl
theorem dX11_denial_10 : decode cX11_denial 10 = .ok (.iconst 0, 1) := yd_op_3 (i := 10) yd_by_cX11_denial_0 rfl rfl
theorem dX11_denial_11 : decode cX11_denial 11 = .ok (.ireturn, 1) := yd_op_172 (i := 11) yd_by_cX11_denial_0 rfl rfl
set_option maxRecDepth 100000 in
theorem yd_by_cX11_rememberFault_0 : ydk cX11_rememberFault 0 [42, 42, 180, 0, 41, 180, 1, 113, 181, 0, 104, 42, 42, 180, 0, 41, 180, 1, 116, 181, 0, 107, 177] = true := by decide +kernel
theorem dX11_rememberFault_0 : decode cX11_rememberFault 0 = .ok (.aload_n 0, 1) := yd_op_42 (i := 0) yd_by_cX11_rememberFault_0 rfl rfl
theorem dX11_rememberFault_1 : decode cX11_rememberFault 1 = .ok (.aload_n 0, 1) := yd_op_42 (i := 1) yd_by_cX11_rememberFault_0 rfl rfl
theorem dX11_rememberFault_2 : decode cX11_rememberFault 2 = .ok (.getfield 41, 3) := yd_op_180 (i := 2) (a := 0) (b := 41) yd_by_cX11_rememberFault_0 rfl rfl
theorem dX11_rememberFault_5 : decode cX11_rememberFault 5 = .ok (.getfield 369, 3) := yd_op_180 (i := 5) (a := 1) (b := 113) yd_by_cX11_rememberFault_0 rfl rfl
theorem dX11_rememberFault_8 : decode cX11_rememberFault 8 = .ok (.putfield 104, 3) := yd_op_181 (i := 8) (a := 0) (b := 104) yd_by_cX11_rememberFault_0 rfl rfl
theorem dX11_rememberFault_11 : decode cX11_rememberFault 11 = .ok (.aload_n 0, 1) := yd_op_42 (i := 11) yd_by_cX11_rememberFault_0 rfl rfl
theorem dX11_rememberFault_12 : decode cX11_rememberFault 12 = .ok (.aload_n 0, 1) := yd_op_42 (i := 12) yd_by_cX11_rememberFault_0 rfl rfl
theorem dX11_rememberFault_13 : decode cX11_rememberFault 13 = .ok (.getfield 41, 3) := yd_op_180 (i := 13) (a := 0) (b := 41) yd_by_cX11_rememberFault_0 rfl rfl
theorem dX11_rememberFault_16 : decode cX11_rememberFault 16 = .ok (.getfield 372, 3) := yd_op_180 (i := 16) (a := 1) (b := 116) yd_by_cX11_rememberFault_0 rfl rfl
theorem dX11_rememberFault_19 : decode cX11_rememberFault 19 = .ok (.putfield 107, 3) := yd_op_181 (i := 19) (a := 0) (b := 107) yd_by_cX11_rememberFault_0 rfl rfl
theorem dX11_rememberFault_22 : decode cX11_rememberFault 22 = .ok (.return_, 1) := yd_op_177 (i := 22) yd_by_cX11_rememberFault_0 rfl rfl
set_option maxRecDepth 100000 in
theorem yd_by_cX11_holdersNow_0 : ydk cX11_holdersNow 0 [42, 180, 0, 92, 42, 180, 0, 31, 42, 180, 0, 66, 3, 182, 0, 227, 42, 180, 0, 92, 182, 0, 248, 172] = true := by decide +kernel
theorem dX11_holdersNow_0 : decode cX11_holdersNow 0 = .ok (.aload_n 0, 1) := yd_op_42 (i := 0) yd_by_cX11_holdersNow_0 rfl rfl
theorem dX11_holdersNow_1 : decode cX11_holdersNow 1 = .ok (.getfield 92, 3) := yd_op_180 (i := 1) (a := 0) (b := 92) yd_by_cX11_holdersNow_0 rfl rfl
theorem dX11_holdersNow_4 : decode cX11_holdersNow 4 = .ok (.aload_n 0, 1) := yd_op_42 (i := 4) yd_by_cX11_holdersNow_0 rfl rfl
theorem dX11_holdersNow_5 : decode cX11_holdersNow 5 = .ok (.getfield 31, 3) := yd_op_180 (i := 5) (a := 0) (b := 31) yd_by_cX11_holdersNow_0 rfl rfl
theorem dX11_holdersNow_8 : decode cX11_holdersNow 8 = .ok (.aload_n 0, 1) := yd_op_42 (i := 8) yd_by_cX11_holdersNow_0 rfl rfl
theorem dX11_holdersNow_9 : decode cX11_holdersNow 9 = .ok (.getfield 66, 3) := yd_op_180 (i := 9) (a := 0) (b := 66) yd_by_cX11_holdersNow_0 rfl rfl
theorem dX11_holdersNow_12 : decode cX11_holdersNow 12 = .ok (.iconst 0, 1) := yd_op_3 (i := 12) yd_by_cX11_holdersNow_0 rfl rfl
theorem dX11_holdersNow_13 : decode cX11_holdersNow 13 = .ok (.invokevirtual 227, 3) := yd_op_182 (i := 13) (a := 0) (b := 227) yd_by_cX11_holdersNow_0 rfl rfl
theorem dX11_holdersNow_16 : decode cX11_holdersNow 16 = .ok (.aload_n 0, 1) := yd_op_42 (i := 16) yd_by_cX11_holdersNow_0 rfl rfl
theorem dX11_holdersNow_17 : decode cX11_holdersNow 17 = .ok (.getfield 92, 3) := yd_op_180 (i := 17) (a := 0) (b := 92) yd_by_cX11_holdersNow_0 rfl rfl
theorem dX11_holdersNow_20 : decode cX11_holdersNow 20 = .ok (.invokevirtual 248, 3) := yd_op_182 (i := 20) (a := 0) (b := 248) yd_by_cX11_holdersNow_0 rfl rfl
theorem dX11_holdersNow_23 : decode cX11_holdersNow 23 = .ok (.ireturn, 1) := yd_op_172 (i := 23) yd_by_cX11_holdersNow_0 rfl rfl
set_option maxRecDepth 100000 in
theorem yd_by_cX11_balanceNow_0 : ydk cX11_balanceNow 0 [42, 182, 0, 163, 60, 42, 180, 0, 92, 27, 182, 1, 17, 27, 172] = true := by decide +kernel
theorem dX11_balanceNow_0 : decode cX11_balanceNow 0 = .ok (.aload_n 0, 1) := yd_op_42 (i := 0) yd_by_cX11_balanceNow_0 rfl rfl
theorem dX11_balanceNow_1 : decode cX11_balanceNow 1 = .ok (.invokevirtual 163, 3) := yd_op_182 (i := 1) (a := 0) (b := 163) yd_by_cX11_balanceNow_0 rfl rfl
theorem dX11_balanceNow_4 : decode cX11_balanceNow 4 = .ok (.istore_n 1, 1) := yd_op_60 (i := 4) yd_by_cX11_balanceNow_0 rfl rfl
theorem dX11_balanceNow_5 : decode cX11_balanceNow 5 = .ok (.aload_n 0, 1) := yd_op_42 (i := 5) yd_by_cX11_balanceNow_0 rfl rfl
theorem dX11_balanceNow_6 : decode cX11_balanceNow 6 = .ok (.getfield 92, 3) := yd_op_180 (i := 6) (a := 0) (b := 92) yd_by_cX11_balanceNow_0 rfl rfl
theorem dX11_balanceNow_9 : decode cX11_balanceNow 9 = .ok (.iload_n 1, 1) := yd_op_27 (i := 9) yd_by_cX11_balanceNow_0 rfl rfl
theorem dX11_balanceNow_10 : decode cX11_balanceNow 10 = .ok (.invokevirtual 273, 3) := yd_op_182 (i := 10) (a := 1) (b := 17) yd_by_cX11_balanceNow_0 rfl rfl
theorem dX11_balanceNow_13 : decode cX11_balanceNow 13 = .ok (.iload_n 1, 1) := yd_op_27 (i := 13) yd_by_cX11_balanceNow_0 rfl rfl
theorem dX11_balanceNow_14 : decode cX11_balanceNow 14 = .ok (.ireturn, 1) := yd_op_172 (i := 14) yd_by_cX11_balanceNow_0 rfl rfl
set_option maxRecDepth 100000 in
theorem yd_by_cX11_isAhead_0 : ydk cX11_isAhead 0 [42, 180, 0, 31, 182, 1, 9, 153, 0, 32, 27, 28, 161, 0, 27, 27, 29, 163, 0, 22, 27, 17, 3, 231, 42, 180, 0, 66, 180, 0, 150, 100, 163, 0, 7, 4, 167, 0, 4, 3] = true := by decide +kernel
theorem dX11_isAhead_0 : decode cX11_isAhead 0 = .ok (.aload_n 0, 1) := yd_op_42 (i := 0) yd_by_cX11_isAhead_0 rfl rfl
theorem dX11_isAhead_1 : decode cX11_isAhead 1 = .ok (.getfield 31, 3) := yd_op_180 (i := 1) (a := 0) (b := 31) yd_by_cX11_isAhead_0 rfl rfl
theorem dX11_isAhead_4 : decode cX11_isAhead 4 = .ok (.invokevirtual 265, 3) := yd_op_182 (i := 4) (a := 1) (b := 9) yd_by_cX11_isAhead_0 rfl rfl
theorem dX11_isAhead_7 : decode cX11_isAhead 7 = .ok (.ifCond .eq 32, 3) := yd_op_153 (i := 7) (a := 0) (b := 32) yd_by_cX11_isAhead_0 rfl rfl
theorem dX11_isAhead_10 : decode cX11_isAhead 10 = .ok (.iload_n 1, 1) := yd_op_27 (i := 10) yd_by_cX11_isAhead_0 rfl rfl
theorem dX11_isAhead_11 : decode cX11_isAhead 11 = .ok (.iload_n 2, 1) := yd_op_28 (i := 11) yd_by_cX11_isAhead_0 rfl rfl
theorem dX11_isAhead_12 : decode cX11_isAhead 12 = .ok (.if_icmp .lt 27, 3) := yd_op_161 (i := 12) (a := 0) (b := 27) yd_by_cX11_isAhead_0 rfl rfl
theorem dX11_isAhead_15 : decode cX11_isAhead 15 = .ok (.iload_n 1, 1) := yd_op_27 (i := 15) yd_by_cX11_isAhead_0 rfl rfl
theorem dX11_isAhead_16 : decode cX11_isAhead 16 = .ok (.iload_n 3, 1) := yd_op_29 (i := 16) yd_by_cX11_isAhead_0 rfl rfl
theorem dX11_isAhead_17 : decode cX11_isAhead 17 = .ok (.if_icmp .gt 22, 3) := yd_op_163 (i := 17) (a := 0) (b := 22) yd_by_cX11_isAhead_0 rfl rfl
theorem dX11_isAhead_20 : decode cX11_isAhead 20 = .ok (.iload_n 1, 1) := yd_op_27 (i := 20) yd_by_cX11_isAhead_0 rfl rfl
theorem dX11_isAhead_21 : decode cX11_isAhead 21 = .ok (.sipush 999, 3) := yd_op_17 (i := 21) (a := 3) (b := 231) yd_by_cX11_isAhead_0 rfl rfl
theorem dX11_isAhead_24 : decode cX11_isAhead 24 = .ok (.aload_n 0, 1) := yd_op_42 (i := 24) yd_by_cX11_isAhead_0 rfl rfl
theorem dX11_isAhead_25 : decode cX11_isAhead 25 = .ok (.getfield 66, 3) := yd_op_180 (i := 25) (a := 0) (b := 66) yd_by_cX11_isAhead_0 rfl rfl
theorem dX11_isAhead_28 : decode cX11_isAhead 28 = .ok (.getfield 150, 3) := yd_op_180 (i := 28) (a := 0) (b := 150) yd_by_cX11_isAhead_0 rfl rfl
theorem dX11_isAhead_31 : decode cX11_isAhead 31 = .ok (.isub, 1) := yd_op_100 (i := 31) yd_by_cX11_isAhead_0 rfl rfl
theorem dX11_isAhead_32 : decode cX11_isAhead 32 = .ok (.if_icmp .gt 7, 3) := yd_op_163 (i := 32) (a := 0) (b := 7) yd_by_cX11_isAhead_0 rfl rfl
theorem dX11_isAhead_35 : decode cX11_isAhead 35 = .ok (.iconst 1, 1) := yd_op_4 (i := 35) yd_by_cX11_isAhead_0 rfl rfl
theorem dX11_isAhead_36 : decode cX11_isAhead 36 = .ok (.goto 4, 3) := yd_op_167 (i := 36) (a := 0) (b := 4) yd_by_cX11_isAhead_0 rfl rfl
theorem dX11_isAhead_39 : decode cX11_isAhead 39 = .ok (.iconst 0, 1) := yd_op_3 (i := 39) yd_by_cX11_isAhead_0 rfl rfl
set_option maxRecDepth 100000 in
theorem yd_by_cX11_isAhead_1 : ydk cX11_isAhead 40 [172] = true := by decide +kernel
theorem dX11_isAhead_40 : decode cX11_isAhead 40 = .ok (.ireturn, 1) := yd_op_172 (i := 0) yd_by_cX11_isAhead_1 rfl rfl
set_option maxRecDepth 100000 in
theorem yd_by_cX11_lookAhead_0 : ydk cX11_lookAhead 0 [42, 180, 0, 70, 42, 180, 0, 66, 182, 1, 110, 42, 180, 0, 92, 42, 180, 0, 31, 42, 180, 0, 70, 27, 182, 0, 227, 177] = true := by decide +kernel
theorem dX11_lookAhead_0 : decode cX11_lookAhead 0 = .ok (.aload_n 0, 1) := yd_op_42 (i := 0) yd_by_cX11_lookAhead_0 rfl rfl
theorem dX11_lookAhead_1 : decode cX11_lookAhead 1 = .ok (.getfield 70, 3) := yd_op_180 (i := 1) (a := 0) (b := 70) yd_by_cX11_lookAhead_0 rfl rfl
theorem dX11_lookAhead_4 : decode cX11_lookAhead 4 = .ok (.aload_n 0, 1) := yd_op_42 (i := 4) yd_by_cX11_lookAhead_0 rfl rfl
theorem dX11_lookAhead_5 : decode cX11_lookAhead 5 = .ok (.getfield 66, 3) := yd_op_180 (i := 5) (a := 0) (b := 66) yd_by_cX11_lookAhead_0 rfl rfl
theorem dX11_lookAhead_8 : decode cX11_lookAhead 8 = .ok (.invokevirtual 366, 3) := yd_op_182 (i := 8) (a := 1) (b := 110) yd_by_cX11_lookAhead_0 rfl rfl
theorem dX11_lookAhead_11 : decode cX11_lookAhead 11 = .ok (.aload_n 0, 1) := yd_op_42 (i := 11) yd_by_cX11_lookAhead_0 rfl rfl
theorem dX11_lookAhead_12 : decode cX11_lookAhead 12 = .ok (.getfield 92, 3) := yd_op_180 (i := 12) (a := 0) (b := 92) yd_by_cX11_lookAhead_0 rfl rfl
theorem dX11_lookAhead_15 : decode cX11_lookAhead 15 = .ok (.aload_n 0, 1) := yd_op_42 (i := 15) yd_by_cX11_lookAhead_0 rfl rfl
theorem dX11_lookAhead_16 : decode cX11_lookAhead 16 = .ok (.getfield 31, 3) := yd_op_180 (i := 16) (a := 0) (b := 31) yd_by_cX11_lookAhead_0 rfl rfl
theorem dX11_lookAhead_19 : decode cX11_lookAhead 19 = .ok (.aload_n 0, 1) := yd_op_42 (i := 19) yd_by_cX11_lookAhead_0 rfl rfl
theorem dX11_lookAhead_20 : decode cX11_lookAhead 20 = .ok (.getfield 70, 3) := yd_op_180 (i := 20) (a := 0) (b := 70) yd_by_cX11_lookAhead_0 rfl rfl
theorem dX11_lookAhead_23 : decode cX11_lookAhead 23 = .ok (.iload_n 1, 1) := yd_op_27 (i := 23) yd_by_cX11_lookAhead_0 rfl rfl
theorem dX11_lookAhead_24 : decode cX11_lookAhead 24 = .ok (.invokevirtual 227, 3) := yd_op_182 (i := 24) (a := 0) (b := 227) yd_by_cX11_lookAhead_0 rfl rfl
theorem dX11_lookAhead_27 : decode cX11_lookAhead 27 = .ok (.return_, 1) := yd_op_177 (i := 27) yd_by_cX11_lookAhead_0 rfl rfl
set_option maxRecDepth 100000 in
theorem yd_by_cX11_staysWhole_0 : ydk cX11_staysWhole 0 [42, 28, 182, 0, 241, 3, 62, 29, 27, 162, 0, 24, 42, 180, 0, 92, 2, 182, 0, 244, 9, 148, 153, 0, 5, 3, 172, 132, 3, 1, 167, 255, 233, 4] = true := by decide +kernel
theorem dX11_staysWhole_0 : decode cX11_staysWhole 0 = .ok (.aload_n 0, 1) := yd_op_42 (i := 0) yd_by_cX11_staysWhole_0 rfl rfl
theorem dX11_staysWhole_1 : decode cX11_staysWhole 1 = .ok (.iload_n 2, 1) := yd_op_28 (i := 1) yd_by_cX11_staysWhole_0 rfl rfl
theorem dX11_staysWhole_2 : decode cX11_staysWhole 2 = .ok (.invokevirtual 241, 3) := yd_op_182 (i := 2) (a := 0) (b := 241) yd_by_cX11_staysWhole_0 rfl rfl
theorem dX11_staysWhole_5 : decode cX11_staysWhole 5 = .ok (.iconst 0, 1) := yd_op_3 (i := 5) yd_by_cX11_staysWhole_0 rfl rfl
theorem dX11_staysWhole_6 : decode cX11_staysWhole 6 = .ok (.istore_n 3, 1) := yd_op_62 (i := 6) yd_by_cX11_staysWhole_0 rfl rfl
theorem dX11_staysWhole_7 : decode cX11_staysWhole 7 = .ok (.iload_n 3, 1) := yd_op_29 (i := 7) yd_by_cX11_staysWhole_0 rfl rfl
theorem dX11_staysWhole_8 : decode cX11_staysWhole 8 = .ok (.iload_n 1, 1) := yd_op_27 (i := 8) yd_by_cX11_staysWhole_0 rfl rfl
theorem dX11_staysWhole_9 : decode cX11_staysWhole 9 = .ok (.if_icmp .ge 24, 3) := yd_op_162 (i := 9) (a := 0) (b := 24) yd_by_cX11_staysWhole_0 rfl rfl
theorem dX11_staysWhole_12 : decode cX11_staysWhole 12 = .ok (.aload_n 0, 1) := yd_op_42 (i := 12) yd_by_cX11_staysWhole_0 rfl rfl
theorem dX11_staysWhole_13 : decode cX11_staysWhole 13 = .ok (.getfield 92, 3) := yd_op_180 (i := 13) (a := 0) (b := 92) yd_by_cX11_staysWhole_0 rfl rfl
theorem dX11_staysWhole_16 : decode cX11_staysWhole 16 = .ok (.iconst (-1), 1) := yd_op_2 (i := 16) yd_by_cX11_staysWhole_0 rfl rfl
theorem dX11_staysWhole_17 : decode cX11_staysWhole 17 = .ok (.invokevirtual 244, 3) := yd_op_182 (i := 17) (a := 0) (b := 244) yd_by_cX11_staysWhole_0 rfl rfl
theorem dX11_staysWhole_20 : decode cX11_staysWhole 20 = .ok (.lconst 0, 1) := yd_op_9 (i := 20) yd_by_cX11_staysWhole_0 rfl rfl
theorem dX11_staysWhole_21 : decode cX11_staysWhole 21 = .ok (.lcmp, 1) := yd_op_148 (i := 21) yd_by_cX11_staysWhole_0 rfl rfl
theorem dX11_staysWhole_22 : decode cX11_staysWhole 22 = .ok (.ifCond .eq 5, 3) := yd_op_153 (i := 22) (a := 0) (b := 5) yd_by_cX11_staysWhole_0 rfl rfl
theorem dX11_staysWhole_25 : decode cX11_staysWhole 25 = .ok (.iconst 0, 1) := yd_op_3 (i := 25) yd_by_cX11_staysWhole_0 rfl rfl
theorem dX11_staysWhole_26 : decode cX11_staysWhole 26 = .ok (.ireturn, 1) := yd_op_172 (i := 26) yd_by_cX11_staysWhole_0 rfl rfl
theorem dX11_staysWhole_27 : decode cX11_staysWhole 27 = .ok (.iinc 3 1, 3) := yd_op_132 (i := 27) (a := 3) (b := 1) yd_by_cX11_staysWhole_0 rfl rfl
theorem dX11_staysWhole_30 : decode cX11_staysWhole 30 = .ok (.goto (-23), 3) := yd_op_167 (i := 30) (a := 255) (b := 233) yd_by_cX11_staysWhole_0 rfl rfl
theorem dX11_staysWhole_33 : decode cX11_staysWhole 33 = .ok (.iconst 1, 1) := yd_op_4 (i := 33) yd_by_cX11_staysWhole_0 rfl rfl
set_option maxRecDepth 100000 in
theorem yd_by_cX11_staysWhole_1 : ydk cX11_staysWhole 34 [172] = true := by decide +kernel
theorem dX11_staysWhole_34 : decode cX11_staysWhole 34 = .ok (.ireturn, 1) := yd_op_172 (i := 0) yd_by_cX11_staysWhole_1 rfl rfl
set_option maxRecDepth 100000 in
theorem yd_by_cX11_crackedWithMended_0 : ydk cX11_crackedWithMended 0 [42, 3, 182, 0, 241, 42, 180, 0, 70, 89, 180, 0, 153, 10, 27, 121, 20, 1, 119, 131, 127, 181, 0, 153, 3, 62, 29, 28, 162, 0, 18, 42] = true := by decide +kernel
theorem dX11_crackedWithMended_0 : decode cX11_crackedWithMended 0 = .ok (.aload_n 0, 1) := yd_op_42 (i := 0) yd_by_cX11_crackedWithMended_0 rfl rfl
theorem dX11_crackedWithMended_1 : decode cX11_crackedWithMended 1 = .ok (.iconst 0, 1) := yd_op_3 (i := 1) yd_by_cX11_crackedWithMended_0 rfl rfl
theorem dX11_crackedWithMended_2 : decode cX11_crackedWithMended 2 = .ok (.invokevirtual 241, 3) := yd_op_182 (i := 2) (a := 0) (b := 241) yd_by_cX11_crackedWithMended_0 rfl rfl
theorem dX11_crackedWithMended_5 : decode cX11_crackedWithMended 5 = .ok (.aload_n 0, 1) := yd_op_42 (i := 5) yd_by_cX11_crackedWithMended_0 rfl rfl
theorem dX11_crackedWithMended_6 : decode cX11_crackedWithMended 6 = .ok (.getfield 70, 3) := yd_op_180 (i := 6) (a := 0) (b := 70) yd_by_cX11_crackedWithMended_0 rfl rfl
theorem dX11_crackedWithMended_9 : decode cX11_crackedWithMended 9 = .ok (.dup, 1) := yd_op_89 (i := 9) yd_by_cX11_crackedWithMended_0 rfl rfl
theorem dX11_crackedWithMended_10 : decode cX11_crackedWithMended 10 = .ok (.getfield 153, 3) := yd_op_180 (i := 10) (a := 0) (b := 153) yd_by_cX11_crackedWithMended_0 rfl rfl
theorem dX11_crackedWithMended_13 : decode cX11_crackedWithMended 13 = .ok (.lconst 1, 1) := yd_op_10 (i := 13) yd_by_cX11_crackedWithMended_0 rfl rfl
theorem dX11_crackedWithMended_14 : decode cX11_crackedWithMended 14 = .ok (.iload_n 1, 1) := yd_op_27 (i := 14) yd_by_cX11_crackedWithMended_0 rfl rfl
theorem dX11_crackedWithMended_15 : decode cX11_crackedWithMended 15 = .ok (.lshl, 1) := yd_op_121 (i := 15) yd_by_cX11_crackedWithMended_0 rfl rfl
theorem dX11_crackedWithMended_16 : decode cX11_crackedWithMended 16 = .ok (.ldc2_w 375, 3) := yd_op_20 (i := 16) (a := 1) (b := 119) yd_by_cX11_crackedWithMended_0 rfl rfl
theorem dX11_crackedWithMended_19 : decode cX11_crackedWithMended 19 = .ok (.lxor, 1) := yd_op_131 (i := 19) yd_by_cX11_crackedWithMended_0 rfl rfl
theorem dX11_crackedWithMended_20 : decode cX11_crackedWithMended 20 = .ok (.land, 1) := yd_op_127 (i := 20) yd_by_cX11_crackedWithMended_0 rfl rfl
theorem dX11_crackedWithMended_21 : decode cX11_crackedWithMended 21 = .ok (.putfield 153, 3) := yd_op_181 (i := 21) (a := 0) (b := 153) yd_by_cX11_crackedWithMended_0 rfl rfl
theorem dX11_crackedWithMended_24 : decode cX11_crackedWithMended 24 = .ok (.iconst 0, 1) := yd_op_3 (i := 24) yd_by_cX11_crackedWithMended_0 rfl rfl
theorem dX11_crackedWithMended_25 : decode cX11_crackedWithMended 25 = .ok (.istore_n 3, 1) := yd_op_62 (i := 25) yd_by_cX11_crackedWithMended_0 rfl rfl
theorem dX11_crackedWithMended_26 : decode cX11_crackedWithMended 26 = .ok (.iload_n 3, 1) := yd_op_29 (i := 26) yd_by_cX11_crackedWithMended_0 rfl rfl
theorem dX11_crackedWithMended_27 : decode cX11_crackedWithMended 27 = .ok (.iload_n 2, 1) := yd_op_28 (i := 27) yd_by_cX11_crackedWithMended_0 rfl rfl
theorem dX11_crackedWithMended_28 : decode cX11_crackedWithMended 28 = .ok (.if_icmp .ge 18, 3) := yd_op_162 (i := 28) (a := 0) (b := 18) yd_by_cX11_crackedWithMended_0 rfl rfl
theorem dX11_crackedWithMended_31 : decode cX11_crackedWithMended 31 = .ok (.aload_n 0, 1) := yd_op_42 (i := 31) yd_by_cX11_crackedWithMended_0 rfl rfl
set_option maxRecDepth 100000 in
theorem yd_by_cX11_crackedWithMended_1 : ydk cX11_crackedWithMended 32 [180, 0, 92, 2, 182, 0, 244, 88, 132, 3, 1, 167, 255, 239, 42, 180, 0, 70, 180, 0, 153, 184, 0, 157, 172] = true := by decide +kernel
theorem dX11_crackedWithMended_32 : decode cX11_crackedWithMended 32 = .ok (.getfield 92, 3) := yd_op_180 (i := 0) (a := 0) (b := 92) yd_by_cX11_crackedWithMended_1 rfl rfl
theorem dX11_crackedWithMended_35 : decode cX11_crackedWithMended 35 = .ok (.iconst (-1), 1) := yd_op_2 (i := 3) yd_by_cX11_crackedWithMended_1 rfl rfl
theorem dX11_crackedWithMended_36 : decode cX11_crackedWithMended 36 = .ok (.invokevirtual 244, 3) := yd_op_182 (i := 4) (a := 0) (b := 244) yd_by_cX11_crackedWithMended_1 rfl rfl
theorem dX11_crackedWithMended_39 : decode cX11_crackedWithMended 39 = .ok (.pop2, 1) := yd_op_88 (i := 7) yd_by_cX11_crackedWithMended_1 rfl rfl
theorem dX11_crackedWithMended_40 : decode cX11_crackedWithMended 40 = .ok (.iinc 3 1, 3) := yd_op_132 (i := 8) (a := 3) (b := 1) yd_by_cX11_crackedWithMended_1 rfl rfl
theorem dX11_crackedWithMended_43 : decode cX11_crackedWithMended 43 = .ok (.goto (-17), 3) := yd_op_167 (i := 11) (a := 255) (b := 239) yd_by_cX11_crackedWithMended_1 rfl rfl
theorem dX11_crackedWithMended_46 : decode cX11_crackedWithMended 46 = .ok (.aload_n 0, 1) := yd_op_42 (i := 14) yd_by_cX11_crackedWithMended_1 rfl rfl
theorem dX11_crackedWithMended_47 : decode cX11_crackedWithMended 47 = .ok (.getfield 70, 3) := yd_op_180 (i := 15) (a := 0) (b := 70) yd_by_cX11_crackedWithMended_1 rfl rfl
theorem dX11_crackedWithMended_50 : decode cX11_crackedWithMended 50 = .ok (.getfield 153, 3) := yd_op_180 (i := 18) (a := 0) (b := 153) yd_by_cX11_crackedWithMended_1 rfl rfl
theorem dX11_crackedWithMended_53 : decode cX11_crackedWithMended 53 = .ok (.invokestatic 157, 3) := yd_op_184 (i := 21) (a := 0) (b := 157) yd_by_cX11_crackedWithMended_1 rfl rfl
theorem dX11_crackedWithMended_56 : decode cX11_crackedWithMended 56 = .ok (.ireturn, 1) := yd_op_172 (i := 24) yd_by_cX11_crackedWithMended_1 rfl rfl
set_option maxRecDepth 100000 in
theorem yd_by_cX11_packed_0 : ydk cX11_packed 0 [27, 16, 6, 120, 26, 128, 172] = true := by decide +kernel
theorem dX11_packed_0 : decode cX11_packed 0 = .ok (.iload_n 1, 1) := yd_op_27 (i := 0) yd_by_cX11_packed_0 rfl rfl
theorem dX11_packed_1 : decode cX11_packed 1 = .ok (.bipush 6, 2) := yd_op_16 (i := 1) (a := 6) yd_by_cX11_packed_0 rfl rfl
theorem dX11_packed_3 : decode cX11_packed 3 = .ok (.ishl, 1) := yd_op_120 (i := 3) yd_by_cX11_packed_0 rfl rfl
theorem dX11_packed_4 : decode cX11_packed 4 = .ok (.iload_n 0, 1) := yd_op_26 (i := 4) yd_by_cX11_packed_0 rfl rfl
theorem dX11_packed_5 : decode cX11_packed 5 = .ok (.ior, 1) := yd_op_128 (i := 5) yd_by_cX11_packed_0 rfl rfl
theorem dX11_packed_6 : decode cX11_packed 6 = .ok (.ireturn, 1) := yd_op_172 (i := 6) yd_by_cX11_packed_0 rfl rfl
theorem dX11_tellFound_18 : decode cX11_tellFound 18 = .ok (.tableswitch 57 0 2 #[26, 39, 52], 26) := by decide +kernel
set_option maxRecDepth 100000 in
theorem yd_by_cX11_tellFound_0 : ydk cX11_tellFound 0 [27, 2, 159, 0, 13, 42, 180, 0, 31, 180, 0, 141, 157, 0, 5, 2, 172, 28, 170, 0, 0, 0, 0, 57, 0, 0, 0, 0, 0, 0, 0, 2, 0, 0, 0, 26, 0, 0, 0, 39, 0, 0, 0, 52, 27, 16, 63, 126, 42, 180, 0, 31, 180, 0, 141, 112, 172, 27, 16, 63] = true := by decide +kernel
theorem dX11_tellFound_0 : decode cX11_tellFound 0 = .ok (.iload_n 1, 1) := yd_op_27 (i := 0) yd_by_cX11_tellFound_0 rfl rfl
theorem dX11_tellFound_1 : decode cX11_tellFound 1 = .ok (.iconst (-1), 1) := yd_op_2 (i := 1) yd_by_cX11_tellFound_0 rfl rfl
theorem dX11_tellFound_2 : decode cX11_tellFound 2 = .ok (.if_icmp .eq 13, 3) := yd_op_159 (i := 2) (a := 0) (b := 13) yd_by_cX11_tellFound_0 rfl rfl
theorem dX11_tellFound_5 : decode cX11_tellFound 5 = .ok (.aload_n 0, 1) := yd_op_42 (i := 5) yd_by_cX11_tellFound_0 rfl rfl
theorem dX11_tellFound_6 : decode cX11_tellFound 6 = .ok (.getfield 31, 3) := yd_op_180 (i := 6) (a := 0) (b := 31) yd_by_cX11_tellFound_0 rfl rfl
theorem dX11_tellFound_9 : decode cX11_tellFound 9 = .ok (.getfield 141, 3) := yd_op_180 (i := 9) (a := 0) (b := 141) yd_by_cX11_tellFound_0 rfl rfl
theorem dX11_tellFound_12 : decode cX11_tellFound 12 = .ok (.ifCond .gt 5, 3) := yd_op_157 (i := 12) (a := 0) (b := 5) yd_by_cX11_tellFound_0 rfl rfl
theorem dX11_tellFound_15 : decode cX11_tellFound 15 = .ok (.iconst (-1), 1) := yd_op_2 (i := 15) yd_by_cX11_tellFound_0 rfl rfl
theorem dX11_tellFound_16 : decode cX11_tellFound 16 = .ok (.ireturn, 1) := yd_op_172 (i := 16) yd_by_cX11_tellFound_0 rfl rfl
theorem dX11_tellFound_17 : decode cX11_tellFound 17 = .ok (.iload_n 2, 1) := yd_op_28 (i := 17) yd_by_cX11_tellFound_0 rfl rfl
theorem dX11_tellFound_44 : decode cX11_tellFound 44 = .ok (.iload_n 1, 1) := yd_op_27 (i := 44) yd_by_cX11_tellFound_0 rfl rfl
theorem dX11_tellFound_45 : decode cX11_tellFound 45 = .ok (.bipush 63, 2) := yd_op_16 (i := 45) (a := 63) yd_by_cX11_tellFound_0 rfl rfl
theorem dX11_tellFound_47 : decode cX11_tellFound 47 = .ok (.iand, 1) := yd_op_126 (i := 47) yd_by_cX11_tellFound_0 rfl rfl
theorem dX11_tellFound_48 : decode cX11_tellFound 48 = .ok (.aload_n 0, 1) := yd_op_42 (i := 48) yd_by_cX11_tellFound_0 rfl rfl
theorem dX11_tellFound_49 : decode cX11_tellFound 49 = .ok (.getfield 31, 3) := yd_op_180 (i := 49) (a := 0) (b := 31) yd_by_cX11_tellFound_0 rfl rfl
theorem dX11_tellFound_52 : decode cX11_tellFound 52 = .ok (.getfield 141, 3) := yd_op_180 (i := 52) (a := 0) (b := 141) yd_by_cX11_tellFound_0 rfl rfl
theorem dX11_tellFound_55 : decode cX11_tellFound 55 = .ok (.irem, 1) := yd_op_112 (i := 55) yd_by_cX11_tellFound_0 rfl rfl
theorem dX11_tellFound_56 : decode cX11_tellFound 56 = .ok (.ireturn, 1) := yd_op_172 (i := 56) yd_by_cX11_tellFound_0 rfl rfl
theorem dX11_tellFound_57 : decode cX11_tellFound 57 = .ok (.iload_n 1, 1) := yd_op_27 (i := 57) yd_by_cX11_tellFound_0 rfl rfl
theorem dX11_tellFound_58 : decode cX11_tellFound 58 = .ok (.bipush 63, 2) := yd_op_16 (i := 58) (a := 63) yd_by_cX11_tellFound_0 rfl rfl
set_option maxRecDepth 100000 in
theorem yd_by_cX11_tellFound_1 : ydk cX11_tellFound 60 [126, 42, 180, 0, 31, 180, 0, 141, 108, 172, 27, 16, 6, 122, 172, 2, 172] = true := by decide +kernel
theorem dX11_tellFound_60 : decode cX11_tellFound 60 = .ok (.iand, 1) := yd_op_126 (i := 0) yd_by_cX11_tellFound_1 rfl rfl
theorem dX11_tellFound_61 : decode cX11_tellFound 61 = .ok (.aload_n 0, 1) := yd_op_42 (i := 1) yd_by_cX11_tellFound_1 rfl rfl
theorem dX11_tellFound_62 : decode cX11_tellFound 62 = .ok (.getfield 31, 3) := yd_op_180 (i := 2) (a := 0) (b := 31) yd_by_cX11_tellFound_1 rfl rfl
theorem dX11_tellFound_65 : decode cX11_tellFound 65 = .ok (.getfield 141, 3) := yd_op_180 (i := 5) (a := 0) (b := 141) yd_by_cX11_tellFound_1 rfl rfl
theorem dX11_tellFound_68 : decode cX11_tellFound 68 = .ok (.idiv, 1) := yd_op_108 (i := 8) yd_by_cX11_tellFound_1 rfl rfl
theorem dX11_tellFound_69 : decode cX11_tellFound 69 = .ok (.ireturn, 1) := yd_op_172 (i := 9) yd_by_cX11_tellFound_1 rfl rfl
theorem dX11_tellFound_70 : decode cX11_tellFound 70 = .ok (.iload_n 1, 1) := yd_op_27 (i := 10) yd_by_cX11_tellFound_1 rfl rfl
theorem dX11_tellFound_71 : decode cX11_tellFound 71 = .ok (.bipush 6, 2) := yd_op_16 (i := 11) (a := 6) yd_by_cX11_tellFound_1 rfl rfl
theorem dX11_tellFound_73 : decode cX11_tellFound 73 = .ok (.ishr, 1) := yd_op_122 (i := 13) yd_by_cX11_tellFound_1 rfl rfl
theorem dX11_tellFound_74 : decode cX11_tellFound 74 = .ok (.ireturn, 1) := yd_op_172 (i := 14) yd_by_cX11_tellFound_1 rfl rfl
theorem dX11_tellFound_75 : decode cX11_tellFound 75 = .ok (.iconst (-1), 1) := yd_op_2 (i := 15) yd_by_cX11_tellFound_1 rfl rfl
theorem dX11_tellFound_76 : decode cX11_tellFound 76 = .ok (.ireturn, 1) := yd_op_172 (i := 16) yd_by_cX11_tellFound_1 rfl rfl
set_option maxRecDepth 100000 in
theorem yd_by_cX11_draw_0 : ydk cX11_draw 0 [42, 20, 1, 121, 42, 180, 0, 100, 133, 105, 20, 1, 123, 97, 20, 1, 125, 127, 136, 181, 0, 100, 27, 158, 0, 15, 42, 180, 0, 100, 16, 6, 122, 27, 112] = true := by decide +kernel
theorem dX11_draw_0 : decode cX11_draw 0 = .ok (.aload_n 0, 1) := yd_op_42 (i := 0) yd_by_cX11_draw_0 rfl rfl
theorem dX11_draw_1 : decode cX11_draw 1 = .ok (.ldc2_w 377, 3) := yd_op_20 (i := 1) (a := 1) (b := 121) yd_by_cX11_draw_0 rfl rfl
theorem dX11_draw_4 : decode cX11_draw 4 = .ok (.aload_n 0, 1) := yd_op_42 (i := 4) yd_by_cX11_draw_0 rfl rfl
theorem dX11_draw_5 : decode cX11_draw 5 = .ok (.getfield 100, 3) := yd_op_180 (i := 5) (a := 0) (b := 100) yd_by_cX11_draw_0 rfl rfl
theorem dX11_draw_8 : decode cX11_draw 8 = .ok (.i2l, 1) := yd_op_133 (i := 8) yd_by_cX11_draw_0 rfl rfl
theorem dX11_draw_9 : decode cX11_draw 9 = .ok (.lmul, 1) := yd_op_105 (i := 9) yd_by_cX11_draw_0 rfl rfl
theorem dX11_draw_10 : decode cX11_draw 10 = .ok (.ldc2_w 379, 3) := yd_op_20 (i := 10) (a := 1) (b := 123) yd_by_cX11_draw_0 rfl rfl
theorem dX11_draw_13 : decode cX11_draw 13 = .ok (.ladd, 1) := yd_op_97 (i := 13) yd_by_cX11_draw_0 rfl rfl
theorem dX11_draw_14 : decode cX11_draw 14 = .ok (.ldc2_w 381, 3) := yd_op_20 (i := 14) (a := 1) (b := 125) yd_by_cX11_draw_0 rfl rfl
theorem dX11_draw_17 : decode cX11_draw 17 = .ok (.land, 1) := yd_op_127 (i := 17) yd_by_cX11_draw_0 rfl rfl
theorem dX11_draw_18 : decode cX11_draw 18 = .ok (.l2i, 1) := yd_op_136 (i := 18) yd_by_cX11_draw_0 rfl rfl
theorem dX11_draw_19 : decode cX11_draw 19 = .ok (.putfield 100, 3) := yd_op_181 (i := 19) (a := 0) (b := 100) yd_by_cX11_draw_0 rfl rfl
theorem dX11_draw_22 : decode cX11_draw 22 = .ok (.iload_n 1, 1) := yd_op_27 (i := 22) yd_by_cX11_draw_0 rfl rfl
theorem dX11_draw_23 : decode cX11_draw 23 = .ok (.ifCond .le 15, 3) := yd_op_158 (i := 23) (a := 0) (b := 15) yd_by_cX11_draw_0 rfl rfl
theorem dX11_draw_26 : decode cX11_draw 26 = .ok (.aload_n 0, 1) := yd_op_42 (i := 26) yd_by_cX11_draw_0 rfl rfl
theorem dX11_draw_27 : decode cX11_draw 27 = .ok (.getfield 100, 3) := yd_op_180 (i := 27) (a := 0) (b := 100) yd_by_cX11_draw_0 rfl rfl
theorem dX11_draw_30 : decode cX11_draw 30 = .ok (.bipush 6, 2) := yd_op_16 (i := 30) (a := 6) yd_by_cX11_draw_0 rfl rfl
theorem dX11_draw_32 : decode cX11_draw 32 = .ok (.ishr, 1) := yd_op_122 (i := 32) yd_by_cX11_draw_0 rfl rfl
theorem dX11_draw_33 : decode cX11_draw 33 = .ok (.iload_n 1, 1) := yd_op_27 (i := 33) yd_by_cX11_draw_0 rfl rfl
theorem dX11_draw_34 : decode cX11_draw 34 = .ok (.irem, 1) := yd_op_112 (i := 34) yd_by_cX11_draw_0 rfl rfl
set_option maxRecDepth 100000 in
theorem yd_by_cX11_draw_1 : ydk cX11_draw 35 [167, 0, 4, 3, 172] = true := by decide +kernel
theorem dX11_draw_35 : decode cX11_draw 35 = .ok (.goto 4, 3) := yd_op_167 (i := 0) (a := 0) (b := 4) yd_by_cX11_draw_1 rfl rfl
theorem dX11_draw_38 : decode cX11_draw 38 = .ok (.iconst 0, 1) := yd_op_3 (i := 3) yd_by_cX11_draw_1 rfl rfl
theorem dX11_draw_39 : decode cX11_draw 39 = .ok (.ireturn, 1) := yd_op_172 (i := 4) yd_by_cX11_draw_1 rfl rfl
set_option maxRecDepth 100000 in
theorem yd_by_cX11_answerOf_0 : ydk cX11_answerOf 0 [42, 180, 0, 92, 27, 28, 182, 1, 127, 42, 180, 0, 92, 180, 1, 131, 42, 180, 0, 24, 182, 1, 135, 172] = true := by decide +kernel
theorem dX11_answerOf_0 : decode cX11_answerOf 0 = .ok (.aload_n 0, 1) := yd_op_42 (i := 0) yd_by_cX11_answerOf_0 rfl rfl
theorem dX11_answerOf_1 : decode cX11_answerOf 1 = .ok (.getfield 92, 3) := yd_op_180 (i := 1) (a := 0) (b := 92) yd_by_cX11_answerOf_0 rfl rfl
theorem dX11_answerOf_4 : decode cX11_answerOf 4 = .ok (.iload_n 1, 1) := yd_op_27 (i := 4) yd_by_cX11_answerOf_0 rfl rfl
theorem dX11_answerOf_5 : decode cX11_answerOf 5 = .ok (.iload_n 2, 1) := yd_op_28 (i := 5) yd_by_cX11_answerOf_0 rfl rfl
theorem dX11_answerOf_6 : decode cX11_answerOf 6 = .ok (.invokevirtual 383, 3) := yd_op_182 (i := 6) (a := 1) (b := 127) yd_by_cX11_answerOf_0 rfl rfl
theorem dX11_answerOf_9 : decode cX11_answerOf 9 = .ok (.aload_n 0, 1) := yd_op_42 (i := 9) yd_by_cX11_answerOf_0 rfl rfl
theorem dX11_answerOf_10 : decode cX11_answerOf 10 = .ok (.getfield 92, 3) := yd_op_180 (i := 10) (a := 0) (b := 92) yd_by_cX11_answerOf_0 rfl rfl
theorem dX11_answerOf_13 : decode cX11_answerOf 13 = .ok (.getfield 387, 3) := yd_op_180 (i := 13) (a := 1) (b := 131) yd_by_cX11_answerOf_0 rfl rfl
theorem dX11_answerOf_16 : decode cX11_answerOf 16 = .ok (.aload_n 0, 1) := yd_op_42 (i := 16) yd_by_cX11_answerOf_0 rfl rfl
theorem dX11_answerOf_17 : decode cX11_answerOf 17 = .ok (.getfield 24, 3) := yd_op_180 (i := 17) (a := 0) (b := 24) yd_by_cX11_answerOf_0 rfl rfl
theorem dX11_answerOf_20 : decode cX11_answerOf 20 = .ok (.invokevirtual 391, 3) := yd_op_182 (i := 20) (a := 1) (b := 135) yd_by_cX11_answerOf_0 rfl rfl
theorem dX11_answerOf_23 : decode cX11_answerOf 23 = .ok (.ireturn, 1) := yd_op_172 (i := 23) yd_by_cX11_answerOf_0 rfl rfl
set_option maxRecDepth 100000 in
theorem yd_by_cX11_firstFor_0 : ydk cX11_firstFor 0 [3, 61, 28, 42, 180, 0, 31, 180, 0, 147, 162, 0, 20, 42, 28, 27, 182, 1, 141, 153, 0, 5, 28, 172, 132, 2, 1, 167, 255, 231, 2, 172] = true := by decide +kernel
theorem dX11_firstFor_0 : decode cX11_firstFor 0 = .ok (.iconst 0, 1) := yd_op_3 (i := 0) yd_by_cX11_firstFor_0 rfl rfl
theorem dX11_firstFor_1 : decode cX11_firstFor 1 = .ok (.istore_n 2, 1) := yd_op_61 (i := 1) yd_by_cX11_firstFor_0 rfl rfl
theorem dX11_firstFor_2 : decode cX11_firstFor 2 = .ok (.iload_n 2, 1) := yd_op_28 (i := 2) yd_by_cX11_firstFor_0 rfl rfl
theorem dX11_firstFor_3 : decode cX11_firstFor 3 = .ok (.aload_n 0, 1) := yd_op_42 (i := 3) yd_by_cX11_firstFor_0 rfl rfl
theorem dX11_firstFor_4 : decode cX11_firstFor 4 = .ok (.getfield 31, 3) := yd_op_180 (i := 4) (a := 0) (b := 31) yd_by_cX11_firstFor_0 rfl rfl
theorem dX11_firstFor_7 : decode cX11_firstFor 7 = .ok (.getfield 147, 3) := yd_op_180 (i := 7) (a := 0) (b := 147) yd_by_cX11_firstFor_0 rfl rfl
theorem dX11_firstFor_10 : decode cX11_firstFor 10 = .ok (.if_icmp .ge 20, 3) := yd_op_162 (i := 10) (a := 0) (b := 20) yd_by_cX11_firstFor_0 rfl rfl
theorem dX11_firstFor_13 : decode cX11_firstFor 13 = .ok (.aload_n 0, 1) := yd_op_42 (i := 13) yd_by_cX11_firstFor_0 rfl rfl
theorem dX11_firstFor_14 : decode cX11_firstFor 14 = .ok (.iload_n 2, 1) := yd_op_28 (i := 14) yd_by_cX11_firstFor_0 rfl rfl
theorem dX11_firstFor_15 : decode cX11_firstFor 15 = .ok (.iload_n 1, 1) := yd_op_27 (i := 15) yd_by_cX11_firstFor_0 rfl rfl
theorem dX11_firstFor_16 : decode cX11_firstFor 16 = .ok (.invokevirtual 397, 3) := yd_op_182 (i := 16) (a := 1) (b := 141) yd_by_cX11_firstFor_0 rfl rfl
theorem dX11_firstFor_19 : decode cX11_firstFor 19 = .ok (.ifCond .eq 5, 3) := yd_op_153 (i := 19) (a := 0) (b := 5) yd_by_cX11_firstFor_0 rfl rfl
theorem dX11_firstFor_22 : decode cX11_firstFor 22 = .ok (.iload_n 2, 1) := yd_op_28 (i := 22) yd_by_cX11_firstFor_0 rfl rfl
theorem dX11_firstFor_23 : decode cX11_firstFor 23 = .ok (.ireturn, 1) := yd_op_172 (i := 23) yd_by_cX11_firstFor_0 rfl rfl
theorem dX11_firstFor_24 : decode cX11_firstFor 24 = .ok (.iinc 2 1, 3) := yd_op_132 (i := 24) (a := 2) (b := 1) yd_by_cX11_firstFor_0 rfl rfl
theorem dX11_firstFor_27 : decode cX11_firstFor 27 = .ok (.goto (-25), 3) := yd_op_167 (i := 27) (a := 255) (b := 231) yd_by_cX11_firstFor_0 rfl rfl
theorem dX11_firstFor_30 : decode cX11_firstFor 30 = .ok (.iconst (-1), 1) := yd_op_2 (i := 30) yd_by_cX11_firstFor_0 rfl rfl
theorem dX11_firstFor_31 : decode cX11_firstFor 31 = .ok (.ireturn, 1) := yd_op_172 (i := 31) yd_by_cX11_firstFor_0 rfl rfl
set_option maxRecDepth 100000 in
theorem yd_by_cX11_lastFor_0 : ydk cX11_lastFor 0 [42, 180, 0, 31, 180, 0, 147, 4, 100, 61, 28, 155, 0, 20, 42, 28, 27, 182, 1, 141, 153, 0, 5, 28, 172, 132, 2, 255, 167, 255, 238, 2, 172] = true := by decide +kernel
theorem dX11_lastFor_0 : decode cX11_lastFor 0 = .ok (.aload_n 0, 1) := yd_op_42 (i := 0) yd_by_cX11_lastFor_0 rfl rfl
theorem dX11_lastFor_1 : decode cX11_lastFor 1 = .ok (.getfield 31, 3) := yd_op_180 (i := 1) (a := 0) (b := 31) yd_by_cX11_lastFor_0 rfl rfl
theorem dX11_lastFor_4 : decode cX11_lastFor 4 = .ok (.getfield 147, 3) := yd_op_180 (i := 4) (a := 0) (b := 147) yd_by_cX11_lastFor_0 rfl rfl
theorem dX11_lastFor_7 : decode cX11_lastFor 7 = .ok (.iconst 1, 1) := yd_op_4 (i := 7) yd_by_cX11_lastFor_0 rfl rfl
theorem dX11_lastFor_8 : decode cX11_lastFor 8 = .ok (.isub, 1) := yd_op_100 (i := 8) yd_by_cX11_lastFor_0 rfl rfl
theorem dX11_lastFor_9 : decode cX11_lastFor 9 = .ok (.istore_n 2, 1) := yd_op_61 (i := 9) yd_by_cX11_lastFor_0 rfl rfl
theorem dX11_lastFor_10 : decode cX11_lastFor 10 = .ok (.iload_n 2, 1) := yd_op_28 (i := 10) yd_by_cX11_lastFor_0 rfl rfl
theorem dX11_lastFor_11 : decode cX11_lastFor 11 = .ok (.ifCond .lt 20, 3) := yd_op_155 (i := 11) (a := 0) (b := 20) yd_by_cX11_lastFor_0 rfl rfl
theorem dX11_lastFor_14 : decode cX11_lastFor 14 = .ok (.aload_n 0, 1) := yd_op_42 (i := 14) yd_by_cX11_lastFor_0 rfl rfl
theorem dX11_lastFor_15 : decode cX11_lastFor 15 = .ok (.iload_n 2, 1) := yd_op_28 (i := 15) yd_by_cX11_lastFor_0 rfl rfl
theorem dX11_lastFor_16 : decode cX11_lastFor 16 = .ok (.iload_n 1, 1) := yd_op_27 (i := 16) yd_by_cX11_lastFor_0 rfl rfl
theorem dX11_lastFor_17 : decode cX11_lastFor 17 = .ok (.invokevirtual 397, 3) := yd_op_182 (i := 17) (a := 1) (b := 141) yd_by_cX11_lastFor_0 rfl rfl
theorem dX11_lastFor_20 : decode cX11_lastFor 20 = .ok (.ifCond .eq 5, 3) := yd_op_153 (i := 20) (a := 0) (b := 5) yd_by_cX11_lastFor_0 rfl rfl
theorem dX11_lastFor_23 : decode cX11_lastFor 23 = .ok (.iload_n 2, 1) := yd_op_28 (i := 23) yd_by_cX11_lastFor_0 rfl rfl
theorem dX11_lastFor_24 : decode cX11_lastFor 24 = .ok (.ireturn, 1) := yd_op_172 (i := 24) yd_by_cX11_lastFor_0 rfl rfl
theorem dX11_lastFor_25 : decode cX11_lastFor 25 = .ok (.iinc 2 (-1), 3) := yd_op_132 (i := 25) (a := 2) (b := 255) yd_by_cX11_lastFor_0 rfl rfl
theorem dX11_lastFor_28 : decode cX11_lastFor 28 = .ok (.goto (-18), 3) := yd_op_167 (i := 28) (a := 255) (b := 238) yd_by_cX11_lastFor_0 rfl rfl
theorem dX11_lastFor_31 : decode cX11_lastFor 31 = .ok (.iconst (-1), 1) := yd_op_2 (i := 31) yd_by_cX11_lastFor_0 rfl rfl
theorem dX11_lastFor_32 : decode cX11_lastFor 32 = .ok (.ireturn, 1) := yd_op_172 (i := 32) yd_by_cX11_lastFor_0 rfl rfl
set_option maxRecDepth 100000 in
theorem yd_by_cX11_howOften_0 : ydk cX11_howOften 0 [3, 61, 3, 62, 29, 42, 180, 0, 31, 180, 0, 147, 162, 0, 21, 42, 29, 27, 182, 1, 141, 153, 0, 6, 132, 2, 1, 132, 3, 1, 167, 255, 230, 28, 172] = true := by decide +kernel
theorem dX11_howOften_0 : decode cX11_howOften 0 = .ok (.iconst 0, 1) := yd_op_3 (i := 0) yd_by_cX11_howOften_0 rfl rfl
theorem dX11_howOften_1 : decode cX11_howOften 1 = .ok (.istore_n 2, 1) := yd_op_61 (i := 1) yd_by_cX11_howOften_0 rfl rfl
theorem dX11_howOften_2 : decode cX11_howOften 2 = .ok (.iconst 0, 1) := yd_op_3 (i := 2) yd_by_cX11_howOften_0 rfl rfl
theorem dX11_howOften_3 : decode cX11_howOften 3 = .ok (.istore_n 3, 1) := yd_op_62 (i := 3) yd_by_cX11_howOften_0 rfl rfl
theorem dX11_howOften_4 : decode cX11_howOften 4 = .ok (.iload_n 3, 1) := yd_op_29 (i := 4) yd_by_cX11_howOften_0 rfl rfl
theorem dX11_howOften_5 : decode cX11_howOften 5 = .ok (.aload_n 0, 1) := yd_op_42 (i := 5) yd_by_cX11_howOften_0 rfl rfl
theorem dX11_howOften_6 : decode cX11_howOften 6 = .ok (.getfield 31, 3) := yd_op_180 (i := 6) (a := 0) (b := 31) yd_by_cX11_howOften_0 rfl rfl
theorem dX11_howOften_9 : decode cX11_howOften 9 = .ok (.getfield 147, 3) := yd_op_180 (i := 9) (a := 0) (b := 147) yd_by_cX11_howOften_0 rfl rfl
theorem dX11_howOften_12 : decode cX11_howOften 12 = .ok (.if_icmp .ge 21, 3) := yd_op_162 (i := 12) (a := 0) (b := 21) yd_by_cX11_howOften_0 rfl rfl
theorem dX11_howOften_15 : decode cX11_howOften 15 = .ok (.aload_n 0, 1) := yd_op_42 (i := 15) yd_by_cX11_howOften_0 rfl rfl
theorem dX11_howOften_16 : decode cX11_howOften 16 = .ok (.iload_n 3, 1) := yd_op_29 (i := 16) yd_by_cX11_howOften_0 rfl rfl
theorem dX11_howOften_17 : decode cX11_howOften 17 = .ok (.iload_n 1, 1) := yd_op_27 (i := 17) yd_by_cX11_howOften_0 rfl rfl
theorem dX11_howOften_18 : decode cX11_howOften 18 = .ok (.invokevirtual 397, 3) := yd_op_182 (i := 18) (a := 1) (b := 141) yd_by_cX11_howOften_0 rfl rfl
theorem dX11_howOften_21 : decode cX11_howOften 21 = .ok (.ifCond .eq 6, 3) := yd_op_153 (i := 21) (a := 0) (b := 6) yd_by_cX11_howOften_0 rfl rfl
theorem dX11_howOften_24 : decode cX11_howOften 24 = .ok (.iinc 2 1, 3) := yd_op_132 (i := 24) (a := 2) (b := 1) yd_by_cX11_howOften_0 rfl rfl
theorem dX11_howOften_27 : decode cX11_howOften 27 = .ok (.iinc 3 1, 3) := yd_op_132 (i := 27) (a := 3) (b := 1) yd_by_cX11_howOften_0 rfl rfl
theorem dX11_howOften_30 : decode cX11_howOften 30 = .ok (.goto (-26), 3) := yd_op_167 (i := 30) (a := 255) (b := 230) yd_by_cX11_howOften_0 rfl rfl
theorem dX11_howOften_33 : decode cX11_howOften 33 = .ok (.iload_n 2, 1) := yd_op_28 (i := 33) yd_by_cX11_howOften_0 rfl rfl
theorem dX11_howOften_34 : decode cX11_howOften 34 = .ok (.ireturn, 1) := yd_op_172 (i := 34) yd_by_cX11_howOften_0 rfl rfl
set_option maxRecDepth 100000 in
theorem yd_by_cX11_total_0 : ydk cX11_total 0 [9, 65, 3, 54, 4, 21, 4, 42, 180, 0, 31, 180, 0, 147, 162, 0, 20, 32, 42, 21, 4, 27, 182, 1, 141, 133, 97, 65, 132, 4, 1, 167, 255, 230, 32] = true := by decide +kernel
theorem dX11_total_0 : decode cX11_total 0 = .ok (.lconst 0, 1) := yd_op_9 (i := 0) yd_by_cX11_total_0 rfl rfl
theorem dX11_total_1 : decode cX11_total 1 = .ok (.lstore_n 2, 1) := yd_op_65 (i := 1) yd_by_cX11_total_0 rfl rfl
theorem dX11_total_2 : decode cX11_total 2 = .ok (.iconst 0, 1) := yd_op_3 (i := 2) yd_by_cX11_total_0 rfl rfl
theorem dX11_total_3 : decode cX11_total 3 = .ok (.istore 4, 2) := yd_op_54 (i := 3) (a := 4) yd_by_cX11_total_0 rfl rfl
theorem dX11_total_5 : decode cX11_total 5 = .ok (.iload 4, 2) := yd_op_21 (i := 5) (a := 4) yd_by_cX11_total_0 rfl rfl
theorem dX11_total_7 : decode cX11_total 7 = .ok (.aload_n 0, 1) := yd_op_42 (i := 7) yd_by_cX11_total_0 rfl rfl
theorem dX11_total_8 : decode cX11_total 8 = .ok (.getfield 31, 3) := yd_op_180 (i := 8) (a := 0) (b := 31) yd_by_cX11_total_0 rfl rfl
theorem dX11_total_11 : decode cX11_total 11 = .ok (.getfield 147, 3) := yd_op_180 (i := 11) (a := 0) (b := 147) yd_by_cX11_total_0 rfl rfl
theorem dX11_total_14 : decode cX11_total 14 = .ok (.if_icmp .ge 20, 3) := yd_op_162 (i := 14) (a := 0) (b := 20) yd_by_cX11_total_0 rfl rfl
theorem dX11_total_17 : decode cX11_total 17 = .ok (.lload_n 2, 1) := yd_op_32 (i := 17) yd_by_cX11_total_0 rfl rfl
theorem dX11_total_18 : decode cX11_total 18 = .ok (.aload_n 0, 1) := yd_op_42 (i := 18) yd_by_cX11_total_0 rfl rfl
theorem dX11_total_19 : decode cX11_total 19 = .ok (.iload 4, 2) := yd_op_21 (i := 19) (a := 4) yd_by_cX11_total_0 rfl rfl
theorem dX11_total_21 : decode cX11_total 21 = .ok (.iload_n 1, 1) := yd_op_27 (i := 21) yd_by_cX11_total_0 rfl rfl
theorem dX11_total_22 : decode cX11_total 22 = .ok (.invokevirtual 397, 3) := yd_op_182 (i := 22) (a := 1) (b := 141) yd_by_cX11_total_0 rfl rfl
theorem dX11_total_25 : decode cX11_total 25 = .ok (.i2l, 1) := yd_op_133 (i := 25) yd_by_cX11_total_0 rfl rfl
theorem dX11_total_26 : decode cX11_total 26 = .ok (.ladd, 1) := yd_op_97 (i := 26) yd_by_cX11_total_0 rfl rfl
theorem dX11_total_27 : decode cX11_total 27 = .ok (.lstore_n 2, 1) := yd_op_65 (i := 27) yd_by_cX11_total_0 rfl rfl
theorem dX11_total_28 : decode cX11_total 28 = .ok (.iinc 4 1, 3) := yd_op_132 (i := 28) (a := 4) (b := 1) yd_by_cX11_total_0 rfl rfl
theorem dX11_total_31 : decode cX11_total 31 = .ok (.goto (-26), 3) := yd_op_167 (i := 31) (a := 255) (b := 230) yd_by_cX11_total_0 rfl rfl
theorem dX11_total_34 : decode cX11_total 34 = .ok (.lload_n 2, 1) := yd_op_32 (i := 34) yd_by_cX11_total_0 rfl rfl
set_option maxRecDepth 100000 in
theorem yd_by_cX11_total_1 : ydk cX11_total 35 [173] = true := by decide +kernel
theorem dX11_total_35 : decode cX11_total 35 = .ok (.lreturn, 1) := yd_op_173 (i := 0) yd_by_cX11_total_1 rfl rfl
set_option maxRecDepth 100000 in
theorem yd_by_cX11_most_0 : ydk cX11_most 0 [3, 61, 3, 62, 29, 42, 180, 0, 31, 180, 0, 147, 162, 0, 33, 42, 29, 27, 182, 1, 141, 54, 4, 29, 154, 0, 8, 21, 4, 167, 0, 9, 28, 21, 4] = true := by decide +kernel
theorem dX11_most_0 : decode cX11_most 0 = .ok (.iconst 0, 1) := yd_op_3 (i := 0) yd_by_cX11_most_0 rfl rfl
theorem dX11_most_1 : decode cX11_most 1 = .ok (.istore_n 2, 1) := yd_op_61 (i := 1) yd_by_cX11_most_0 rfl rfl
theorem dX11_most_2 : decode cX11_most 2 = .ok (.iconst 0, 1) := yd_op_3 (i := 2) yd_by_cX11_most_0 rfl rfl
theorem dX11_most_3 : decode cX11_most 3 = .ok (.istore_n 3, 1) := yd_op_62 (i := 3) yd_by_cX11_most_0 rfl rfl
theorem dX11_most_4 : decode cX11_most 4 = .ok (.iload_n 3, 1) := yd_op_29 (i := 4) yd_by_cX11_most_0 rfl rfl
theorem dX11_most_5 : decode cX11_most 5 = .ok (.aload_n 0, 1) := yd_op_42 (i := 5) yd_by_cX11_most_0 rfl rfl
theorem dX11_most_6 : decode cX11_most 6 = .ok (.getfield 31, 3) := yd_op_180 (i := 6) (a := 0) (b := 31) yd_by_cX11_most_0 rfl rfl
theorem dX11_most_9 : decode cX11_most 9 = .ok (.getfield 147, 3) := yd_op_180 (i := 9) (a := 0) (b := 147) yd_by_cX11_most_0 rfl rfl
theorem dX11_most_12 : decode cX11_most 12 = .ok (.if_icmp .ge 33, 3) := yd_op_162 (i := 12) (a := 0) (b := 33) yd_by_cX11_most_0 rfl rfl
theorem dX11_most_15 : decode cX11_most 15 = .ok (.aload_n 0, 1) := yd_op_42 (i := 15) yd_by_cX11_most_0 rfl rfl
theorem dX11_most_16 : decode cX11_most 16 = .ok (.iload_n 3, 1) := yd_op_29 (i := 16) yd_by_cX11_most_0 rfl rfl
theorem dX11_most_17 : decode cX11_most 17 = .ok (.iload_n 1, 1) := yd_op_27 (i := 17) yd_by_cX11_most_0 rfl rfl
theorem dX11_most_18 : decode cX11_most 18 = .ok (.invokevirtual 397, 3) := yd_op_182 (i := 18) (a := 1) (b := 141) yd_by_cX11_most_0 rfl rfl
theorem dX11_most_21 : decode cX11_most 21 = .ok (.istore 4, 2) := yd_op_54 (i := 21) (a := 4) yd_by_cX11_most_0 rfl rfl
theorem dX11_most_23 : decode cX11_most 23 = .ok (.iload_n 3, 1) := yd_op_29 (i := 23) yd_by_cX11_most_0 rfl rfl
theorem dX11_most_24 : decode cX11_most 24 = .ok (.ifCond .ne 8, 3) := yd_op_154 (i := 24) (a := 0) (b := 8) yd_by_cX11_most_0 rfl rfl
theorem dX11_most_27 : decode cX11_most 27 = .ok (.iload 4, 2) := yd_op_21 (i := 27) (a := 4) yd_by_cX11_most_0 rfl rfl
theorem dX11_most_29 : decode cX11_most 29 = .ok (.goto 9, 3) := yd_op_167 (i := 29) (a := 0) (b := 9) yd_by_cX11_most_0 rfl rfl
theorem dX11_most_32 : decode cX11_most 32 = .ok (.iload_n 2, 1) := yd_op_28 (i := 32) yd_by_cX11_most_0 rfl rfl
theorem dX11_most_33 : decode cX11_most 33 = .ok (.iload 4, 2) := yd_op_21 (i := 33) (a := 4) yd_by_cX11_most_0 rfl rfl
set_option maxRecDepth 100000 in
theorem yd_by_cX11_most_1 : ydk cX11_most 35 [184, 1, 144, 61, 132, 3, 1, 167, 255, 218, 28, 172] = true := by decide +kernel
theorem dX11_most_35 : decode cX11_most 35 = .ok (.invokestatic 400, 3) := yd_op_184 (i := 0) (a := 1) (b := 144) yd_by_cX11_most_1 rfl rfl
theorem dX11_most_38 : decode cX11_most 38 = .ok (.istore_n 2, 1) := yd_op_61 (i := 3) yd_by_cX11_most_1 rfl rfl
theorem dX11_most_39 : decode cX11_most 39 = .ok (.iinc 3 1, 3) := yd_op_132 (i := 4) (a := 3) (b := 1) yd_by_cX11_most_1 rfl rfl
theorem dX11_most_42 : decode cX11_most 42 = .ok (.goto (-38), 3) := yd_op_167 (i := 7) (a := 255) (b := 218) yd_by_cX11_most_1 rfl rfl
theorem dX11_most_45 : decode cX11_most 45 = .ok (.iload_n 2, 1) := yd_op_28 (i := 10) yd_by_cX11_most_1 rfl rfl
theorem dX11_most_46 : decode cX11_most 46 = .ok (.ireturn, 1) := yd_op_172 (i := 11) yd_by_cX11_most_1 rfl rfl
set_option maxRecDepth 100000 in
theorem yd_by_cX11_least_0 : ydk cX11_least 0 [3, 61, 3, 62, 29, 42, 180, 0, 31, 180, 0, 147, 162, 0, 33, 42, 29, 27, 182, 1, 141, 54, 4, 29, 154, 0, 8, 21, 4, 167, 0, 9, 28, 21, 4] = true := by decide +kernel
theorem dX11_least_0 : decode cX11_least 0 = .ok (.iconst 0, 1) := yd_op_3 (i := 0) yd_by_cX11_least_0 rfl rfl
theorem dX11_least_1 : decode cX11_least 1 = .ok (.istore_n 2, 1) := yd_op_61 (i := 1) yd_by_cX11_least_0 rfl rfl
theorem dX11_least_2 : decode cX11_least 2 = .ok (.iconst 0, 1) := yd_op_3 (i := 2) yd_by_cX11_least_0 rfl rfl
theorem dX11_least_3 : decode cX11_least 3 = .ok (.istore_n 3, 1) := yd_op_62 (i := 3) yd_by_cX11_least_0 rfl rfl
theorem dX11_least_4 : decode cX11_least 4 = .ok (.iload_n 3, 1) := yd_op_29 (i := 4) yd_by_cX11_least_0 rfl rfl
theorem dX11_least_5 : decode cX11_least 5 = .ok (.aload_n 0, 1) := yd_op_42 (i := 5) yd_by_cX11_least_0 rfl rfl
theorem dX11_least_6 : decode cX11_least 6 = .ok (.getfield 31, 3) := yd_op_180 (i := 6) (a := 0) (b := 31) yd_by_cX11_least_0 rfl rfl
theorem dX11_least_9 : decode cX11_least 9 = .ok (.getfield 147, 3) := yd_op_180 (i := 9) (a := 0) (b := 147) yd_by_cX11_least_0 rfl rfl
theorem dX11_least_12 : decode cX11_least 12 = .ok (.if_icmp .ge 33, 3) := yd_op_162 (i := 12) (a := 0) (b := 33) yd_by_cX11_least_0 rfl rfl
theorem dX11_least_15 : decode cX11_least 15 = .ok (.aload_n 0, 1) := yd_op_42 (i := 15) yd_by_cX11_least_0 rfl rfl
theorem dX11_least_16 : decode cX11_least 16 = .ok (.iload_n 3, 1) := yd_op_29 (i := 16) yd_by_cX11_least_0 rfl rfl
theorem dX11_least_17 : decode cX11_least 17 = .ok (.iload_n 1, 1) := yd_op_27 (i := 17) yd_by_cX11_least_0 rfl rfl
theorem dX11_least_18 : decode cX11_least 18 = .ok (.invokevirtual 397, 3) := yd_op_182 (i := 18) (a := 1) (b := 141) yd_by_cX11_least_0 rfl rfl
theorem dX11_least_21 : decode cX11_least 21 = .ok (.istore 4, 2) := yd_op_54 (i := 21) (a := 4) yd_by_cX11_least_0 rfl rfl
theorem dX11_least_23 : decode cX11_least 23 = .ok (.iload_n 3, 1) := yd_op_29 (i := 23) yd_by_cX11_least_0 rfl rfl
theorem dX11_least_24 : decode cX11_least 24 = .ok (.ifCond .ne 8, 3) := yd_op_154 (i := 24) (a := 0) (b := 8) yd_by_cX11_least_0 rfl rfl
theorem dX11_least_27 : decode cX11_least 27 = .ok (.iload 4, 2) := yd_op_21 (i := 27) (a := 4) yd_by_cX11_least_0 rfl rfl
theorem dX11_least_29 : decode cX11_least 29 = .ok (.goto 9, 3) := yd_op_167 (i := 29) (a := 0) (b := 9) yd_by_cX11_least_0 rfl rfl
theorem dX11_least_32 : decode cX11_least 32 = .ok (.iload_n 2, 1) := yd_op_28 (i := 32) yd_by_cX11_least_0 rfl rfl
theorem dX11_least_33 : decode cX11_least 33 = .ok (.iload 4, 2) := yd_op_21 (i := 33) (a := 4) yd_by_cX11_least_0 rfl rfl
set_option maxRecDepth 100000 in
theorem yd_by_cX11_least_1 : ydk cX11_least 35 [184, 0, 254, 61, 132, 3, 1, 167, 255, 218, 28, 172] = true := by decide +kernel
theorem dX11_least_35 : decode cX11_least 35 = .ok (.invokestatic 254, 3) := yd_op_184 (i := 0) (a := 0) (b := 254) yd_by_cX11_least_1 rfl rfl
theorem dX11_least_38 : decode cX11_least 38 = .ok (.istore_n 2, 1) := yd_op_61 (i := 3) yd_by_cX11_least_1 rfl rfl
theorem dX11_least_39 : decode cX11_least 39 = .ok (.iinc 3 1, 3) := yd_op_132 (i := 4) (a := 3) (b := 1) yd_by_cX11_least_1 rfl rfl
theorem dX11_least_42 : decode cX11_least 42 = .ok (.goto (-38), 3) := yd_op_167 (i := 7) (a := 255) (b := 218) yd_by_cX11_least_1 rfl rfl
theorem dX11_least_45 : decode cX11_least 45 = .ok (.iload_n 2, 1) := yd_op_28 (i := 10) yd_by_cX11_least_1 rfl rfl
theorem dX11_least_46 : decode cX11_least 46 = .ok (.ireturn, 1) := yd_op_172 (i := 11) yd_by_cX11_least_1 rfl rfl
set_option maxRecDepth 100000 in
theorem yd_by_cX2_init_0 : ydk cX2_init 0 [42, 183, 0, 3, 42, 16, 20, 189, 0, 9, 181, 0, 11, 42, 3, 181, 0, 17, 42, 3, 181, 0, 21, 3, 60, 27, 16, 20, 162, 0, 22, 42, 180, 0, 11, 27] = true := by decide +kernel
theorem dX2_init_0 : decode cX2_init 0 = .ok (.aload_n 0, 1) := yd_op_42 (i := 0) yd_by_cX2_init_0 rfl rfl
theorem dX2_init_1 : decode cX2_init 1 = .ok (.invokespecial 3, 3) := yd_op_183 (i := 1) (a := 0) (b := 3) yd_by_cX2_init_0 rfl rfl
theorem dX2_init_4 : decode cX2_init 4 = .ok (.aload_n 0, 1) := yd_op_42 (i := 4) yd_by_cX2_init_0 rfl rfl
theorem dX2_init_5 : decode cX2_init 5 = .ok (.bipush 20, 2) := yd_op_16 (i := 5) (a := 20) yd_by_cX2_init_0 rfl rfl
theorem dX2_init_7 : decode cX2_init 7 = .ok (.anewarray 9, 3) := yd_op_189 (i := 7) (a := 0) (b := 9) yd_by_cX2_init_0 rfl rfl
theorem dX2_init_10 : decode cX2_init 10 = .ok (.putfield 11, 3) := yd_op_181 (i := 10) (a := 0) (b := 11) yd_by_cX2_init_0 rfl rfl
theorem dX2_init_13 : decode cX2_init 13 = .ok (.aload_n 0, 1) := yd_op_42 (i := 13) yd_by_cX2_init_0 rfl rfl
theorem dX2_init_14 : decode cX2_init 14 = .ok (.iconst 0, 1) := yd_op_3 (i := 14) yd_by_cX2_init_0 rfl rfl
theorem dX2_init_15 : decode cX2_init 15 = .ok (.putfield 17, 3) := yd_op_181 (i := 15) (a := 0) (b := 17) yd_by_cX2_init_0 rfl rfl
theorem dX2_init_18 : decode cX2_init 18 = .ok (.aload_n 0, 1) := yd_op_42 (i := 18) yd_by_cX2_init_0 rfl rfl
theorem dX2_init_19 : decode cX2_init 19 = .ok (.iconst 0, 1) := yd_op_3 (i := 19) yd_by_cX2_init_0 rfl rfl
theorem dX2_init_20 : decode cX2_init 20 = .ok (.putfield 21, 3) := yd_op_181 (i := 20) (a := 0) (b := 21) yd_by_cX2_init_0 rfl rfl
theorem dX2_init_23 : decode cX2_init 23 = .ok (.iconst 0, 1) := yd_op_3 (i := 23) yd_by_cX2_init_0 rfl rfl
theorem dX2_init_24 : decode cX2_init 24 = .ok (.istore_n 1, 1) := yd_op_60 (i := 24) yd_by_cX2_init_0 rfl rfl
theorem dX2_init_25 : decode cX2_init 25 = .ok (.iload_n 1, 1) := yd_op_27 (i := 25) yd_by_cX2_init_0 rfl rfl
theorem dX2_init_26 : decode cX2_init 26 = .ok (.bipush 20, 2) := yd_op_16 (i := 26) (a := 20) yd_by_cX2_init_0 rfl rfl
theorem dX2_init_28 : decode cX2_init 28 = .ok (.if_icmp .ge 22, 3) := yd_op_162 (i := 28) (a := 0) (b := 22) yd_by_cX2_init_0 rfl rfl
theorem dX2_init_31 : decode cX2_init 31 = .ok (.aload_n 0, 1) := yd_op_42 (i := 31) yd_by_cX2_init_0 rfl rfl
theorem dX2_init_32 : decode cX2_init 32 = .ok (.getfield 11, 3) := yd_op_180 (i := 32) (a := 0) (b := 11) yd_by_cX2_init_0 rfl rfl
theorem dX2_init_35 : decode cX2_init 35 = .ok (.iload_n 1, 1) := yd_op_27 (i := 35) yd_by_cX2_init_0 rfl rfl
set_option maxRecDepth 100000 in
theorem yd_by_cX2_init_1 : ydk cX2_init 36 [187, 0, 9, 89, 183, 0, 24, 83, 132, 1, 1, 167, 255, 234, 177] = true := by decide +kernel
theorem dX2_init_36 : decode cX2_init 36 = .ok (.new 9, 3) := yd_op_187 (i := 0) (a := 0) (b := 9) yd_by_cX2_init_1 rfl rfl
theorem dX2_init_39 : decode cX2_init 39 = .ok (.dup, 1) := yd_op_89 (i := 3) yd_by_cX2_init_1 rfl rfl
theorem dX2_init_40 : decode cX2_init 40 = .ok (.invokespecial 24, 3) := yd_op_183 (i := 4) (a := 0) (b := 24) yd_by_cX2_init_1 rfl rfl
theorem dX2_init_43 : decode cX2_init 43 = .ok (.aastore, 1) := yd_op_83 (i := 7) yd_by_cX2_init_1 rfl rfl
theorem dX2_init_44 : decode cX2_init 44 = .ok (.iinc 1 1, 3) := yd_op_132 (i := 8) (a := 1) (b := 1) yd_by_cX2_init_1 rfl rfl
theorem dX2_init_47 : decode cX2_init 47 = .ok (.goto (-22), 3) := yd_op_167 (i := 11) (a := 255) (b := 234) yd_by_cX2_init_1 rfl rfl
theorem dX2_init_50 : decode cX2_init 50 = .ok (.return_, 1) := yd_op_177 (i := 14) yd_by_cX2_init_1 rfl rfl
set_option maxRecDepth 100000 in
theorem yd_by_cX2_push_0 : ydk cX2_push 0 [42, 180, 0, 11, 42, 180, 0, 17, 50, 43, 182, 0, 25, 42, 42, 180, 0, 17, 4, 96, 16, 20, 112, 181, 0, 17, 42, 42, 180, 0, 21, 4, 96] = true := by decide +kernel
theorem dX2_push_0 : decode cX2_push 0 = .ok (.aload_n 0, 1) := yd_op_42 (i := 0) yd_by_cX2_push_0 rfl rfl
theorem dX2_push_1 : decode cX2_push 1 = .ok (.getfield 11, 3) := yd_op_180 (i := 1) (a := 0) (b := 11) yd_by_cX2_push_0 rfl rfl
theorem dX2_push_4 : decode cX2_push 4 = .ok (.aload_n 0, 1) := yd_op_42 (i := 4) yd_by_cX2_push_0 rfl rfl
theorem dX2_push_5 : decode cX2_push 5 = .ok (.getfield 17, 3) := yd_op_180 (i := 5) (a := 0) (b := 17) yd_by_cX2_push_0 rfl rfl
theorem dX2_push_8 : decode cX2_push 8 = .ok (.aaload, 1) := yd_op_50 (i := 8) yd_by_cX2_push_0 rfl rfl
theorem dX2_push_9 : decode cX2_push 9 = .ok (.aload_n 1, 1) := yd_op_43 (i := 9) yd_by_cX2_push_0 rfl rfl
theorem dX2_push_10 : decode cX2_push 10 = .ok (.invokevirtual 25, 3) := yd_op_182 (i := 10) (a := 0) (b := 25) yd_by_cX2_push_0 rfl rfl
theorem dX2_push_13 : decode cX2_push 13 = .ok (.aload_n 0, 1) := yd_op_42 (i := 13) yd_by_cX2_push_0 rfl rfl
theorem dX2_push_14 : decode cX2_push 14 = .ok (.aload_n 0, 1) := yd_op_42 (i := 14) yd_by_cX2_push_0 rfl rfl
theorem dX2_push_15 : decode cX2_push 15 = .ok (.getfield 17, 3) := yd_op_180 (i := 15) (a := 0) (b := 17) yd_by_cX2_push_0 rfl rfl
theorem dX2_push_18 : decode cX2_push 18 = .ok (.iconst 1, 1) := yd_op_4 (i := 18) yd_by_cX2_push_0 rfl rfl
theorem dX2_push_19 : decode cX2_push 19 = .ok (.iadd, 1) := yd_op_96 (i := 19) yd_by_cX2_push_0 rfl rfl
theorem dX2_push_20 : decode cX2_push 20 = .ok (.bipush 20, 2) := yd_op_16 (i := 20) (a := 20) yd_by_cX2_push_0 rfl rfl
theorem dX2_push_22 : decode cX2_push 22 = .ok (.irem, 1) := yd_op_112 (i := 22) yd_by_cX2_push_0 rfl rfl
theorem dX2_push_23 : decode cX2_push 23 = .ok (.putfield 17, 3) := yd_op_181 (i := 23) (a := 0) (b := 17) yd_by_cX2_push_0 rfl rfl
theorem dX2_push_26 : decode cX2_push 26 = .ok (.aload_n 0, 1) := yd_op_42 (i := 26) yd_by_cX2_push_0 rfl rfl
theorem dX2_push_27 : decode cX2_push 27 = .ok (.aload_n 0, 1) := yd_op_42 (i := 27) yd_by_cX2_push_0 rfl rfl
theorem dX2_push_28 : decode cX2_push 28 = .ok (.getfield 21, 3) := yd_op_180 (i := 28) (a := 0) (b := 21) yd_by_cX2_push_0 rfl rfl
theorem dX2_push_31 : decode cX2_push 31 = .ok (.iconst 1, 1) := yd_op_4 (i := 31) yd_by_cX2_push_0 rfl rfl
theorem dX2_push_32 : decode cX2_push 32 = .ok (.iadd, 1) := yd_op_96 (i := 32) yd_by_cX2_push_0 rfl rfl
set_option maxRecDepth 100000 in
theorem yd_by_cX2_push_1 : ydk cX2_push 33 [16, 20, 184, 0, 29, 181, 0, 21, 177] = true := by decide +kernel
theorem dX2_push_33 : decode cX2_push 33 = .ok (.bipush 20, 2) := yd_op_16 (i := 0) (a := 20) yd_by_cX2_push_1 rfl rfl
theorem dX2_push_35 : decode cX2_push 35 = .ok (.invokestatic 29, 3) := yd_op_184 (i := 2) (a := 0) (b := 29) yd_by_cX2_push_1 rfl rfl
theorem dX2_push_38 : decode cX2_push 38 = .ok (.putfield 21, 3) := yd_op_181 (i := 5) (a := 0) (b := 21) yd_by_cX2_push_1 rfl rfl
theorem dX2_push_41 : decode cX2_push 41 = .ok (.return_, 1) := yd_op_177 (i := 8) yd_by_cX2_push_1 rfl rfl
set_option maxRecDepth 100000 in
theorem yd_by_cX2_pop_0 : ydk cX2_pop 0 [42, 180, 0, 21, 154, 0, 5, 3, 172, 42, 42, 180, 0, 17, 16, 20, 96, 4, 100, 16, 20, 112, 181, 0, 17, 42, 89, 180, 0, 21, 4, 100] = true := by decide +kernel
theorem dX2_pop_0 : decode cX2_pop 0 = .ok (.aload_n 0, 1) := yd_op_42 (i := 0) yd_by_cX2_pop_0 rfl rfl
theorem dX2_pop_1 : decode cX2_pop 1 = .ok (.getfield 21, 3) := yd_op_180 (i := 1) (a := 0) (b := 21) yd_by_cX2_pop_0 rfl rfl
theorem dX2_pop_4 : decode cX2_pop 4 = .ok (.ifCond .ne 5, 3) := yd_op_154 (i := 4) (a := 0) (b := 5) yd_by_cX2_pop_0 rfl rfl
theorem dX2_pop_7 : decode cX2_pop 7 = .ok (.iconst 0, 1) := yd_op_3 (i := 7) yd_by_cX2_pop_0 rfl rfl
theorem dX2_pop_8 : decode cX2_pop 8 = .ok (.ireturn, 1) := yd_op_172 (i := 8) yd_by_cX2_pop_0 rfl rfl
theorem dX2_pop_9 : decode cX2_pop 9 = .ok (.aload_n 0, 1) := yd_op_42 (i := 9) yd_by_cX2_pop_0 rfl rfl
theorem dX2_pop_10 : decode cX2_pop 10 = .ok (.aload_n 0, 1) := yd_op_42 (i := 10) yd_by_cX2_pop_0 rfl rfl
theorem dX2_pop_11 : decode cX2_pop 11 = .ok (.getfield 17, 3) := yd_op_180 (i := 11) (a := 0) (b := 17) yd_by_cX2_pop_0 rfl rfl
theorem dX2_pop_14 : decode cX2_pop 14 = .ok (.bipush 20, 2) := yd_op_16 (i := 14) (a := 20) yd_by_cX2_pop_0 rfl rfl
theorem dX2_pop_16 : decode cX2_pop 16 = .ok (.iadd, 1) := yd_op_96 (i := 16) yd_by_cX2_pop_0 rfl rfl
theorem dX2_pop_17 : decode cX2_pop 17 = .ok (.iconst 1, 1) := yd_op_4 (i := 17) yd_by_cX2_pop_0 rfl rfl
theorem dX2_pop_18 : decode cX2_pop 18 = .ok (.isub, 1) := yd_op_100 (i := 18) yd_by_cX2_pop_0 rfl rfl
theorem dX2_pop_19 : decode cX2_pop 19 = .ok (.bipush 20, 2) := yd_op_16 (i := 19) (a := 20) yd_by_cX2_pop_0 rfl rfl
theorem dX2_pop_21 : decode cX2_pop 21 = .ok (.irem, 1) := yd_op_112 (i := 21) yd_by_cX2_pop_0 rfl rfl
theorem dX2_pop_22 : decode cX2_pop 22 = .ok (.putfield 17, 3) := yd_op_181 (i := 22) (a := 0) (b := 17) yd_by_cX2_pop_0 rfl rfl
theorem dX2_pop_25 : decode cX2_pop 25 = .ok (.aload_n 0, 1) := yd_op_42 (i := 25) yd_by_cX2_pop_0 rfl rfl
theorem dX2_pop_26 : decode cX2_pop 26 = .ok (.dup, 1) := yd_op_89 (i := 26) yd_by_cX2_pop_0 rfl rfl
theorem dX2_pop_27 : decode cX2_pop 27 = .ok (.getfield 21, 3) := yd_op_180 (i := 27) (a := 0) (b := 21) yd_by_cX2_pop_0 rfl rfl
theorem dX2_pop_30 : decode cX2_pop 30 = .ok (.iconst 1, 1) := yd_op_4 (i := 30) yd_by_cX2_pop_0 rfl rfl
theorem dX2_pop_31 : decode cX2_pop 31 = .ok (.isub, 1) := yd_op_100 (i := 31) yd_by_cX2_pop_0 rfl rfl
set_option maxRecDepth 100000 in
theorem yd_by_cX2_pop_1 : ydk cX2_pop 32 [181, 0, 21, 43, 42, 180, 0, 11, 42, 180, 0, 17, 50, 182, 0, 25, 4, 172] = true := by decide +kernel
theorem dX2_pop_32 : decode cX2_pop 32 = .ok (.putfield 21, 3) := yd_op_181 (i := 0) (a := 0) (b := 21) yd_by_cX2_pop_1 rfl rfl
theorem dX2_pop_35 : decode cX2_pop 35 = .ok (.aload_n 1, 1) := yd_op_43 (i := 3) yd_by_cX2_pop_1 rfl rfl
theorem dX2_pop_36 : decode cX2_pop 36 = .ok (.aload_n 0, 1) := yd_op_42 (i := 4) yd_by_cX2_pop_1 rfl rfl
theorem dX2_pop_37 : decode cX2_pop 37 = .ok (.getfield 11, 3) := yd_op_180 (i := 5) (a := 0) (b := 11) yd_by_cX2_pop_1 rfl rfl
theorem dX2_pop_40 : decode cX2_pop 40 = .ok (.aload_n 0, 1) := yd_op_42 (i := 8) yd_by_cX2_pop_1 rfl rfl
theorem dX2_pop_41 : decode cX2_pop 41 = .ok (.getfield 17, 3) := yd_op_180 (i := 9) (a := 0) (b := 17) yd_by_cX2_pop_1 rfl rfl
theorem dX2_pop_44 : decode cX2_pop 44 = .ok (.aaload, 1) := yd_op_50 (i := 12) yd_by_cX2_pop_1 rfl rfl
theorem dX2_pop_45 : decode cX2_pop 45 = .ok (.invokevirtual 25, 3) := yd_op_182 (i := 13) (a := 0) (b := 25) yd_by_cX2_pop_1 rfl rfl
theorem dX2_pop_48 : decode cX2_pop 48 = .ok (.iconst 1, 1) := yd_op_4 (i := 16) yd_by_cX2_pop_1 rfl rfl
theorem dX2_pop_49 : decode cX2_pop 49 = .ok (.ireturn, 1) := yd_op_172 (i := 17) yd_by_cX2_pop_1 rfl rfl
set_option maxRecDepth 100000 in
theorem yd_by_cX3_init_0 : ydk cX3_init 0 [42, 183, 0, 3, 42, 16, 36, 188, 10, 181, 0, 9, 42, 16, 10, 188, 10, 181, 0, 15, 42, 16, 10, 188, 10, 181, 0, 18, 42, 16, 10, 188, 10, 181, 0, 21, 42, 16, 10] = true := by decide +kernel
theorem dX3_init_0 : decode cX3_init 0 = .ok (.aload_n 0, 1) := yd_op_42 (i := 0) yd_by_cX3_init_0 rfl rfl
theorem dX3_init_1 : decode cX3_init 1 = .ok (.invokespecial 3, 3) := yd_op_183 (i := 1) (a := 0) (b := 3) yd_by_cX3_init_0 rfl rfl
theorem dX3_init_4 : decode cX3_init 4 = .ok (.aload_n 0, 1) := yd_op_42 (i := 4) yd_by_cX3_init_0 rfl rfl
theorem dX3_init_5 : decode cX3_init 5 = .ok (.bipush 36, 2) := yd_op_16 (i := 5) (a := 36) yd_by_cX3_init_0 rfl rfl
theorem dX3_init_7 : decode cX3_init 7 = .ok (.newarray .int, 2) := yd_op_188_10 (i := 7) yd_by_cX3_init_0 rfl rfl
theorem dX3_init_9 : decode cX3_init 9 = .ok (.putfield 9, 3) := yd_op_181 (i := 9) (a := 0) (b := 9) yd_by_cX3_init_0 rfl rfl
theorem dX3_init_12 : decode cX3_init 12 = .ok (.aload_n 0, 1) := yd_op_42 (i := 12) yd_by_cX3_init_0 rfl rfl
theorem dX3_init_13 : decode cX3_init 13 = .ok (.bipush 10, 2) := yd_op_16 (i := 13) (a := 10) yd_by_cX3_init_0 rfl rfl
theorem dX3_init_15 : decode cX3_init 15 = .ok (.newarray .int, 2) := yd_op_188_10 (i := 15) yd_by_cX3_init_0 rfl rfl
theorem dX3_init_17 : decode cX3_init 17 = .ok (.putfield 15, 3) := yd_op_181 (i := 17) (a := 0) (b := 15) yd_by_cX3_init_0 rfl rfl
theorem dX3_init_20 : decode cX3_init 20 = .ok (.aload_n 0, 1) := yd_op_42 (i := 20) yd_by_cX3_init_0 rfl rfl
theorem dX3_init_21 : decode cX3_init 21 = .ok (.bipush 10, 2) := yd_op_16 (i := 21) (a := 10) yd_by_cX3_init_0 rfl rfl
theorem dX3_init_23 : decode cX3_init 23 = .ok (.newarray .int, 2) := yd_op_188_10 (i := 23) yd_by_cX3_init_0 rfl rfl
theorem dX3_init_25 : decode cX3_init 25 = .ok (.putfield 18, 3) := yd_op_181 (i := 25) (a := 0) (b := 18) yd_by_cX3_init_0 rfl rfl
theorem dX3_init_28 : decode cX3_init 28 = .ok (.aload_n 0, 1) := yd_op_42 (i := 28) yd_by_cX3_init_0 rfl rfl
theorem dX3_init_29 : decode cX3_init 29 = .ok (.bipush 10, 2) := yd_op_16 (i := 29) (a := 10) yd_by_cX3_init_0 rfl rfl
theorem dX3_init_31 : decode cX3_init 31 = .ok (.newarray .int, 2) := yd_op_188_10 (i := 31) yd_by_cX3_init_0 rfl rfl
theorem dX3_init_33 : decode cX3_init 33 = .ok (.putfield 21, 3) := yd_op_181 (i := 33) (a := 0) (b := 21) yd_by_cX3_init_0 rfl rfl
theorem dX3_init_36 : decode cX3_init 36 = .ok (.aload_n 0, 1) := yd_op_42 (i := 36) yd_by_cX3_init_0 rfl rfl
theorem dX3_init_37 : decode cX3_init 37 = .ok (.bipush 10, 2) := yd_op_16 (i := 37) (a := 10) yd_by_cX3_init_0 rfl rfl
set_option maxRecDepth 100000 in
theorem yd_by_cX3_init_1 : ydk cX3_init 39 [188, 10, 181, 0, 24, 42, 187, 0, 27, 89, 183, 0, 29, 181, 0, 30, 42, 187, 0, 27, 89, 183, 0, 29, 181, 0, 34, 42, 3, 181, 0, 37, 42, 3, 181, 0, 41, 42, 3] = true := by decide +kernel
theorem dX3_init_39 : decode cX3_init 39 = .ok (.newarray .int, 2) := yd_op_188_10 (i := 0) yd_by_cX3_init_1 rfl rfl
theorem dX3_init_41 : decode cX3_init 41 = .ok (.putfield 24, 3) := yd_op_181 (i := 2) (a := 0) (b := 24) yd_by_cX3_init_1 rfl rfl
theorem dX3_init_44 : decode cX3_init 44 = .ok (.aload_n 0, 1) := yd_op_42 (i := 5) yd_by_cX3_init_1 rfl rfl
theorem dX3_init_45 : decode cX3_init 45 = .ok (.new 27, 3) := yd_op_187 (i := 6) (a := 0) (b := 27) yd_by_cX3_init_1 rfl rfl
theorem dX3_init_48 : decode cX3_init 48 = .ok (.dup, 1) := yd_op_89 (i := 9) yd_by_cX3_init_1 rfl rfl
theorem dX3_init_49 : decode cX3_init 49 = .ok (.invokespecial 29, 3) := yd_op_183 (i := 10) (a := 0) (b := 29) yd_by_cX3_init_1 rfl rfl
theorem dX3_init_52 : decode cX3_init 52 = .ok (.putfield 30, 3) := yd_op_181 (i := 13) (a := 0) (b := 30) yd_by_cX3_init_1 rfl rfl
theorem dX3_init_55 : decode cX3_init 55 = .ok (.aload_n 0, 1) := yd_op_42 (i := 16) yd_by_cX3_init_1 rfl rfl
theorem dX3_init_56 : decode cX3_init 56 = .ok (.new 27, 3) := yd_op_187 (i := 17) (a := 0) (b := 27) yd_by_cX3_init_1 rfl rfl
theorem dX3_init_59 : decode cX3_init 59 = .ok (.dup, 1) := yd_op_89 (i := 20) yd_by_cX3_init_1 rfl rfl
theorem dX3_init_60 : decode cX3_init 60 = .ok (.invokespecial 29, 3) := yd_op_183 (i := 21) (a := 0) (b := 29) yd_by_cX3_init_1 rfl rfl
theorem dX3_init_63 : decode cX3_init 63 = .ok (.putfield 34, 3) := yd_op_181 (i := 24) (a := 0) (b := 34) yd_by_cX3_init_1 rfl rfl
theorem dX3_init_66 : decode cX3_init 66 = .ok (.aload_n 0, 1) := yd_op_42 (i := 27) yd_by_cX3_init_1 rfl rfl
theorem dX3_init_67 : decode cX3_init 67 = .ok (.iconst 0, 1) := yd_op_3 (i := 28) yd_by_cX3_init_1 rfl rfl
theorem dX3_init_68 : decode cX3_init 68 = .ok (.putfield 37, 3) := yd_op_181 (i := 29) (a := 0) (b := 37) yd_by_cX3_init_1 rfl rfl
theorem dX3_init_71 : decode cX3_init 71 = .ok (.aload_n 0, 1) := yd_op_42 (i := 32) yd_by_cX3_init_1 rfl rfl
theorem dX3_init_72 : decode cX3_init 72 = .ok (.iconst 0, 1) := yd_op_3 (i := 33) yd_by_cX3_init_1 rfl rfl
theorem dX3_init_73 : decode cX3_init 73 = .ok (.putfield 41, 3) := yd_op_181 (i := 34) (a := 0) (b := 41) yd_by_cX3_init_1 rfl rfl
theorem dX3_init_76 : decode cX3_init 76 = .ok (.aload_n 0, 1) := yd_op_42 (i := 37) yd_by_cX3_init_1 rfl rfl
theorem dX3_init_77 : decode cX3_init 77 = .ok (.iconst 0, 1) := yd_op_3 (i := 38) yd_by_cX3_init_1 rfl rfl
set_option maxRecDepth 100000 in
theorem yd_by_cX3_init_2 : ydk cX3_init 78 [181, 0, 44, 42, 3, 181, 0, 47, 42, 3, 181, 0, 51, 42, 3, 181, 0, 54, 42, 3, 181, 0, 57, 42, 3, 181, 0, 60, 42, 3, 181, 0, 63, 42] = true := by decide +kernel
theorem dX3_init_78 : decode cX3_init 78 = .ok (.putfield 44, 3) := yd_op_181 (i := 0) (a := 0) (b := 44) yd_by_cX3_init_2 rfl rfl
theorem dX3_init_81 : decode cX3_init 81 = .ok (.aload_n 0, 1) := yd_op_42 (i := 3) yd_by_cX3_init_2 rfl rfl
theorem dX3_init_82 : decode cX3_init 82 = .ok (.iconst 0, 1) := yd_op_3 (i := 4) yd_by_cX3_init_2 rfl rfl
theorem dX3_init_83 : decode cX3_init 83 = .ok (.putfield 47, 3) := yd_op_181 (i := 5) (a := 0) (b := 47) yd_by_cX3_init_2 rfl rfl
theorem dX3_init_86 : decode cX3_init 86 = .ok (.aload_n 0, 1) := yd_op_42 (i := 8) yd_by_cX3_init_2 rfl rfl
theorem dX3_init_87 : decode cX3_init 87 = .ok (.iconst 0, 1) := yd_op_3 (i := 9) yd_by_cX3_init_2 rfl rfl
theorem dX3_init_88 : decode cX3_init 88 = .ok (.putfield 51, 3) := yd_op_181 (i := 10) (a := 0) (b := 51) yd_by_cX3_init_2 rfl rfl
theorem dX3_init_91 : decode cX3_init 91 = .ok (.aload_n 0, 1) := yd_op_42 (i := 13) yd_by_cX3_init_2 rfl rfl
theorem dX3_init_92 : decode cX3_init 92 = .ok (.iconst 0, 1) := yd_op_3 (i := 14) yd_by_cX3_init_2 rfl rfl
theorem dX3_init_93 : decode cX3_init 93 = .ok (.putfield 54, 3) := yd_op_181 (i := 15) (a := 0) (b := 54) yd_by_cX3_init_2 rfl rfl
theorem dX3_init_96 : decode cX3_init 96 = .ok (.aload_n 0, 1) := yd_op_42 (i := 18) yd_by_cX3_init_2 rfl rfl
theorem dX3_init_97 : decode cX3_init 97 = .ok (.iconst 0, 1) := yd_op_3 (i := 19) yd_by_cX3_init_2 rfl rfl
theorem dX3_init_98 : decode cX3_init 98 = .ok (.putfield 57, 3) := yd_op_181 (i := 20) (a := 0) (b := 57) yd_by_cX3_init_2 rfl rfl
theorem dX3_init_101 : decode cX3_init 101 = .ok (.aload_n 0, 1) := yd_op_42 (i := 23) yd_by_cX3_init_2 rfl rfl
theorem dX3_init_102 : decode cX3_init 102 = .ok (.iconst 0, 1) := yd_op_3 (i := 24) yd_by_cX3_init_2 rfl rfl
theorem dX3_init_103 : decode cX3_init 103 = .ok (.putfield 60, 3) := yd_op_181 (i := 25) (a := 0) (b := 60) yd_by_cX3_init_2 rfl rfl
theorem dX3_init_106 : decode cX3_init 106 = .ok (.aload_n 0, 1) := yd_op_42 (i := 28) yd_by_cX3_init_2 rfl rfl
theorem dX3_init_107 : decode cX3_init 107 = .ok (.iconst 0, 1) := yd_op_3 (i := 29) yd_by_cX3_init_2 rfl rfl
theorem dX3_init_108 : decode cX3_init 108 = .ok (.putfield 63, 3) := yd_op_181 (i := 30) (a := 0) (b := 63) yd_by_cX3_init_2 rfl rfl
theorem dX3_init_111 : decode cX3_init 111 = .ok (.aload_n 0, 1) := yd_op_42 (i := 33) yd_by_cX3_init_2 rfl rfl
set_option maxRecDepth 100000 in
theorem yd_by_cX3_init_3 : ydk cX3_init 112 [3, 181, 0, 66, 177] = true := by decide +kernel
theorem dX3_init_112 : decode cX3_init 112 = .ok (.iconst 0, 1) := yd_op_3 (i := 0) yd_by_cX3_init_3 rfl rfl
theorem dX3_init_113 : decode cX3_init 113 = .ok (.putfield 66, 3) := yd_op_181 (i := 1) (a := 0) (b := 66) yd_by_cX3_init_3 rfl rfl
theorem dX3_init_116 : decode cX3_init 116 = .ok (.return_, 1) := yd_op_177 (i := 4) yd_by_cX3_init_3 rfl rfl
set_option maxRecDepth 100000 in
theorem yd_by_cX3_clear_0 : ydk cX3_clear 0 [3, 60, 27, 16, 36, 162, 0, 16, 42, 180, 0, 9, 27, 4, 79, 132, 1, 1, 167, 255, 240, 42, 180, 0, 30, 16, 14, 182, 0, 69, 42, 180, 0, 34, 16, 24, 182, 0, 69] = true := by decide +kernel
theorem dX3_clear_0 : decode cX3_clear 0 = .ok (.iconst 0, 1) := yd_op_3 (i := 0) yd_by_cX3_clear_0 rfl rfl
theorem dX3_clear_1 : decode cX3_clear 1 = .ok (.istore_n 1, 1) := yd_op_60 (i := 1) yd_by_cX3_clear_0 rfl rfl
theorem dX3_clear_2 : decode cX3_clear 2 = .ok (.iload_n 1, 1) := yd_op_27 (i := 2) yd_by_cX3_clear_0 rfl rfl
theorem dX3_clear_3 : decode cX3_clear 3 = .ok (.bipush 36, 2) := yd_op_16 (i := 3) (a := 36) yd_by_cX3_clear_0 rfl rfl
theorem dX3_clear_5 : decode cX3_clear 5 = .ok (.if_icmp .ge 16, 3) := yd_op_162 (i := 5) (a := 0) (b := 16) yd_by_cX3_clear_0 rfl rfl
theorem dX3_clear_8 : decode cX3_clear 8 = .ok (.aload_n 0, 1) := yd_op_42 (i := 8) yd_by_cX3_clear_0 rfl rfl
theorem dX3_clear_9 : decode cX3_clear 9 = .ok (.getfield 9, 3) := yd_op_180 (i := 9) (a := 0) (b := 9) yd_by_cX3_clear_0 rfl rfl
theorem dX3_clear_12 : decode cX3_clear 12 = .ok (.iload_n 1, 1) := yd_op_27 (i := 12) yd_by_cX3_clear_0 rfl rfl
theorem dX3_clear_13 : decode cX3_clear 13 = .ok (.iconst 1, 1) := yd_op_4 (i := 13) yd_by_cX3_clear_0 rfl rfl
theorem dX3_clear_14 : decode cX3_clear 14 = .ok (.iastore, 1) := yd_op_79 (i := 14) yd_by_cX3_clear_0 rfl rfl
theorem dX3_clear_15 : decode cX3_clear 15 = .ok (.iinc 1 1, 3) := yd_op_132 (i := 15) (a := 1) (b := 1) yd_by_cX3_clear_0 rfl rfl
theorem dX3_clear_18 : decode cX3_clear 18 = .ok (.goto (-16), 3) := yd_op_167 (i := 18) (a := 255) (b := 240) yd_by_cX3_clear_0 rfl rfl
theorem dX3_clear_21 : decode cX3_clear 21 = .ok (.aload_n 0, 1) := yd_op_42 (i := 21) yd_by_cX3_clear_0 rfl rfl
theorem dX3_clear_22 : decode cX3_clear 22 = .ok (.getfield 30, 3) := yd_op_180 (i := 22) (a := 0) (b := 30) yd_by_cX3_clear_0 rfl rfl
theorem dX3_clear_25 : decode cX3_clear 25 = .ok (.bipush 14, 2) := yd_op_16 (i := 25) (a := 14) yd_by_cX3_clear_0 rfl rfl
theorem dX3_clear_27 : decode cX3_clear 27 = .ok (.invokevirtual 69, 3) := yd_op_182 (i := 27) (a := 0) (b := 69) yd_by_cX3_clear_0 rfl rfl
theorem dX3_clear_30 : decode cX3_clear 30 = .ok (.aload_n 0, 1) := yd_op_42 (i := 30) yd_by_cX3_clear_0 rfl rfl
theorem dX3_clear_31 : decode cX3_clear 31 = .ok (.getfield 34, 3) := yd_op_180 (i := 31) (a := 0) (b := 34) yd_by_cX3_clear_0 rfl rfl
theorem dX3_clear_34 : decode cX3_clear 34 = .ok (.bipush 24, 2) := yd_op_16 (i := 34) (a := 24) yd_by_cX3_clear_0 rfl rfl
theorem dX3_clear_36 : decode cX3_clear 36 = .ok (.invokevirtual 69, 3) := yd_op_182 (i := 36) (a := 0) (b := 69) yd_by_cX3_clear_0 rfl rfl
set_option maxRecDepth 100000 in
theorem yd_by_cX3_clear_1 : ydk cX3_clear 39 [42, 3, 181, 0, 37, 42, 3, 181, 0, 41, 42, 3, 181, 0, 44, 42, 3, 181, 0, 47, 42, 3, 181, 0, 51, 42, 3, 181, 0, 54, 42, 3] = true := by decide +kernel
theorem dX3_clear_39 : decode cX3_clear 39 = .ok (.aload_n 0, 1) := yd_op_42 (i := 0) yd_by_cX3_clear_1 rfl rfl
theorem dX3_clear_40 : decode cX3_clear 40 = .ok (.iconst 0, 1) := yd_op_3 (i := 1) yd_by_cX3_clear_1 rfl rfl
theorem dX3_clear_41 : decode cX3_clear 41 = .ok (.putfield 37, 3) := yd_op_181 (i := 2) (a := 0) (b := 37) yd_by_cX3_clear_1 rfl rfl
theorem dX3_clear_44 : decode cX3_clear 44 = .ok (.aload_n 0, 1) := yd_op_42 (i := 5) yd_by_cX3_clear_1 rfl rfl
theorem dX3_clear_45 : decode cX3_clear 45 = .ok (.iconst 0, 1) := yd_op_3 (i := 6) yd_by_cX3_clear_1 rfl rfl
theorem dX3_clear_46 : decode cX3_clear 46 = .ok (.putfield 41, 3) := yd_op_181 (i := 7) (a := 0) (b := 41) yd_by_cX3_clear_1 rfl rfl
theorem dX3_clear_49 : decode cX3_clear 49 = .ok (.aload_n 0, 1) := yd_op_42 (i := 10) yd_by_cX3_clear_1 rfl rfl
theorem dX3_clear_50 : decode cX3_clear 50 = .ok (.iconst 0, 1) := yd_op_3 (i := 11) yd_by_cX3_clear_1 rfl rfl
theorem dX3_clear_51 : decode cX3_clear 51 = .ok (.putfield 44, 3) := yd_op_181 (i := 12) (a := 0) (b := 44) yd_by_cX3_clear_1 rfl rfl
theorem dX3_clear_54 : decode cX3_clear 54 = .ok (.aload_n 0, 1) := yd_op_42 (i := 15) yd_by_cX3_clear_1 rfl rfl
theorem dX3_clear_55 : decode cX3_clear 55 = .ok (.iconst 0, 1) := yd_op_3 (i := 16) yd_by_cX3_clear_1 rfl rfl
theorem dX3_clear_56 : decode cX3_clear 56 = .ok (.putfield 47, 3) := yd_op_181 (i := 17) (a := 0) (b := 47) yd_by_cX3_clear_1 rfl rfl
theorem dX3_clear_59 : decode cX3_clear 59 = .ok (.aload_n 0, 1) := yd_op_42 (i := 20) yd_by_cX3_clear_1 rfl rfl
theorem dX3_clear_60 : decode cX3_clear 60 = .ok (.iconst 0, 1) := yd_op_3 (i := 21) yd_by_cX3_clear_1 rfl rfl
theorem dX3_clear_61 : decode cX3_clear 61 = .ok (.putfield 51, 3) := yd_op_181 (i := 22) (a := 0) (b := 51) yd_by_cX3_clear_1 rfl rfl
theorem dX3_clear_64 : decode cX3_clear 64 = .ok (.aload_n 0, 1) := yd_op_42 (i := 25) yd_by_cX3_clear_1 rfl rfl
theorem dX3_clear_65 : decode cX3_clear 65 = .ok (.iconst 0, 1) := yd_op_3 (i := 26) yd_by_cX3_clear_1 rfl rfl
theorem dX3_clear_66 : decode cX3_clear 66 = .ok (.putfield 54, 3) := yd_op_181 (i := 27) (a := 0) (b := 54) yd_by_cX3_clear_1 rfl rfl
theorem dX3_clear_69 : decode cX3_clear 69 = .ok (.aload_n 0, 1) := yd_op_42 (i := 30) yd_by_cX3_clear_1 rfl rfl
theorem dX3_clear_70 : decode cX3_clear 70 = .ok (.iconst 0, 1) := yd_op_3 (i := 31) yd_by_cX3_clear_1 rfl rfl
set_option maxRecDepth 100000 in
theorem yd_by_cX3_clear_2 : ydk cX3_clear 71 [181, 0, 57, 42, 6, 181, 0, 60, 42, 16, 20, 181, 0, 63, 42, 3, 181, 0, 66, 177] = true := by decide +kernel
theorem dX3_clear_71 : decode cX3_clear 71 = .ok (.putfield 57, 3) := yd_op_181 (i := 0) (a := 0) (b := 57) yd_by_cX3_clear_2 rfl rfl
theorem dX3_clear_74 : decode cX3_clear 74 = .ok (.aload_n 0, 1) := yd_op_42 (i := 3) yd_by_cX3_clear_2 rfl rfl
theorem dX3_clear_75 : decode cX3_clear 75 = .ok (.iconst 3, 1) := yd_op_6 (i := 4) yd_by_cX3_clear_2 rfl rfl
theorem dX3_clear_76 : decode cX3_clear 76 = .ok (.putfield 60, 3) := yd_op_181 (i := 5) (a := 0) (b := 60) yd_by_cX3_clear_2 rfl rfl
theorem dX3_clear_79 : decode cX3_clear 79 = .ok (.aload_n 0, 1) := yd_op_42 (i := 8) yd_by_cX3_clear_2 rfl rfl
theorem dX3_clear_80 : decode cX3_clear 80 = .ok (.bipush 20, 2) := yd_op_16 (i := 9) (a := 20) yd_by_cX3_clear_2 rfl rfl
theorem dX3_clear_82 : decode cX3_clear 82 = .ok (.putfield 63, 3) := yd_op_181 (i := 11) (a := 0) (b := 63) yd_by_cX3_clear_2 rfl rfl
theorem dX3_clear_85 : decode cX3_clear 85 = .ok (.aload_n 0, 1) := yd_op_42 (i := 14) yd_by_cX3_clear_2 rfl rfl
theorem dX3_clear_86 : decode cX3_clear 86 = .ok (.iconst 0, 1) := yd_op_3 (i := 15) yd_by_cX3_clear_2 rfl rfl
theorem dX3_clear_87 : decode cX3_clear 87 = .ok (.putfield 66, 3) := yd_op_181 (i := 16) (a := 0) (b := 66) yd_by_cX3_clear_2 rfl rfl
theorem dX3_clear_90 : decode cX3_clear 90 = .ok (.return_, 1) := yd_op_177 (i := 19) yd_by_cX3_clear_2 rfl rfl
set_option maxRecDepth 100000 in
theorem yd_by_cX3_setSides_0 : ydk cX3_setSides 0 [42, 27, 181, 0, 47, 42, 28, 181, 0, 51, 177] = true := by decide +kernel
theorem dX3_setSides_0 : decode cX3_setSides 0 = .ok (.aload_n 0, 1) := yd_op_42 (i := 0) yd_by_cX3_setSides_0 rfl rfl
theorem dX3_setSides_1 : decode cX3_setSides 1 = .ok (.iload_n 1, 1) := yd_op_27 (i := 1) yd_by_cX3_setSides_0 rfl rfl
theorem dX3_setSides_2 : decode cX3_setSides 2 = .ok (.putfield 47, 3) := yd_op_181 (i := 2) (a := 0) (b := 47) yd_by_cX3_setSides_0 rfl rfl
theorem dX3_setSides_5 : decode cX3_setSides 5 = .ok (.aload_n 0, 1) := yd_op_42 (i := 5) yd_by_cX3_setSides_0 rfl rfl
theorem dX3_setSides_6 : decode cX3_setSides 6 = .ok (.iload_n 2, 1) := yd_op_28 (i := 6) yd_by_cX3_setSides_0 rfl rfl
theorem dX3_setSides_7 : decode cX3_setSides 7 = .ok (.putfield 51, 3) := yd_op_181 (i := 7) (a := 0) (b := 51) yd_by_cX3_setSides_0 rfl rfl
theorem dX3_setSides_10 : decode cX3_setSides 10 = .ok (.return_, 1) := yd_op_177 (i := 10) yd_by_cX3_setSides_0 rfl rfl
set_option maxRecDepth 100000 in
theorem yd_by_cX3_isTold_0 : ydk cX3_isTold 0 [42, 180, 0, 47, 158, 0, 7, 4, 167, 0, 4, 3, 172] = true := by decide +kernel
theorem dX3_isTold_0 : decode cX3_isTold 0 = .ok (.aload_n 0, 1) := yd_op_42 (i := 0) yd_by_cX3_isTold_0 rfl rfl
theorem dX3_isTold_1 : decode cX3_isTold 1 = .ok (.getfield 47, 3) := yd_op_180 (i := 1) (a := 0) (b := 47) yd_by_cX3_isTold_0 rfl rfl
theorem dX3_isTold_4 : decode cX3_isTold 4 = .ok (.ifCond .le 7, 3) := yd_op_158 (i := 4) (a := 0) (b := 7) yd_by_cX3_isTold_0 rfl rfl
theorem dX3_isTold_7 : decode cX3_isTold 7 = .ok (.iconst 1, 1) := yd_op_4 (i := 7) yd_by_cX3_isTold_0 rfl rfl
theorem dX3_isTold_8 : decode cX3_isTold 8 = .ok (.goto 4, 3) := yd_op_167 (i := 8) (a := 0) (b := 4) yd_by_cX3_isTold_0 rfl rfl
theorem dX3_isTold_11 : decode cX3_isTold 11 = .ok (.iconst 0, 1) := yd_op_3 (i := 11) yd_by_cX3_isTold_0 rfl rfl
theorem dX3_isTold_12 : decode cX3_isTold 12 = .ok (.ireturn, 1) := yd_op_172 (i := 12) yd_by_cX3_isTold_0 rfl rfl
set_option maxRecDepth 100000 in
theorem yd_by_cX3_cells_0 : ydk cX3_cells 0 [42, 180, 0, 47, 42, 180, 0, 51, 104, 172] = true := by decide +kernel
theorem dX3_cells_0 : decode cX3_cells 0 = .ok (.aload_n 0, 1) := yd_op_42 (i := 0) yd_by_cX3_cells_0 rfl rfl
theorem dX3_cells_1 : decode cX3_cells 1 = .ok (.getfield 47, 3) := yd_op_180 (i := 1) (a := 0) (b := 47) yd_by_cX3_cells_0 rfl rfl
theorem dX3_cells_4 : decode cX3_cells 4 = .ok (.aload_n 0, 1) := yd_op_42 (i := 4) yd_by_cX3_cells_0 rfl rfl
theorem dX3_cells_5 : decode cX3_cells 5 = .ok (.getfield 51, 3) := yd_op_180 (i := 5) (a := 0) (b := 51) yd_by_cX3_cells_0 rfl rfl
theorem dX3_cells_8 : decode cX3_cells 8 = .ok (.imul, 1) := yd_op_104 (i := 8) yd_by_cX3_cells_0 rfl rfl
theorem dX3_cells_9 : decode cX3_cells 9 = .ok (.ireturn, 1) := yd_op_172 (i := 9) yd_by_cX3_cells_0 rfl rfl
set_option maxRecDepth 100000 in
theorem yd_by_cX3_cellAt_0 : ydk cX3_cellAt 0 [28, 42, 180, 0, 47, 104, 27, 96, 172] = true := by decide +kernel
theorem dX3_cellAt_0 : decode cX3_cellAt 0 = .ok (.iload_n 2, 1) := yd_op_28 (i := 0) yd_by_cX3_cellAt_0 rfl rfl
theorem dX3_cellAt_1 : decode cX3_cellAt 1 = .ok (.aload_n 0, 1) := yd_op_42 (i := 1) yd_by_cX3_cellAt_0 rfl rfl
theorem dX3_cellAt_2 : decode cX3_cellAt 2 = .ok (.getfield 47, 3) := yd_op_180 (i := 2) (a := 0) (b := 47) yd_by_cX3_cellAt_0 rfl rfl
theorem dX3_cellAt_5 : decode cX3_cellAt 5 = .ok (.imul, 1) := yd_op_104 (i := 5) yd_by_cX3_cellAt_0 rfl rfl
theorem dX3_cellAt_6 : decode cX3_cellAt 6 = .ok (.iload_n 1, 1) := yd_op_27 (i := 6) yd_by_cX3_cellAt_0 rfl rfl
theorem dX3_cellAt_7 : decode cX3_cellAt 7 = .ok (.iadd, 1) := yd_op_96 (i := 7) yd_by_cX3_cellAt_0 rfl rfl
theorem dX3_cellAt_8 : decode cX3_cellAt 8 = .ok (.ireturn, 1) := yd_op_172 (i := 8) yd_by_cX3_cellAt_0 rfl rfl
set_option maxRecDepth 100000 in
theorem yd_by_cX3_hasCell_0 : ydk cX3_hasCell 0 [27, 155, 0, 27, 27, 42, 180, 0, 47, 162, 0, 19, 28, 155, 0, 15, 28, 42, 180, 0, 51, 162, 0, 7, 4, 167, 0, 4, 3, 172] = true := by decide +kernel
theorem dX3_hasCell_0 : decode cX3_hasCell 0 = .ok (.iload_n 1, 1) := yd_op_27 (i := 0) yd_by_cX3_hasCell_0 rfl rfl
theorem dX3_hasCell_1 : decode cX3_hasCell 1 = .ok (.ifCond .lt 27, 3) := yd_op_155 (i := 1) (a := 0) (b := 27) yd_by_cX3_hasCell_0 rfl rfl
theorem dX3_hasCell_4 : decode cX3_hasCell 4 = .ok (.iload_n 1, 1) := yd_op_27 (i := 4) yd_by_cX3_hasCell_0 rfl rfl
theorem dX3_hasCell_5 : decode cX3_hasCell 5 = .ok (.aload_n 0, 1) := yd_op_42 (i := 5) yd_by_cX3_hasCell_0 rfl rfl
theorem dX3_hasCell_6 : decode cX3_hasCell 6 = .ok (.getfield 47, 3) := yd_op_180 (i := 6) (a := 0) (b := 47) yd_by_cX3_hasCell_0 rfl rfl
theorem dX3_hasCell_9 : decode cX3_hasCell 9 = .ok (.if_icmp .ge 19, 3) := yd_op_162 (i := 9) (a := 0) (b := 19) yd_by_cX3_hasCell_0 rfl rfl
theorem dX3_hasCell_12 : decode cX3_hasCell 12 = .ok (.iload_n 2, 1) := yd_op_28 (i := 12) yd_by_cX3_hasCell_0 rfl rfl
theorem dX3_hasCell_13 : decode cX3_hasCell 13 = .ok (.ifCond .lt 15, 3) := yd_op_155 (i := 13) (a := 0) (b := 15) yd_by_cX3_hasCell_0 rfl rfl
theorem dX3_hasCell_16 : decode cX3_hasCell 16 = .ok (.iload_n 2, 1) := yd_op_28 (i := 16) yd_by_cX3_hasCell_0 rfl rfl
theorem dX3_hasCell_17 : decode cX3_hasCell 17 = .ok (.aload_n 0, 1) := yd_op_42 (i := 17) yd_by_cX3_hasCell_0 rfl rfl
theorem dX3_hasCell_18 : decode cX3_hasCell 18 = .ok (.getfield 51, 3) := yd_op_180 (i := 18) (a := 0) (b := 51) yd_by_cX3_hasCell_0 rfl rfl
theorem dX3_hasCell_21 : decode cX3_hasCell 21 = .ok (.if_icmp .ge 7, 3) := yd_op_162 (i := 21) (a := 0) (b := 7) yd_by_cX3_hasCell_0 rfl rfl
theorem dX3_hasCell_24 : decode cX3_hasCell 24 = .ok (.iconst 1, 1) := yd_op_4 (i := 24) yd_by_cX3_hasCell_0 rfl rfl
theorem dX3_hasCell_25 : decode cX3_hasCell 25 = .ok (.goto 4, 3) := yd_op_167 (i := 25) (a := 0) (b := 4) yd_by_cX3_hasCell_0 rfl rfl
theorem dX3_hasCell_28 : decode cX3_hasCell 28 = .ok (.iconst 0, 1) := yd_op_3 (i := 28) yd_by_cX3_hasCell_0 rfl rfl
theorem dX3_hasCell_29 : decode cX3_hasCell 29 = .ok (.ireturn, 1) := yd_op_172 (i := 29) yd_by_cX3_hasCell_0 rfl rfl
set_option maxRecDepth 100000 in
theorem yd_by_cX3_hasPerson_0 : ydk cX3_hasPerson 0 [27, 155, 0, 15, 27, 42, 180, 0, 54, 162, 0, 7, 4, 167, 0, 4, 3, 172] = true := by decide +kernel
theorem dX3_hasPerson_0 : decode cX3_hasPerson 0 = .ok (.iload_n 1, 1) := yd_op_27 (i := 0) yd_by_cX3_hasPerson_0 rfl rfl
theorem dX3_hasPerson_1 : decode cX3_hasPerson 1 = .ok (.ifCond .lt 15, 3) := yd_op_155 (i := 1) (a := 0) (b := 15) yd_by_cX3_hasPerson_0 rfl rfl
theorem dX3_hasPerson_4 : decode cX3_hasPerson 4 = .ok (.iload_n 1, 1) := yd_op_27 (i := 4) yd_by_cX3_hasPerson_0 rfl rfl
theorem dX3_hasPerson_5 : decode cX3_hasPerson 5 = .ok (.aload_n 0, 1) := yd_op_42 (i := 5) yd_by_cX3_hasPerson_0 rfl rfl
theorem dX3_hasPerson_6 : decode cX3_hasPerson 6 = .ok (.getfield 54, 3) := yd_op_180 (i := 6) (a := 0) (b := 54) yd_by_cX3_hasPerson_0 rfl rfl
theorem dX3_hasPerson_9 : decode cX3_hasPerson 9 = .ok (.if_icmp .ge 7, 3) := yd_op_162 (i := 9) (a := 0) (b := 7) yd_by_cX3_hasPerson_0 rfl rfl
theorem dX3_hasPerson_12 : decode cX3_hasPerson 12 = .ok (.iconst 1, 1) := yd_op_4 (i := 12) yd_by_cX3_hasPerson_0 rfl rfl
theorem dX3_hasPerson_13 : decode cX3_hasPerson 13 = .ok (.goto 4, 3) := yd_op_167 (i := 13) (a := 0) (b := 4) yd_by_cX3_hasPerson_0 rfl rfl
theorem dX3_hasPerson_16 : decode cX3_hasPerson 16 = .ok (.iconst 0, 1) := yd_op_3 (i := 16) yd_by_cX3_hasPerson_0 rfl rfl
theorem dX3_hasPerson_17 : decode cX3_hasPerson 17 = .ok (.ireturn, 1) := yd_op_172 (i := 17) yd_by_cX3_hasPerson_0 rfl rfl
set_option maxRecDepth 100000 in
theorem yd_by_cX3_isNamed_0 : ydk cX3_isNamed 0 [3, 61, 28, 42, 180, 0, 54, 162, 0, 21, 42, 180, 0, 15, 28, 46, 27, 160, 0, 5, 4, 172, 132, 2, 1, 167, 255, 233, 3, 172] = true := by decide +kernel
theorem dX3_isNamed_0 : decode cX3_isNamed 0 = .ok (.iconst 0, 1) := yd_op_3 (i := 0) yd_by_cX3_isNamed_0 rfl rfl
theorem dX3_isNamed_1 : decode cX3_isNamed 1 = .ok (.istore_n 2, 1) := yd_op_61 (i := 1) yd_by_cX3_isNamed_0 rfl rfl
theorem dX3_isNamed_2 : decode cX3_isNamed 2 = .ok (.iload_n 2, 1) := yd_op_28 (i := 2) yd_by_cX3_isNamed_0 rfl rfl
theorem dX3_isNamed_3 : decode cX3_isNamed 3 = .ok (.aload_n 0, 1) := yd_op_42 (i := 3) yd_by_cX3_isNamed_0 rfl rfl
theorem dX3_isNamed_4 : decode cX3_isNamed 4 = .ok (.getfield 54, 3) := yd_op_180 (i := 4) (a := 0) (b := 54) yd_by_cX3_isNamed_0 rfl rfl
theorem dX3_isNamed_7 : decode cX3_isNamed 7 = .ok (.if_icmp .ge 21, 3) := yd_op_162 (i := 7) (a := 0) (b := 21) yd_by_cX3_isNamed_0 rfl rfl
theorem dX3_isNamed_10 : decode cX3_isNamed 10 = .ok (.aload_n 0, 1) := yd_op_42 (i := 10) yd_by_cX3_isNamed_0 rfl rfl
theorem dX3_isNamed_11 : decode cX3_isNamed 11 = .ok (.getfield 15, 3) := yd_op_180 (i := 11) (a := 0) (b := 15) yd_by_cX3_isNamed_0 rfl rfl
theorem dX3_isNamed_14 : decode cX3_isNamed 14 = .ok (.iload_n 2, 1) := yd_op_28 (i := 14) yd_by_cX3_isNamed_0 rfl rfl
theorem dX3_isNamed_15 : decode cX3_isNamed 15 = .ok (.iaload, 1) := yd_op_46 (i := 15) yd_by_cX3_isNamed_0 rfl rfl
theorem dX3_isNamed_16 : decode cX3_isNamed 16 = .ok (.iload_n 1, 1) := yd_op_27 (i := 16) yd_by_cX3_isNamed_0 rfl rfl
theorem dX3_isNamed_17 : decode cX3_isNamed 17 = .ok (.if_icmp .ne 5, 3) := yd_op_160 (i := 17) (a := 0) (b := 5) yd_by_cX3_isNamed_0 rfl rfl
theorem dX3_isNamed_20 : decode cX3_isNamed 20 = .ok (.iconst 1, 1) := yd_op_4 (i := 20) yd_by_cX3_isNamed_0 rfl rfl
theorem dX3_isNamed_21 : decode cX3_isNamed 21 = .ok (.ireturn, 1) := yd_op_172 (i := 21) yd_by_cX3_isNamed_0 rfl rfl
theorem dX3_isNamed_22 : decode cX3_isNamed 22 = .ok (.iinc 2 1, 3) := yd_op_132 (i := 22) (a := 2) (b := 1) yd_by_cX3_isNamed_0 rfl rfl
theorem dX3_isNamed_25 : decode cX3_isNamed 25 = .ok (.goto (-23), 3) := yd_op_167 (i := 25) (a := 255) (b := 233) yd_by_cX3_isNamed_0 rfl rfl
theorem dX3_isNamed_28 : decode cX3_isNamed 28 = .ok (.iconst 0, 1) := yd_op_3 (i := 28) yd_by_cX3_isNamed_0 rfl rfl
theorem dX3_isNamed_29 : decode cX3_isNamed 29 = .ok (.ireturn, 1) := yd_op_172 (i := 29) yd_by_cX3_isNamed_0 rfl rfl
set_option maxRecDepth 100000 in
theorem yd_by_cX3_isHome_0 : ydk cX3_isHome 0 [3, 62, 29, 42, 180, 0, 54, 162, 0, 31, 42, 180, 0, 18, 29, 46, 27, 160, 0, 15, 42, 180, 0, 21, 29, 46, 28, 160, 0, 5, 4, 172] = true := by decide +kernel
theorem dX3_isHome_0 : decode cX3_isHome 0 = .ok (.iconst 0, 1) := yd_op_3 (i := 0) yd_by_cX3_isHome_0 rfl rfl
theorem dX3_isHome_1 : decode cX3_isHome 1 = .ok (.istore_n 3, 1) := yd_op_62 (i := 1) yd_by_cX3_isHome_0 rfl rfl
theorem dX3_isHome_2 : decode cX3_isHome 2 = .ok (.iload_n 3, 1) := yd_op_29 (i := 2) yd_by_cX3_isHome_0 rfl rfl
theorem dX3_isHome_3 : decode cX3_isHome 3 = .ok (.aload_n 0, 1) := yd_op_42 (i := 3) yd_by_cX3_isHome_0 rfl rfl
theorem dX3_isHome_4 : decode cX3_isHome 4 = .ok (.getfield 54, 3) := yd_op_180 (i := 4) (a := 0) (b := 54) yd_by_cX3_isHome_0 rfl rfl
theorem dX3_isHome_7 : decode cX3_isHome 7 = .ok (.if_icmp .ge 31, 3) := yd_op_162 (i := 7) (a := 0) (b := 31) yd_by_cX3_isHome_0 rfl rfl
theorem dX3_isHome_10 : decode cX3_isHome 10 = .ok (.aload_n 0, 1) := yd_op_42 (i := 10) yd_by_cX3_isHome_0 rfl rfl
theorem dX3_isHome_11 : decode cX3_isHome 11 = .ok (.getfield 18, 3) := yd_op_180 (i := 11) (a := 0) (b := 18) yd_by_cX3_isHome_0 rfl rfl
theorem dX3_isHome_14 : decode cX3_isHome 14 = .ok (.iload_n 3, 1) := yd_op_29 (i := 14) yd_by_cX3_isHome_0 rfl rfl
theorem dX3_isHome_15 : decode cX3_isHome 15 = .ok (.iaload, 1) := yd_op_46 (i := 15) yd_by_cX3_isHome_0 rfl rfl
theorem dX3_isHome_16 : decode cX3_isHome 16 = .ok (.iload_n 1, 1) := yd_op_27 (i := 16) yd_by_cX3_isHome_0 rfl rfl
theorem dX3_isHome_17 : decode cX3_isHome 17 = .ok (.if_icmp .ne 15, 3) := yd_op_160 (i := 17) (a := 0) (b := 15) yd_by_cX3_isHome_0 rfl rfl
theorem dX3_isHome_20 : decode cX3_isHome 20 = .ok (.aload_n 0, 1) := yd_op_42 (i := 20) yd_by_cX3_isHome_0 rfl rfl
theorem dX3_isHome_21 : decode cX3_isHome 21 = .ok (.getfield 21, 3) := yd_op_180 (i := 21) (a := 0) (b := 21) yd_by_cX3_isHome_0 rfl rfl
theorem dX3_isHome_24 : decode cX3_isHome 24 = .ok (.iload_n 3, 1) := yd_op_29 (i := 24) yd_by_cX3_isHome_0 rfl rfl
theorem dX3_isHome_25 : decode cX3_isHome 25 = .ok (.iaload, 1) := yd_op_46 (i := 25) yd_by_cX3_isHome_0 rfl rfl
theorem dX3_isHome_26 : decode cX3_isHome 26 = .ok (.iload_n 2, 1) := yd_op_28 (i := 26) yd_by_cX3_isHome_0 rfl rfl
theorem dX3_isHome_27 : decode cX3_isHome 27 = .ok (.if_icmp .ne 5, 3) := yd_op_160 (i := 27) (a := 0) (b := 5) yd_by_cX3_isHome_0 rfl rfl
theorem dX3_isHome_30 : decode cX3_isHome 30 = .ok (.iconst 1, 1) := yd_op_4 (i := 30) yd_by_cX3_isHome_0 rfl rfl
theorem dX3_isHome_31 : decode cX3_isHome 31 = .ok (.ireturn, 1) := yd_op_172 (i := 31) yd_by_cX3_isHome_0 rfl rfl
set_option maxRecDepth 100000 in
theorem yd_by_cX3_isHome_1 : ydk cX3_isHome 32 [132, 3, 1, 167, 255, 223, 3, 172] = true := by decide +kernel
theorem dX3_isHome_32 : decode cX3_isHome 32 = .ok (.iinc 3 1, 3) := yd_op_132 (i := 0) (a := 3) (b := 1) yd_by_cX3_isHome_1 rfl rfl
theorem dX3_isHome_35 : decode cX3_isHome 35 = .ok (.goto (-33), 3) := yd_op_167 (i := 3) (a := 255) (b := 223) yd_by_cX3_isHome_1 rfl rfl
theorem dX3_isHome_38 : decode cX3_isHome 38 = .ok (.iconst 0, 1) := yd_op_3 (i := 6) yd_by_cX3_isHome_1 rfl rfl
theorem dX3_isHome_39 : decode cX3_isHome 39 = .ok (.ireturn, 1) := yd_op_172 (i := 7) yd_by_cX3_isHome_1 rfl rfl
set_option maxRecDepth 100000 in
theorem yd_by_cX3_addPerson_0 : ydk cX3_addPerson 0 [42, 180, 0, 54, 16, 10, 162, 0, 54, 42, 180, 0, 15, 42, 180, 0, 54, 27, 79, 42, 180, 0, 18, 42, 180, 0, 54, 28, 79, 42, 180, 0, 21, 42, 180, 0, 54] = true := by decide +kernel
theorem dX3_addPerson_0 : decode cX3_addPerson 0 = .ok (.aload_n 0, 1) := yd_op_42 (i := 0) yd_by_cX3_addPerson_0 rfl rfl
theorem dX3_addPerson_1 : decode cX3_addPerson 1 = .ok (.getfield 54, 3) := yd_op_180 (i := 1) (a := 0) (b := 54) yd_by_cX3_addPerson_0 rfl rfl
theorem dX3_addPerson_4 : decode cX3_addPerson 4 = .ok (.bipush 10, 2) := yd_op_16 (i := 4) (a := 10) yd_by_cX3_addPerson_0 rfl rfl
theorem dX3_addPerson_6 : decode cX3_addPerson 6 = .ok (.if_icmp .ge 54, 3) := yd_op_162 (i := 6) (a := 0) (b := 54) yd_by_cX3_addPerson_0 rfl rfl
theorem dX3_addPerson_9 : decode cX3_addPerson 9 = .ok (.aload_n 0, 1) := yd_op_42 (i := 9) yd_by_cX3_addPerson_0 rfl rfl
theorem dX3_addPerson_10 : decode cX3_addPerson 10 = .ok (.getfield 15, 3) := yd_op_180 (i := 10) (a := 0) (b := 15) yd_by_cX3_addPerson_0 rfl rfl
theorem dX3_addPerson_13 : decode cX3_addPerson 13 = .ok (.aload_n 0, 1) := yd_op_42 (i := 13) yd_by_cX3_addPerson_0 rfl rfl
theorem dX3_addPerson_14 : decode cX3_addPerson 14 = .ok (.getfield 54, 3) := yd_op_180 (i := 14) (a := 0) (b := 54) yd_by_cX3_addPerson_0 rfl rfl
theorem dX3_addPerson_17 : decode cX3_addPerson 17 = .ok (.iload_n 1, 1) := yd_op_27 (i := 17) yd_by_cX3_addPerson_0 rfl rfl
theorem dX3_addPerson_18 : decode cX3_addPerson 18 = .ok (.iastore, 1) := yd_op_79 (i := 18) yd_by_cX3_addPerson_0 rfl rfl
theorem dX3_addPerson_19 : decode cX3_addPerson 19 = .ok (.aload_n 0, 1) := yd_op_42 (i := 19) yd_by_cX3_addPerson_0 rfl rfl
theorem dX3_addPerson_20 : decode cX3_addPerson 20 = .ok (.getfield 18, 3) := yd_op_180 (i := 20) (a := 0) (b := 18) yd_by_cX3_addPerson_0 rfl rfl
theorem dX3_addPerson_23 : decode cX3_addPerson 23 = .ok (.aload_n 0, 1) := yd_op_42 (i := 23) yd_by_cX3_addPerson_0 rfl rfl
theorem dX3_addPerson_24 : decode cX3_addPerson 24 = .ok (.getfield 54, 3) := yd_op_180 (i := 24) (a := 0) (b := 54) yd_by_cX3_addPerson_0 rfl rfl
theorem dX3_addPerson_27 : decode cX3_addPerson 27 = .ok (.iload_n 2, 1) := yd_op_28 (i := 27) yd_by_cX3_addPerson_0 rfl rfl
theorem dX3_addPerson_28 : decode cX3_addPerson 28 = .ok (.iastore, 1) := yd_op_79 (i := 28) yd_by_cX3_addPerson_0 rfl rfl
theorem dX3_addPerson_29 : decode cX3_addPerson 29 = .ok (.aload_n 0, 1) := yd_op_42 (i := 29) yd_by_cX3_addPerson_0 rfl rfl
theorem dX3_addPerson_30 : decode cX3_addPerson 30 = .ok (.getfield 21, 3) := yd_op_180 (i := 30) (a := 0) (b := 21) yd_by_cX3_addPerson_0 rfl rfl
theorem dX3_addPerson_33 : decode cX3_addPerson 33 = .ok (.aload_n 0, 1) := yd_op_42 (i := 33) yd_by_cX3_addPerson_0 rfl rfl
theorem dX3_addPerson_34 : decode cX3_addPerson 34 = .ok (.getfield 54, 3) := yd_op_180 (i := 34) (a := 0) (b := 54) yd_by_cX3_addPerson_0 rfl rfl
set_option maxRecDepth 100000 in
theorem yd_by_cX3_addPerson_1 : ydk cX3_addPerson 37 [29, 79, 42, 180, 0, 24, 42, 180, 0, 54, 21, 4, 79, 42, 89, 180, 0, 54, 4, 96, 181, 0, 54, 177] = true := by decide +kernel
theorem dX3_addPerson_37 : decode cX3_addPerson 37 = .ok (.iload_n 3, 1) := yd_op_29 (i := 0) yd_by_cX3_addPerson_1 rfl rfl
theorem dX3_addPerson_38 : decode cX3_addPerson 38 = .ok (.iastore, 1) := yd_op_79 (i := 1) yd_by_cX3_addPerson_1 rfl rfl
theorem dX3_addPerson_39 : decode cX3_addPerson 39 = .ok (.aload_n 0, 1) := yd_op_42 (i := 2) yd_by_cX3_addPerson_1 rfl rfl
theorem dX3_addPerson_40 : decode cX3_addPerson 40 = .ok (.getfield 24, 3) := yd_op_180 (i := 3) (a := 0) (b := 24) yd_by_cX3_addPerson_1 rfl rfl
theorem dX3_addPerson_43 : decode cX3_addPerson 43 = .ok (.aload_n 0, 1) := yd_op_42 (i := 6) yd_by_cX3_addPerson_1 rfl rfl
theorem dX3_addPerson_44 : decode cX3_addPerson 44 = .ok (.getfield 54, 3) := yd_op_180 (i := 7) (a := 0) (b := 54) yd_by_cX3_addPerson_1 rfl rfl
theorem dX3_addPerson_47 : decode cX3_addPerson 47 = .ok (.iload 4, 2) := yd_op_21 (i := 10) (a := 4) yd_by_cX3_addPerson_1 rfl rfl
theorem dX3_addPerson_49 : decode cX3_addPerson 49 = .ok (.iastore, 1) := yd_op_79 (i := 12) yd_by_cX3_addPerson_1 rfl rfl
theorem dX3_addPerson_50 : decode cX3_addPerson 50 = .ok (.aload_n 0, 1) := yd_op_42 (i := 13) yd_by_cX3_addPerson_1 rfl rfl
theorem dX3_addPerson_51 : decode cX3_addPerson 51 = .ok (.dup, 1) := yd_op_89 (i := 14) yd_by_cX3_addPerson_1 rfl rfl
theorem dX3_addPerson_52 : decode cX3_addPerson 52 = .ok (.getfield 54, 3) := yd_op_180 (i := 15) (a := 0) (b := 54) yd_by_cX3_addPerson_1 rfl rfl
theorem dX3_addPerson_55 : decode cX3_addPerson 55 = .ok (.iconst 1, 1) := yd_op_4 (i := 18) yd_by_cX3_addPerson_1 rfl rfl
theorem dX3_addPerson_56 : decode cX3_addPerson 56 = .ok (.iadd, 1) := yd_op_96 (i := 19) yd_by_cX3_addPerson_1 rfl rfl
theorem dX3_addPerson_57 : decode cX3_addPerson 57 = .ok (.putfield 54, 3) := yd_op_181 (i := 20) (a := 0) (b := 54) yd_by_cX3_addPerson_1 rfl rfl
theorem dX3_addPerson_60 : decode cX3_addPerson 60 = .ok (.return_, 1) := yd_op_177 (i := 23) yd_by_cX3_addPerson_1 rfl rfl
set_option maxRecDepth 100000 in
theorem yd_by_cX4_init_0 : ydk cX4_init 0 [42, 183, 0, 3, 42, 17, 6, 64, 188, 10, 181, 0, 9, 42, 3, 181, 0, 15, 177] = true := by decide +kernel
theorem dX4_init_0 : decode cX4_init 0 = .ok (.aload_n 0, 1) := yd_op_42 (i := 0) yd_by_cX4_init_0 rfl rfl
theorem dX4_init_1 : decode cX4_init 1 = .ok (.invokespecial 3, 3) := yd_op_183 (i := 1) (a := 0) (b := 3) yd_by_cX4_init_0 rfl rfl
theorem dX4_init_4 : decode cX4_init 4 = .ok (.aload_n 0, 1) := yd_op_42 (i := 4) yd_by_cX4_init_0 rfl rfl
theorem dX4_init_5 : decode cX4_init 5 = .ok (.sipush 1600, 3) := yd_op_17 (i := 5) (a := 6) (b := 64) yd_by_cX4_init_0 rfl rfl
theorem dX4_init_8 : decode cX4_init 8 = .ok (.newarray .int, 2) := yd_op_188_10 (i := 8) yd_by_cX4_init_0 rfl rfl
theorem dX4_init_10 : decode cX4_init 10 = .ok (.putfield 9, 3) := yd_op_181 (i := 10) (a := 0) (b := 9) yd_by_cX4_init_0 rfl rfl
theorem dX4_init_13 : decode cX4_init 13 = .ok (.aload_n 0, 1) := yd_op_42 (i := 13) yd_by_cX4_init_0 rfl rfl
theorem dX4_init_14 : decode cX4_init 14 = .ok (.iconst 0, 1) := yd_op_3 (i := 14) yd_by_cX4_init_0 rfl rfl
theorem dX4_init_15 : decode cX4_init 15 = .ok (.putfield 15, 3) := yd_op_181 (i := 15) (a := 0) (b := 15) yd_by_cX4_init_0 rfl rfl
theorem dX4_init_18 : decode cX4_init 18 = .ok (.return_, 1) := yd_op_177 (i := 18) yd_by_cX4_init_0 rfl rfl
set_option maxRecDepth 100000 in
theorem yd_by_cX4_addNumber_0 : ydk cX4_addNumber 0 [42, 180, 0, 15, 42, 180, 0, 9, 190, 162, 0, 23, 42, 180, 0, 9, 42, 180, 0, 15, 27, 79, 42, 89, 180, 0, 15, 4, 96, 181, 0, 15, 177] = true := by decide +kernel
theorem dX4_addNumber_0 : decode cX4_addNumber 0 = .ok (.aload_n 0, 1) := yd_op_42 (i := 0) yd_by_cX4_addNumber_0 rfl rfl
theorem dX4_addNumber_1 : decode cX4_addNumber 1 = .ok (.getfield 15, 3) := yd_op_180 (i := 1) (a := 0) (b := 15) yd_by_cX4_addNumber_0 rfl rfl
theorem dX4_addNumber_4 : decode cX4_addNumber 4 = .ok (.aload_n 0, 1) := yd_op_42 (i := 4) yd_by_cX4_addNumber_0 rfl rfl
theorem dX4_addNumber_5 : decode cX4_addNumber 5 = .ok (.getfield 9, 3) := yd_op_180 (i := 5) (a := 0) (b := 9) yd_by_cX4_addNumber_0 rfl rfl
theorem dX4_addNumber_8 : decode cX4_addNumber 8 = .ok (.arraylength, 1) := yd_op_190 (i := 8) yd_by_cX4_addNumber_0 rfl rfl
theorem dX4_addNumber_9 : decode cX4_addNumber 9 = .ok (.if_icmp .ge 23, 3) := yd_op_162 (i := 9) (a := 0) (b := 23) yd_by_cX4_addNumber_0 rfl rfl
theorem dX4_addNumber_12 : decode cX4_addNumber 12 = .ok (.aload_n 0, 1) := yd_op_42 (i := 12) yd_by_cX4_addNumber_0 rfl rfl
theorem dX4_addNumber_13 : decode cX4_addNumber 13 = .ok (.getfield 9, 3) := yd_op_180 (i := 13) (a := 0) (b := 9) yd_by_cX4_addNumber_0 rfl rfl
theorem dX4_addNumber_16 : decode cX4_addNumber 16 = .ok (.aload_n 0, 1) := yd_op_42 (i := 16) yd_by_cX4_addNumber_0 rfl rfl
theorem dX4_addNumber_17 : decode cX4_addNumber 17 = .ok (.getfield 15, 3) := yd_op_180 (i := 17) (a := 0) (b := 15) yd_by_cX4_addNumber_0 rfl rfl
theorem dX4_addNumber_20 : decode cX4_addNumber 20 = .ok (.iload_n 1, 1) := yd_op_27 (i := 20) yd_by_cX4_addNumber_0 rfl rfl
theorem dX4_addNumber_21 : decode cX4_addNumber 21 = .ok (.iastore, 1) := yd_op_79 (i := 21) yd_by_cX4_addNumber_0 rfl rfl
theorem dX4_addNumber_22 : decode cX4_addNumber 22 = .ok (.aload_n 0, 1) := yd_op_42 (i := 22) yd_by_cX4_addNumber_0 rfl rfl
theorem dX4_addNumber_23 : decode cX4_addNumber 23 = .ok (.dup, 1) := yd_op_89 (i := 23) yd_by_cX4_addNumber_0 rfl rfl
theorem dX4_addNumber_24 : decode cX4_addNumber 24 = .ok (.getfield 15, 3) := yd_op_180 (i := 24) (a := 0) (b := 15) yd_by_cX4_addNumber_0 rfl rfl
theorem dX4_addNumber_27 : decode cX4_addNumber 27 = .ok (.iconst 1, 1) := yd_op_4 (i := 27) yd_by_cX4_addNumber_0 rfl rfl
theorem dX4_addNumber_28 : decode cX4_addNumber 28 = .ok (.iadd, 1) := yd_op_96 (i := 28) yd_by_cX4_addNumber_0 rfl rfl
theorem dX4_addNumber_29 : decode cX4_addNumber 29 = .ok (.putfield 15, 3) := yd_op_181 (i := 29) (a := 0) (b := 15) yd_by_cX4_addNumber_0 rfl rfl
theorem dX4_addNumber_32 : decode cX4_addNumber 32 = .ok (.return_, 1) := yd_op_177 (i := 32) yd_by_cX4_addNumber_0 rfl rfl
set_option maxRecDepth 100000 in
theorem yd_by_cX4_addStep_0 : ydk cX4_addStep 0 [42, 27, 2, 130, 182, 0, 19, 177] = true := by decide +kernel
theorem dX4_addStep_0 : decode cX4_addStep 0 = .ok (.aload_n 0, 1) := yd_op_42 (i := 0) yd_by_cX4_addStep_0 rfl rfl
theorem dX4_addStep_1 : decode cX4_addStep 1 = .ok (.iload_n 1, 1) := yd_op_27 (i := 1) yd_by_cX4_addStep_0 rfl rfl
theorem dX4_addStep_2 : decode cX4_addStep 2 = .ok (.iconst (-1), 1) := yd_op_2 (i := 2) yd_by_cX4_addStep_0 rfl rfl
theorem dX4_addStep_3 : decode cX4_addStep 3 = .ok (.ixor, 1) := yd_op_130 (i := 3) yd_by_cX4_addStep_0 rfl rfl
theorem dX4_addStep_4 : decode cX4_addStep 4 = .ok (.invokevirtual 19, 3) := yd_op_182 (i := 4) (a := 0) (b := 19) yd_by_cX4_addStep_0 rfl rfl
theorem dX4_addStep_7 : decode cX4_addStep 7 = .ok (.return_, 1) := yd_op_177 (i := 7) yd_by_cX4_addStep_0 rfl rfl
set_option maxRecDepth 100000 in
theorem yd_by_cX4_setStep_0 : ydk cX4_setStep 0 [42, 3, 181, 0, 15, 42, 27, 182, 0, 23, 177] = true := by decide +kernel
theorem dX4_setStep_0 : decode cX4_setStep 0 = .ok (.aload_n 0, 1) := yd_op_42 (i := 0) yd_by_cX4_setStep_0 rfl rfl
theorem dX4_setStep_1 : decode cX4_setStep 1 = .ok (.iconst 0, 1) := yd_op_3 (i := 1) yd_by_cX4_setStep_0 rfl rfl
theorem dX4_setStep_2 : decode cX4_setStep 2 = .ok (.putfield 15, 3) := yd_op_181 (i := 2) (a := 0) (b := 15) yd_by_cX4_setStep_0 rfl rfl
theorem dX4_setStep_5 : decode cX4_setStep 5 = .ok (.aload_n 0, 1) := yd_op_42 (i := 5) yd_by_cX4_setStep_0 rfl rfl
theorem dX4_setStep_6 : decode cX4_setStep 6 = .ok (.iload_n 1, 1) := yd_op_27 (i := 6) yd_by_cX4_setStep_0 rfl rfl
theorem dX4_setStep_7 : decode cX4_setStep 7 = .ok (.invokevirtual 23, 3) := yd_op_182 (i := 7) (a := 0) (b := 23) yd_by_cX4_setStep_0 rfl rfl
theorem dX4_setStep_10 : decode cX4_setStep 10 = .ok (.return_, 1) := yd_op_177 (i := 10) yd_by_cX4_setStep_0 rfl rfl
set_option maxRecDepth 100000 in
theorem yd_by_cX4_hasStep_0 : ydk cX4_hasStep 0 [3, 61, 28, 42, 180, 0, 15, 162, 0, 23, 42, 180, 0, 9, 28, 46, 27, 2, 130, 160, 0, 5, 4, 172, 132, 2, 1, 167, 255, 231, 3, 172] = true := by decide +kernel
theorem dX4_hasStep_0 : decode cX4_hasStep 0 = .ok (.iconst 0, 1) := yd_op_3 (i := 0) yd_by_cX4_hasStep_0 rfl rfl
theorem dX4_hasStep_1 : decode cX4_hasStep 1 = .ok (.istore_n 2, 1) := yd_op_61 (i := 1) yd_by_cX4_hasStep_0 rfl rfl
theorem dX4_hasStep_2 : decode cX4_hasStep 2 = .ok (.iload_n 2, 1) := yd_op_28 (i := 2) yd_by_cX4_hasStep_0 rfl rfl
theorem dX4_hasStep_3 : decode cX4_hasStep 3 = .ok (.aload_n 0, 1) := yd_op_42 (i := 3) yd_by_cX4_hasStep_0 rfl rfl
theorem dX4_hasStep_4 : decode cX4_hasStep 4 = .ok (.getfield 15, 3) := yd_op_180 (i := 4) (a := 0) (b := 15) yd_by_cX4_hasStep_0 rfl rfl
theorem dX4_hasStep_7 : decode cX4_hasStep 7 = .ok (.if_icmp .ge 23, 3) := yd_op_162 (i := 7) (a := 0) (b := 23) yd_by_cX4_hasStep_0 rfl rfl
theorem dX4_hasStep_10 : decode cX4_hasStep 10 = .ok (.aload_n 0, 1) := yd_op_42 (i := 10) yd_by_cX4_hasStep_0 rfl rfl
theorem dX4_hasStep_11 : decode cX4_hasStep 11 = .ok (.getfield 9, 3) := yd_op_180 (i := 11) (a := 0) (b := 9) yd_by_cX4_hasStep_0 rfl rfl
theorem dX4_hasStep_14 : decode cX4_hasStep 14 = .ok (.iload_n 2, 1) := yd_op_28 (i := 14) yd_by_cX4_hasStep_0 rfl rfl
theorem dX4_hasStep_15 : decode cX4_hasStep 15 = .ok (.iaload, 1) := yd_op_46 (i := 15) yd_by_cX4_hasStep_0 rfl rfl
theorem dX4_hasStep_16 : decode cX4_hasStep 16 = .ok (.iload_n 1, 1) := yd_op_27 (i := 16) yd_by_cX4_hasStep_0 rfl rfl
theorem dX4_hasStep_17 : decode cX4_hasStep 17 = .ok (.iconst (-1), 1) := yd_op_2 (i := 17) yd_by_cX4_hasStep_0 rfl rfl
theorem dX4_hasStep_18 : decode cX4_hasStep 18 = .ok (.ixor, 1) := yd_op_130 (i := 18) yd_by_cX4_hasStep_0 rfl rfl
theorem dX4_hasStep_19 : decode cX4_hasStep 19 = .ok (.if_icmp .ne 5, 3) := yd_op_160 (i := 19) (a := 0) (b := 5) yd_by_cX4_hasStep_0 rfl rfl
theorem dX4_hasStep_22 : decode cX4_hasStep 22 = .ok (.iconst 1, 1) := yd_op_4 (i := 22) yd_by_cX4_hasStep_0 rfl rfl
theorem dX4_hasStep_23 : decode cX4_hasStep 23 = .ok (.ireturn, 1) := yd_op_172 (i := 23) yd_by_cX4_hasStep_0 rfl rfl
theorem dX4_hasStep_24 : decode cX4_hasStep 24 = .ok (.iinc 2 1, 3) := yd_op_132 (i := 24) (a := 2) (b := 1) yd_by_cX4_hasStep_0 rfl rfl
theorem dX4_hasStep_27 : decode cX4_hasStep 27 = .ok (.goto (-25), 3) := yd_op_167 (i := 27) (a := 255) (b := 231) yd_by_cX4_hasStep_0 rfl rfl
theorem dX4_hasStep_30 : decode cX4_hasStep 30 = .ok (.iconst 0, 1) := yd_op_3 (i := 30) yd_by_cX4_hasStep_0 rfl rfl
theorem dX4_hasStep_31 : decode cX4_hasStep 31 = .ok (.ireturn, 1) := yd_op_172 (i := 31) yd_by_cX4_hasStep_0 rfl rfl
set_option maxRecDepth 100000 in
theorem yd_by_cX5_init_0 : ydk cX5_init 0 [42, 183, 0, 3, 42, 16, 33, 188, 10, 181, 0, 9, 42, 17, 6, 65, 188, 10, 181, 0, 15, 42, 17, 6, 65, 188, 10, 181, 0, 18, 42, 17, 6, 65, 188, 10, 181, 0, 21, 42, 17, 6, 65] = true := by decide +kernel
theorem dX5_init_0 : decode cX5_init 0 = .ok (.aload_n 0, 1) := yd_op_42 (i := 0) yd_by_cX5_init_0 rfl rfl
theorem dX5_init_1 : decode cX5_init 1 = .ok (.invokespecial 3, 3) := yd_op_183 (i := 1) (a := 0) (b := 3) yd_by_cX5_init_0 rfl rfl
theorem dX5_init_4 : decode cX5_init 4 = .ok (.aload_n 0, 1) := yd_op_42 (i := 4) yd_by_cX5_init_0 rfl rfl
theorem dX5_init_5 : decode cX5_init 5 = .ok (.bipush 33, 2) := yd_op_16 (i := 5) (a := 33) yd_by_cX5_init_0 rfl rfl
theorem dX5_init_7 : decode cX5_init 7 = .ok (.newarray .int, 2) := yd_op_188_10 (i := 7) yd_by_cX5_init_0 rfl rfl
theorem dX5_init_9 : decode cX5_init 9 = .ok (.putfield 9, 3) := yd_op_181 (i := 9) (a := 0) (b := 9) yd_by_cX5_init_0 rfl rfl
theorem dX5_init_12 : decode cX5_init 12 = .ok (.aload_n 0, 1) := yd_op_42 (i := 12) yd_by_cX5_init_0 rfl rfl
theorem dX5_init_13 : decode cX5_init 13 = .ok (.sipush 1601, 3) := yd_op_17 (i := 13) (a := 6) (b := 65) yd_by_cX5_init_0 rfl rfl
theorem dX5_init_16 : decode cX5_init 16 = .ok (.newarray .int, 2) := yd_op_188_10 (i := 16) yd_by_cX5_init_0 rfl rfl
theorem dX5_init_18 : decode cX5_init 18 = .ok (.putfield 15, 3) := yd_op_181 (i := 18) (a := 0) (b := 15) yd_by_cX5_init_0 rfl rfl
theorem dX5_init_21 : decode cX5_init 21 = .ok (.aload_n 0, 1) := yd_op_42 (i := 21) yd_by_cX5_init_0 rfl rfl
theorem dX5_init_22 : decode cX5_init 22 = .ok (.sipush 1601, 3) := yd_op_17 (i := 22) (a := 6) (b := 65) yd_by_cX5_init_0 rfl rfl
theorem dX5_init_25 : decode cX5_init 25 = .ok (.newarray .int, 2) := yd_op_188_10 (i := 25) yd_by_cX5_init_0 rfl rfl
theorem dX5_init_27 : decode cX5_init 27 = .ok (.putfield 18, 3) := yd_op_181 (i := 27) (a := 0) (b := 18) yd_by_cX5_init_0 rfl rfl
theorem dX5_init_30 : decode cX5_init 30 = .ok (.aload_n 0, 1) := yd_op_42 (i := 30) yd_by_cX5_init_0 rfl rfl
theorem dX5_init_31 : decode cX5_init 31 = .ok (.sipush 1601, 3) := yd_op_17 (i := 31) (a := 6) (b := 65) yd_by_cX5_init_0 rfl rfl
theorem dX5_init_34 : decode cX5_init 34 = .ok (.newarray .int, 2) := yd_op_188_10 (i := 34) yd_by_cX5_init_0 rfl rfl
theorem dX5_init_36 : decode cX5_init 36 = .ok (.putfield 21, 3) := yd_op_181 (i := 36) (a := 0) (b := 21) yd_by_cX5_init_0 rfl rfl
theorem dX5_init_39 : decode cX5_init 39 = .ok (.aload_n 0, 1) := yd_op_42 (i := 39) yd_by_cX5_init_0 rfl rfl
theorem dX5_init_40 : decode cX5_init 40 = .ok (.sipush 1601, 3) := yd_op_17 (i := 40) (a := 6) (b := 65) yd_by_cX5_init_0 rfl rfl
set_option maxRecDepth 100000 in
theorem yd_by_cX5_init_1 : ydk cX5_init 43 [188, 10, 181, 0, 24, 42, 3, 181, 0, 27, 42, 3, 181, 0, 31, 42, 3, 181, 0, 34, 42, 2, 181, 0, 37, 3, 60, 3, 61, 3, 62] = true := by decide +kernel
theorem dX5_init_43 : decode cX5_init 43 = .ok (.newarray .int, 2) := yd_op_188_10 (i := 0) yd_by_cX5_init_1 rfl rfl
theorem dX5_init_45 : decode cX5_init 45 = .ok (.putfield 24, 3) := yd_op_181 (i := 2) (a := 0) (b := 24) yd_by_cX5_init_1 rfl rfl
theorem dX5_init_48 : decode cX5_init 48 = .ok (.aload_n 0, 1) := yd_op_42 (i := 5) yd_by_cX5_init_1 rfl rfl
theorem dX5_init_49 : decode cX5_init 49 = .ok (.iconst 0, 1) := yd_op_3 (i := 6) yd_by_cX5_init_1 rfl rfl
theorem dX5_init_50 : decode cX5_init 50 = .ok (.putfield 27, 3) := yd_op_181 (i := 7) (a := 0) (b := 27) yd_by_cX5_init_1 rfl rfl
theorem dX5_init_53 : decode cX5_init 53 = .ok (.aload_n 0, 1) := yd_op_42 (i := 10) yd_by_cX5_init_1 rfl rfl
theorem dX5_init_54 : decode cX5_init 54 = .ok (.iconst 0, 1) := yd_op_3 (i := 11) yd_by_cX5_init_1 rfl rfl
theorem dX5_init_55 : decode cX5_init 55 = .ok (.putfield 31, 3) := yd_op_181 (i := 12) (a := 0) (b := 31) yd_by_cX5_init_1 rfl rfl
theorem dX5_init_58 : decode cX5_init 58 = .ok (.aload_n 0, 1) := yd_op_42 (i := 15) yd_by_cX5_init_1 rfl rfl
theorem dX5_init_59 : decode cX5_init 59 = .ok (.iconst 0, 1) := yd_op_3 (i := 16) yd_by_cX5_init_1 rfl rfl
theorem dX5_init_60 : decode cX5_init 60 = .ok (.putfield 34, 3) := yd_op_181 (i := 17) (a := 0) (b := 34) yd_by_cX5_init_1 rfl rfl
theorem dX5_init_63 : decode cX5_init 63 = .ok (.aload_n 0, 1) := yd_op_42 (i := 20) yd_by_cX5_init_1 rfl rfl
theorem dX5_init_64 : decode cX5_init 64 = .ok (.iconst (-1), 1) := yd_op_2 (i := 21) yd_by_cX5_init_1 rfl rfl
theorem dX5_init_65 : decode cX5_init 65 = .ok (.putfield 37, 3) := yd_op_181 (i := 22) (a := 0) (b := 37) yd_by_cX5_init_1 rfl rfl
theorem dX5_init_68 : decode cX5_init 68 = .ok (.iconst 0, 1) := yd_op_3 (i := 25) yd_by_cX5_init_1 rfl rfl
theorem dX5_init_69 : decode cX5_init 69 = .ok (.istore_n 1, 1) := yd_op_60 (i := 26) yd_by_cX5_init_1 rfl rfl
theorem dX5_init_70 : decode cX5_init 70 = .ok (.iconst 0, 1) := yd_op_3 (i := 27) yd_by_cX5_init_1 rfl rfl
theorem dX5_init_71 : decode cX5_init 71 = .ok (.istore_n 2, 1) := yd_op_61 (i := 28) yd_by_cX5_init_1 rfl rfl
theorem dX5_init_72 : decode cX5_init 72 = .ok (.iconst 0, 1) := yd_op_3 (i := 29) yd_by_cX5_init_1 rfl rfl
theorem dX5_init_73 : decode cX5_init 73 = .ok (.istore_n 3, 1) := yd_op_62 (i := 30) yd_by_cX5_init_1 rfl rfl
set_option maxRecDepth 100000 in
theorem yd_by_cX5_init_2 : ydk cX5_init 74 [29, 18, 40, 182, 0, 42, 162, 0, 67, 18, 40, 29, 182, 0, 48, 54, 4, 21, 4, 16, 32, 160, 0, 11, 132, 1, 1, 3, 61, 167, 0, 38, 27, 16, 33, 162, 0, 32, 28, 16, 6] = true := by decide +kernel
theorem dX5_init_74 : decode cX5_init 74 = .ok (.iload_n 3, 1) := yd_op_29 (i := 0) yd_by_cX5_init_2 rfl rfl
theorem dX5_init_75 : decode cX5_init 75 = .ok (.ldc 40, 2) := yd_op_18 (i := 1) (a := 40) yd_by_cX5_init_2 rfl rfl
theorem dX5_init_77 : decode cX5_init 77 = .ok (.invokevirtual 42, 3) := yd_op_182 (i := 3) (a := 0) (b := 42) yd_by_cX5_init_2 rfl rfl
theorem dX5_init_80 : decode cX5_init 80 = .ok (.if_icmp .ge 67, 3) := yd_op_162 (i := 6) (a := 0) (b := 67) yd_by_cX5_init_2 rfl rfl
theorem dX5_init_83 : decode cX5_init 83 = .ok (.ldc 40, 2) := yd_op_18 (i := 9) (a := 40) yd_by_cX5_init_2 rfl rfl
theorem dX5_init_85 : decode cX5_init 85 = .ok (.iload_n 3, 1) := yd_op_29 (i := 11) yd_by_cX5_init_2 rfl rfl
theorem dX5_init_86 : decode cX5_init 86 = .ok (.invokevirtual 48, 3) := yd_op_182 (i := 12) (a := 0) (b := 48) yd_by_cX5_init_2 rfl rfl
theorem dX5_init_89 : decode cX5_init 89 = .ok (.istore 4, 2) := yd_op_54 (i := 15) (a := 4) yd_by_cX5_init_2 rfl rfl
theorem dX5_init_91 : decode cX5_init 91 = .ok (.iload 4, 2) := yd_op_21 (i := 17) (a := 4) yd_by_cX5_init_2 rfl rfl
theorem dX5_init_93 : decode cX5_init 93 = .ok (.bipush 32, 2) := yd_op_16 (i := 19) (a := 32) yd_by_cX5_init_2 rfl rfl
theorem dX5_init_95 : decode cX5_init 95 = .ok (.if_icmp .ne 11, 3) := yd_op_160 (i := 21) (a := 0) (b := 11) yd_by_cX5_init_2 rfl rfl
theorem dX5_init_98 : decode cX5_init 98 = .ok (.iinc 1 1, 3) := yd_op_132 (i := 24) (a := 1) (b := 1) yd_by_cX5_init_2 rfl rfl
theorem dX5_init_101 : decode cX5_init 101 = .ok (.iconst 0, 1) := yd_op_3 (i := 27) yd_by_cX5_init_2 rfl rfl
theorem dX5_init_102 : decode cX5_init 102 = .ok (.istore_n 2, 1) := yd_op_61 (i := 28) yd_by_cX5_init_2 rfl rfl
theorem dX5_init_103 : decode cX5_init 103 = .ok (.goto 38, 3) := yd_op_167 (i := 29) (a := 0) (b := 38) yd_by_cX5_init_2 rfl rfl
theorem dX5_init_106 : decode cX5_init 106 = .ok (.iload_n 1, 1) := yd_op_27 (i := 32) yd_by_cX5_init_2 rfl rfl
theorem dX5_init_107 : decode cX5_init 107 = .ok (.bipush 33, 2) := yd_op_16 (i := 33) (a := 33) yd_by_cX5_init_2 rfl rfl
theorem dX5_init_109 : decode cX5_init 109 = .ok (.if_icmp .ge 32, 3) := yd_op_162 (i := 35) (a := 0) (b := 32) yd_by_cX5_init_2 rfl rfl
theorem dX5_init_112 : decode cX5_init 112 = .ok (.iload_n 2, 1) := yd_op_28 (i := 38) yd_by_cX5_init_2 rfl rfl
theorem dX5_init_113 : decode cX5_init 113 = .ok (.bipush 6, 2) := yd_op_16 (i := 39) (a := 6) yd_by_cX5_init_2 rfl rfl
set_option maxRecDepth 100000 in
theorem yd_by_cX5_init_3 : ydk cX5_init 115 [162, 0, 26, 42, 180, 0, 9, 27, 92, 46, 21, 4, 16, 96, 100, 178, 0, 52, 28, 46, 104, 96, 79, 132, 2, 1, 132, 3, 1, 167, 255, 186, 177] = true := by decide +kernel
theorem dX5_init_115 : decode cX5_init 115 = .ok (.if_icmp .ge 26, 3) := yd_op_162 (i := 0) (a := 0) (b := 26) yd_by_cX5_init_3 rfl rfl
theorem dX5_init_118 : decode cX5_init 118 = .ok (.aload_n 0, 1) := yd_op_42 (i := 3) yd_by_cX5_init_3 rfl rfl
theorem dX5_init_119 : decode cX5_init 119 = .ok (.getfield 9, 3) := yd_op_180 (i := 4) (a := 0) (b := 9) yd_by_cX5_init_3 rfl rfl
theorem dX5_init_122 : decode cX5_init 122 = .ok (.iload_n 1, 1) := yd_op_27 (i := 7) yd_by_cX5_init_3 rfl rfl
theorem dX5_init_123 : decode cX5_init 123 = .ok (.dup2, 1) := yd_op_92 (i := 8) yd_by_cX5_init_3 rfl rfl
theorem dX5_init_124 : decode cX5_init 124 = .ok (.iaload, 1) := yd_op_46 (i := 9) yd_by_cX5_init_3 rfl rfl
theorem dX5_init_125 : decode cX5_init 125 = .ok (.iload 4, 2) := yd_op_21 (i := 10) (a := 4) yd_by_cX5_init_3 rfl rfl
theorem dX5_init_127 : decode cX5_init 127 = .ok (.bipush 96, 2) := yd_op_16 (i := 12) (a := 96) yd_by_cX5_init_3 rfl rfl
theorem dX5_init_129 : decode cX5_init 129 = .ok (.isub, 1) := yd_op_100 (i := 14) yd_by_cX5_init_3 rfl rfl
theorem dX5_init_130 : decode cX5_init 130 = .ok (.getstatic 52, 3) := yd_op_178 (i := 15) (a := 0) (b := 52) yd_by_cX5_init_3 rfl rfl
theorem dX5_init_133 : decode cX5_init 133 = .ok (.iload_n 2, 1) := yd_op_28 (i := 18) yd_by_cX5_init_3 rfl rfl
theorem dX5_init_134 : decode cX5_init 134 = .ok (.iaload, 1) := yd_op_46 (i := 19) yd_by_cX5_init_3 rfl rfl
theorem dX5_init_135 : decode cX5_init 135 = .ok (.imul, 1) := yd_op_104 (i := 20) yd_by_cX5_init_3 rfl rfl
theorem dX5_init_136 : decode cX5_init 136 = .ok (.iadd, 1) := yd_op_96 (i := 21) yd_by_cX5_init_3 rfl rfl
theorem dX5_init_137 : decode cX5_init 137 = .ok (.iastore, 1) := yd_op_79 (i := 22) yd_by_cX5_init_3 rfl rfl
theorem dX5_init_138 : decode cX5_init 138 = .ok (.iinc 2 1, 3) := yd_op_132 (i := 23) (a := 2) (b := 1) yd_by_cX5_init_3 rfl rfl
theorem dX5_init_141 : decode cX5_init 141 = .ok (.iinc 3 1, 3) := yd_op_132 (i := 26) (a := 3) (b := 1) yd_by_cX5_init_3 rfl rfl
theorem dX5_init_144 : decode cX5_init 144 = .ok (.goto (-70), 3) := yd_op_167 (i := 29) (a := 255) (b := 186) yd_by_cX5_init_3 rfl rfl
theorem dX5_init_147 : decode cX5_init 147 = .ok (.return_, 1) := yd_op_177 (i := 32) yd_by_cX5_init_3 rfl rfl
set_option maxRecDepth 100000 in
theorem yd_by_cX5_open_0 : ydk cX5_open 0 [42, 3, 181, 0, 34, 42, 2, 181, 0, 37, 42, 3, 181, 0, 31, 42, 3, 181, 0, 27, 3, 61, 3, 62, 29, 17, 6, 64, 162, 0, 90, 28] = true := by decide +kernel
theorem dX5_open_0 : decode cX5_open 0 = .ok (.aload_n 0, 1) := yd_op_42 (i := 0) yd_by_cX5_open_0 rfl rfl
theorem dX5_open_1 : decode cX5_open 1 = .ok (.iconst 0, 1) := yd_op_3 (i := 1) yd_by_cX5_open_0 rfl rfl
theorem dX5_open_2 : decode cX5_open 2 = .ok (.putfield 34, 3) := yd_op_181 (i := 2) (a := 0) (b := 34) yd_by_cX5_open_0 rfl rfl
theorem dX5_open_5 : decode cX5_open 5 = .ok (.aload_n 0, 1) := yd_op_42 (i := 5) yd_by_cX5_open_0 rfl rfl
theorem dX5_open_6 : decode cX5_open 6 = .ok (.iconst (-1), 1) := yd_op_2 (i := 6) yd_by_cX5_open_0 rfl rfl
theorem dX5_open_7 : decode cX5_open 7 = .ok (.putfield 37, 3) := yd_op_181 (i := 7) (a := 0) (b := 37) yd_by_cX5_open_0 rfl rfl
theorem dX5_open_10 : decode cX5_open 10 = .ok (.aload_n 0, 1) := yd_op_42 (i := 10) yd_by_cX5_open_0 rfl rfl
theorem dX5_open_11 : decode cX5_open 11 = .ok (.iconst 0, 1) := yd_op_3 (i := 11) yd_by_cX5_open_0 rfl rfl
theorem dX5_open_12 : decode cX5_open 12 = .ok (.putfield 31, 3) := yd_op_181 (i := 12) (a := 0) (b := 31) yd_by_cX5_open_0 rfl rfl
theorem dX5_open_15 : decode cX5_open 15 = .ok (.aload_n 0, 1) := yd_op_42 (i := 15) yd_by_cX5_open_0 rfl rfl
theorem dX5_open_16 : decode cX5_open 16 = .ok (.iconst 0, 1) := yd_op_3 (i := 16) yd_by_cX5_open_0 rfl rfl
theorem dX5_open_17 : decode cX5_open 17 = .ok (.putfield 27, 3) := yd_op_181 (i := 17) (a := 0) (b := 27) yd_by_cX5_open_0 rfl rfl
theorem dX5_open_20 : decode cX5_open 20 = .ok (.iconst 0, 1) := yd_op_3 (i := 20) yd_by_cX5_open_0 rfl rfl
theorem dX5_open_21 : decode cX5_open 21 = .ok (.istore_n 2, 1) := yd_op_61 (i := 21) yd_by_cX5_open_0 rfl rfl
theorem dX5_open_22 : decode cX5_open 22 = .ok (.iconst 0, 1) := yd_op_3 (i := 22) yd_by_cX5_open_0 rfl rfl
theorem dX5_open_23 : decode cX5_open 23 = .ok (.istore_n 3, 1) := yd_op_62 (i := 23) yd_by_cX5_open_0 rfl rfl
theorem dX5_open_24 : decode cX5_open 24 = .ok (.iload_n 3, 1) := yd_op_29 (i := 24) yd_by_cX5_open_0 rfl rfl
theorem dX5_open_25 : decode cX5_open 25 = .ok (.sipush 1600, 3) := yd_op_17 (i := 25) (a := 6) (b := 64) yd_by_cX5_open_0 rfl rfl
theorem dX5_open_28 : decode cX5_open 28 = .ok (.if_icmp .ge 90, 3) := yd_op_162 (i := 28) (a := 0) (b := 90) yd_by_cX5_open_0 rfl rfl
theorem dX5_open_31 : decode cX5_open 31 = .ok (.iload_n 2, 1) := yd_op_28 (i := 31) yd_by_cX5_open_0 rfl rfl
set_option maxRecDepth 100000 in
theorem yd_by_cX5_open_1 : ydk cX5_open 32 [43, 180, 0, 55, 162, 0, 82, 43, 28, 182, 0, 59, 54, 4, 21, 4, 184, 0, 63, 153, 0, 15, 28, 42, 43, 28, 182, 0, 67, 96, 61, 167, 0, 49, 21, 4, 184, 0, 71] = true := by decide +kernel
theorem dX5_open_32 : decode cX5_open 32 = .ok (.aload_n 1, 1) := yd_op_43 (i := 0) yd_by_cX5_open_1 rfl rfl
theorem dX5_open_33 : decode cX5_open 33 = .ok (.getfield 55, 3) := yd_op_180 (i := 1) (a := 0) (b := 55) yd_by_cX5_open_1 rfl rfl
theorem dX5_open_36 : decode cX5_open 36 = .ok (.if_icmp .ge 82, 3) := yd_op_162 (i := 4) (a := 0) (b := 82) yd_by_cX5_open_1 rfl rfl
theorem dX5_open_39 : decode cX5_open 39 = .ok (.aload_n 1, 1) := yd_op_43 (i := 7) yd_by_cX5_open_1 rfl rfl
theorem dX5_open_40 : decode cX5_open 40 = .ok (.iload_n 2, 1) := yd_op_28 (i := 8) yd_by_cX5_open_1 rfl rfl
theorem dX5_open_41 : decode cX5_open 41 = .ok (.invokevirtual 59, 3) := yd_op_182 (i := 9) (a := 0) (b := 59) yd_by_cX5_open_1 rfl rfl
theorem dX5_open_44 : decode cX5_open 44 = .ok (.istore 4, 2) := yd_op_54 (i := 12) (a := 4) yd_by_cX5_open_1 rfl rfl
theorem dX5_open_46 : decode cX5_open 46 = .ok (.iload 4, 2) := yd_op_21 (i := 14) (a := 4) yd_by_cX5_open_1 rfl rfl
theorem dX5_open_48 : decode cX5_open 48 = .ok (.invokestatic 63, 3) := yd_op_184 (i := 16) (a := 0) (b := 63) yd_by_cX5_open_1 rfl rfl
theorem dX5_open_51 : decode cX5_open 51 = .ok (.ifCond .eq 15, 3) := yd_op_153 (i := 19) (a := 0) (b := 15) yd_by_cX5_open_1 rfl rfl
theorem dX5_open_54 : decode cX5_open 54 = .ok (.iload_n 2, 1) := yd_op_28 (i := 22) yd_by_cX5_open_1 rfl rfl
theorem dX5_open_55 : decode cX5_open 55 = .ok (.aload_n 0, 1) := yd_op_42 (i := 23) yd_by_cX5_open_1 rfl rfl
theorem dX5_open_56 : decode cX5_open 56 = .ok (.aload_n 1, 1) := yd_op_43 (i := 24) yd_by_cX5_open_1 rfl rfl
theorem dX5_open_57 : decode cX5_open 57 = .ok (.iload_n 2, 1) := yd_op_28 (i := 25) yd_by_cX5_open_1 rfl rfl
theorem dX5_open_58 : decode cX5_open 58 = .ok (.invokevirtual 67, 3) := yd_op_182 (i := 26) (a := 0) (b := 67) yd_by_cX5_open_1 rfl rfl
theorem dX5_open_61 : decode cX5_open 61 = .ok (.iadd, 1) := yd_op_96 (i := 29) yd_by_cX5_open_1 rfl rfl
theorem dX5_open_62 : decode cX5_open 62 = .ok (.istore_n 2, 1) := yd_op_61 (i := 30) yd_by_cX5_open_1 rfl rfl
theorem dX5_open_63 : decode cX5_open 63 = .ok (.goto 49, 3) := yd_op_167 (i := 31) (a := 0) (b := 49) yd_by_cX5_open_1 rfl rfl
theorem dX5_open_66 : decode cX5_open 66 = .ok (.iload 4, 2) := yd_op_21 (i := 34) (a := 4) yd_by_cX5_open_1 rfl rfl
theorem dX5_open_68 : decode cX5_open 68 = .ok (.invokestatic 71, 3) := yd_op_184 (i := 36) (a := 0) (b := 71) yd_by_cX5_open_1 rfl rfl
set_option maxRecDepth 100000 in
theorem yd_by_cX5_open_2 : ydk cX5_open 71 [153, 0, 15, 28, 42, 43, 28, 182, 0, 74, 96, 61, 167, 0, 29, 21, 4, 16, 10, 159, 0, 19, 21, 4, 16, 32, 159, 0, 12, 42, 6, 28, 21, 4, 2] = true := by decide +kernel
theorem dX5_open_71 : decode cX5_open 71 = .ok (.ifCond .eq 15, 3) := yd_op_153 (i := 0) (a := 0) (b := 15) yd_by_cX5_open_2 rfl rfl
theorem dX5_open_74 : decode cX5_open 74 = .ok (.iload_n 2, 1) := yd_op_28 (i := 3) yd_by_cX5_open_2 rfl rfl
theorem dX5_open_75 : decode cX5_open 75 = .ok (.aload_n 0, 1) := yd_op_42 (i := 4) yd_by_cX5_open_2 rfl rfl
theorem dX5_open_76 : decode cX5_open 76 = .ok (.aload_n 1, 1) := yd_op_43 (i := 5) yd_by_cX5_open_2 rfl rfl
theorem dX5_open_77 : decode cX5_open 77 = .ok (.iload_n 2, 1) := yd_op_28 (i := 6) yd_by_cX5_open_2 rfl rfl
theorem dX5_open_78 : decode cX5_open 78 = .ok (.invokevirtual 74, 3) := yd_op_182 (i := 7) (a := 0) (b := 74) yd_by_cX5_open_2 rfl rfl
theorem dX5_open_81 : decode cX5_open 81 = .ok (.iadd, 1) := yd_op_96 (i := 10) yd_by_cX5_open_2 rfl rfl
theorem dX5_open_82 : decode cX5_open 82 = .ok (.istore_n 2, 1) := yd_op_61 (i := 11) yd_by_cX5_open_2 rfl rfl
theorem dX5_open_83 : decode cX5_open 83 = .ok (.goto 29, 3) := yd_op_167 (i := 12) (a := 0) (b := 29) yd_by_cX5_open_2 rfl rfl
theorem dX5_open_86 : decode cX5_open 86 = .ok (.iload 4, 2) := yd_op_21 (i := 15) (a := 4) yd_by_cX5_open_2 rfl rfl
theorem dX5_open_88 : decode cX5_open 88 = .ok (.bipush 10, 2) := yd_op_16 (i := 17) (a := 10) yd_by_cX5_open_2 rfl rfl
theorem dX5_open_90 : decode cX5_open 90 = .ok (.if_icmp .eq 19, 3) := yd_op_159 (i := 19) (a := 0) (b := 19) yd_by_cX5_open_2 rfl rfl
theorem dX5_open_93 : decode cX5_open 93 = .ok (.iload 4, 2) := yd_op_21 (i := 22) (a := 4) yd_by_cX5_open_2 rfl rfl
theorem dX5_open_95 : decode cX5_open 95 = .ok (.bipush 32, 2) := yd_op_16 (i := 24) (a := 32) yd_by_cX5_open_2 rfl rfl
theorem dX5_open_97 : decode cX5_open 97 = .ok (.if_icmp .eq 12, 3) := yd_op_159 (i := 26) (a := 0) (b := 12) yd_by_cX5_open_2 rfl rfl
theorem dX5_open_100 : decode cX5_open 100 = .ok (.aload_n 0, 1) := yd_op_42 (i := 29) yd_by_cX5_open_2 rfl rfl
theorem dX5_open_101 : decode cX5_open 101 = .ok (.iconst 3, 1) := yd_op_6 (i := 30) yd_by_cX5_open_2 rfl rfl
theorem dX5_open_102 : decode cX5_open 102 = .ok (.iload_n 2, 1) := yd_op_28 (i := 31) yd_by_cX5_open_2 rfl rfl
theorem dX5_open_103 : decode cX5_open 103 = .ok (.iload 4, 2) := yd_op_21 (i := 32) (a := 4) yd_by_cX5_open_2 rfl rfl
theorem dX5_open_105 : decode cX5_open 105 = .ok (.iconst (-1), 1) := yd_op_2 (i := 34) yd_by_cX5_open_2 rfl rfl
set_option maxRecDepth 100000 in
theorem yd_by_cX5_open_3 : ydk cX5_open 106 [182, 0, 77, 132, 2, 1, 132, 3, 1, 167, 255, 165, 42, 3, 28, 2, 2, 182, 0, 77, 42, 89, 180, 0, 27, 4, 100, 181, 0, 27, 177] = true := by decide +kernel
theorem dX5_open_106 : decode cX5_open 106 = .ok (.invokevirtual 77, 3) := yd_op_182 (i := 0) (a := 0) (b := 77) yd_by_cX5_open_3 rfl rfl
theorem dX5_open_109 : decode cX5_open 109 = .ok (.iinc 2 1, 3) := yd_op_132 (i := 3) (a := 2) (b := 1) yd_by_cX5_open_3 rfl rfl
theorem dX5_open_112 : decode cX5_open 112 = .ok (.iinc 3 1, 3) := yd_op_132 (i := 6) (a := 3) (b := 1) yd_by_cX5_open_3 rfl rfl
theorem dX5_open_115 : decode cX5_open 115 = .ok (.goto (-91), 3) := yd_op_167 (i := 9) (a := 255) (b := 165) yd_by_cX5_open_3 rfl rfl
theorem dX5_open_118 : decode cX5_open 118 = .ok (.aload_n 0, 1) := yd_op_42 (i := 12) yd_by_cX5_open_3 rfl rfl
theorem dX5_open_119 : decode cX5_open 119 = .ok (.iconst 0, 1) := yd_op_3 (i := 13) yd_by_cX5_open_3 rfl rfl
theorem dX5_open_120 : decode cX5_open 120 = .ok (.iload_n 2, 1) := yd_op_28 (i := 14) yd_by_cX5_open_3 rfl rfl
theorem dX5_open_121 : decode cX5_open 121 = .ok (.iconst (-1), 1) := yd_op_2 (i := 15) yd_by_cX5_open_3 rfl rfl
theorem dX5_open_122 : decode cX5_open 122 = .ok (.iconst (-1), 1) := yd_op_2 (i := 16) yd_by_cX5_open_3 rfl rfl
theorem dX5_open_123 : decode cX5_open 123 = .ok (.invokevirtual 77, 3) := yd_op_182 (i := 17) (a := 0) (b := 77) yd_by_cX5_open_3 rfl rfl
theorem dX5_open_126 : decode cX5_open 126 = .ok (.aload_n 0, 1) := yd_op_42 (i := 20) yd_by_cX5_open_3 rfl rfl
theorem dX5_open_127 : decode cX5_open 127 = .ok (.dup, 1) := yd_op_89 (i := 21) yd_by_cX5_open_3 rfl rfl
theorem dX5_open_128 : decode cX5_open 128 = .ok (.getfield 27, 3) := yd_op_180 (i := 22) (a := 0) (b := 27) yd_by_cX5_open_3 rfl rfl
theorem dX5_open_131 : decode cX5_open 131 = .ok (.iconst 1, 1) := yd_op_4 (i := 25) yd_by_cX5_open_3 rfl rfl
theorem dX5_open_132 : decode cX5_open 132 = .ok (.isub, 1) := yd_op_100 (i := 26) yd_by_cX5_open_3 rfl rfl
theorem dX5_open_133 : decode cX5_open 133 = .ok (.putfield 27, 3) := yd_op_181 (i := 27) (a := 0) (b := 27) yd_by_cX5_open_3 rfl rfl
theorem dX5_open_136 : decode cX5_open 136 = .ok (.return_, 1) := yd_op_177 (i := 30) yd_by_cX5_open_3 rfl rfl
set_option maxRecDepth 100000 in
theorem yd_by_cX5_addToken_0 : ydk cX5_addToken 0 [42, 180, 0, 27, 17, 6, 64, 163, 0, 54, 42, 180, 0, 15, 42, 180, 0, 27, 27, 79, 42, 180, 0, 18, 42, 180, 0, 27, 28, 79, 42, 180, 0, 21, 42, 180, 0, 27] = true := by decide +kernel
theorem dX5_addToken_0 : decode cX5_addToken 0 = .ok (.aload_n 0, 1) := yd_op_42 (i := 0) yd_by_cX5_addToken_0 rfl rfl
theorem dX5_addToken_1 : decode cX5_addToken 1 = .ok (.getfield 27, 3) := yd_op_180 (i := 1) (a := 0) (b := 27) yd_by_cX5_addToken_0 rfl rfl
theorem dX5_addToken_4 : decode cX5_addToken 4 = .ok (.sipush 1600, 3) := yd_op_17 (i := 4) (a := 6) (b := 64) yd_by_cX5_addToken_0 rfl rfl
theorem dX5_addToken_7 : decode cX5_addToken 7 = .ok (.if_icmp .gt 54, 3) := yd_op_163 (i := 7) (a := 0) (b := 54) yd_by_cX5_addToken_0 rfl rfl
theorem dX5_addToken_10 : decode cX5_addToken 10 = .ok (.aload_n 0, 1) := yd_op_42 (i := 10) yd_by_cX5_addToken_0 rfl rfl
theorem dX5_addToken_11 : decode cX5_addToken 11 = .ok (.getfield 15, 3) := yd_op_180 (i := 11) (a := 0) (b := 15) yd_by_cX5_addToken_0 rfl rfl
theorem dX5_addToken_14 : decode cX5_addToken 14 = .ok (.aload_n 0, 1) := yd_op_42 (i := 14) yd_by_cX5_addToken_0 rfl rfl
theorem dX5_addToken_15 : decode cX5_addToken 15 = .ok (.getfield 27, 3) := yd_op_180 (i := 15) (a := 0) (b := 27) yd_by_cX5_addToken_0 rfl rfl
theorem dX5_addToken_18 : decode cX5_addToken 18 = .ok (.iload_n 1, 1) := yd_op_27 (i := 18) yd_by_cX5_addToken_0 rfl rfl
theorem dX5_addToken_19 : decode cX5_addToken 19 = .ok (.iastore, 1) := yd_op_79 (i := 19) yd_by_cX5_addToken_0 rfl rfl
theorem dX5_addToken_20 : decode cX5_addToken 20 = .ok (.aload_n 0, 1) := yd_op_42 (i := 20) yd_by_cX5_addToken_0 rfl rfl
theorem dX5_addToken_21 : decode cX5_addToken 21 = .ok (.getfield 18, 3) := yd_op_180 (i := 21) (a := 0) (b := 18) yd_by_cX5_addToken_0 rfl rfl
theorem dX5_addToken_24 : decode cX5_addToken 24 = .ok (.aload_n 0, 1) := yd_op_42 (i := 24) yd_by_cX5_addToken_0 rfl rfl
theorem dX5_addToken_25 : decode cX5_addToken 25 = .ok (.getfield 27, 3) := yd_op_180 (i := 25) (a := 0) (b := 27) yd_by_cX5_addToken_0 rfl rfl
theorem dX5_addToken_28 : decode cX5_addToken 28 = .ok (.iload_n 2, 1) := yd_op_28 (i := 28) yd_by_cX5_addToken_0 rfl rfl
theorem dX5_addToken_29 : decode cX5_addToken 29 = .ok (.iastore, 1) := yd_op_79 (i := 29) yd_by_cX5_addToken_0 rfl rfl
theorem dX5_addToken_30 : decode cX5_addToken 30 = .ok (.aload_n 0, 1) := yd_op_42 (i := 30) yd_by_cX5_addToken_0 rfl rfl
theorem dX5_addToken_31 : decode cX5_addToken 31 = .ok (.getfield 21, 3) := yd_op_180 (i := 31) (a := 0) (b := 21) yd_by_cX5_addToken_0 rfl rfl
theorem dX5_addToken_34 : decode cX5_addToken 34 = .ok (.aload_n 0, 1) := yd_op_42 (i := 34) yd_by_cX5_addToken_0 rfl rfl
theorem dX5_addToken_35 : decode cX5_addToken 35 = .ok (.getfield 27, 3) := yd_op_180 (i := 35) (a := 0) (b := 27) yd_by_cX5_addToken_0 rfl rfl
set_option maxRecDepth 100000 in
theorem yd_by_cX5_addToken_1 : ydk cX5_addToken 38 [29, 79, 42, 180, 0, 24, 42, 180, 0, 27, 21, 4, 79, 42, 89, 180, 0, 27, 4, 96, 181, 0, 27, 177] = true := by decide +kernel
theorem dX5_addToken_38 : decode cX5_addToken 38 = .ok (.iload_n 3, 1) := yd_op_29 (i := 0) yd_by_cX5_addToken_1 rfl rfl
theorem dX5_addToken_39 : decode cX5_addToken 39 = .ok (.iastore, 1) := yd_op_79 (i := 1) yd_by_cX5_addToken_1 rfl rfl
theorem dX5_addToken_40 : decode cX5_addToken 40 = .ok (.aload_n 0, 1) := yd_op_42 (i := 2) yd_by_cX5_addToken_1 rfl rfl
theorem dX5_addToken_41 : decode cX5_addToken 41 = .ok (.getfield 24, 3) := yd_op_180 (i := 3) (a := 0) (b := 24) yd_by_cX5_addToken_1 rfl rfl
theorem dX5_addToken_44 : decode cX5_addToken 44 = .ok (.aload_n 0, 1) := yd_op_42 (i := 6) yd_by_cX5_addToken_1 rfl rfl
theorem dX5_addToken_45 : decode cX5_addToken 45 = .ok (.getfield 27, 3) := yd_op_180 (i := 7) (a := 0) (b := 27) yd_by_cX5_addToken_1 rfl rfl
theorem dX5_addToken_48 : decode cX5_addToken 48 = .ok (.iload 4, 2) := yd_op_21 (i := 10) (a := 4) yd_by_cX5_addToken_1 rfl rfl
theorem dX5_addToken_50 : decode cX5_addToken 50 = .ok (.iastore, 1) := yd_op_79 (i := 12) yd_by_cX5_addToken_1 rfl rfl
theorem dX5_addToken_51 : decode cX5_addToken 51 = .ok (.aload_n 0, 1) := yd_op_42 (i := 13) yd_by_cX5_addToken_1 rfl rfl
theorem dX5_addToken_52 : decode cX5_addToken 52 = .ok (.dup, 1) := yd_op_89 (i := 14) yd_by_cX5_addToken_1 rfl rfl
theorem dX5_addToken_53 : decode cX5_addToken 53 = .ok (.getfield 27, 3) := yd_op_180 (i := 15) (a := 0) (b := 27) yd_by_cX5_addToken_1 rfl rfl
theorem dX5_addToken_56 : decode cX5_addToken 56 = .ok (.iconst 1, 1) := yd_op_4 (i := 18) yd_by_cX5_addToken_1 rfl rfl
theorem dX5_addToken_57 : decode cX5_addToken 57 = .ok (.iadd, 1) := yd_op_96 (i := 19) yd_by_cX5_addToken_1 rfl rfl
theorem dX5_addToken_58 : decode cX5_addToken 58 = .ok (.putfield 27, 3) := yd_op_181 (i := 20) (a := 0) (b := 27) yd_by_cX5_addToken_1 rfl rfl
theorem dX5_addToken_61 : decode cX5_addToken 61 = .ok (.return_, 1) := yd_op_177 (i := 23) yd_by_cX5_addToken_1 rfl rfl
set_option maxRecDepth 100000 in
theorem yd_by_cX5_cutWord_0 : ydk cX5_cutWord 0 [3, 62, 3, 54, 4, 28, 54, 5, 21, 5, 43, 180, 0, 55, 162, 0, 50, 43, 21, 5, 182, 0, 59, 184, 0, 63, 153, 0, 38, 29, 16, 6, 162, 0, 23, 21, 4, 43] = true := by decide +kernel
theorem dX5_cutWord_0 : decode cX5_cutWord 0 = .ok (.iconst 0, 1) := yd_op_3 (i := 0) yd_by_cX5_cutWord_0 rfl rfl
theorem dX5_cutWord_1 : decode cX5_cutWord 1 = .ok (.istore_n 3, 1) := yd_op_62 (i := 1) yd_by_cX5_cutWord_0 rfl rfl
theorem dX5_cutWord_2 : decode cX5_cutWord 2 = .ok (.iconst 0, 1) := yd_op_3 (i := 2) yd_by_cX5_cutWord_0 rfl rfl
theorem dX5_cutWord_3 : decode cX5_cutWord 3 = .ok (.istore 4, 2) := yd_op_54 (i := 3) (a := 4) yd_by_cX5_cutWord_0 rfl rfl
theorem dX5_cutWord_5 : decode cX5_cutWord 5 = .ok (.iload_n 2, 1) := yd_op_28 (i := 5) yd_by_cX5_cutWord_0 rfl rfl
theorem dX5_cutWord_6 : decode cX5_cutWord 6 = .ok (.istore 5, 2) := yd_op_54 (i := 6) (a := 5) yd_by_cX5_cutWord_0 rfl rfl
theorem dX5_cutWord_8 : decode cX5_cutWord 8 = .ok (.iload 5, 2) := yd_op_21 (i := 8) (a := 5) yd_by_cX5_cutWord_0 rfl rfl
theorem dX5_cutWord_10 : decode cX5_cutWord 10 = .ok (.aload_n 1, 1) := yd_op_43 (i := 10) yd_by_cX5_cutWord_0 rfl rfl
theorem dX5_cutWord_11 : decode cX5_cutWord 11 = .ok (.getfield 55, 3) := yd_op_180 (i := 11) (a := 0) (b := 55) yd_by_cX5_cutWord_0 rfl rfl
theorem dX5_cutWord_14 : decode cX5_cutWord 14 = .ok (.if_icmp .ge 50, 3) := yd_op_162 (i := 14) (a := 0) (b := 50) yd_by_cX5_cutWord_0 rfl rfl
theorem dX5_cutWord_17 : decode cX5_cutWord 17 = .ok (.aload_n 1, 1) := yd_op_43 (i := 17) yd_by_cX5_cutWord_0 rfl rfl
theorem dX5_cutWord_18 : decode cX5_cutWord 18 = .ok (.iload 5, 2) := yd_op_21 (i := 18) (a := 5) yd_by_cX5_cutWord_0 rfl rfl
theorem dX5_cutWord_20 : decode cX5_cutWord 20 = .ok (.invokevirtual 59, 3) := yd_op_182 (i := 20) (a := 0) (b := 59) yd_by_cX5_cutWord_0 rfl rfl
theorem dX5_cutWord_23 : decode cX5_cutWord 23 = .ok (.invokestatic 63, 3) := yd_op_184 (i := 23) (a := 0) (b := 63) yd_by_cX5_cutWord_0 rfl rfl
theorem dX5_cutWord_26 : decode cX5_cutWord 26 = .ok (.ifCond .eq 38, 3) := yd_op_153 (i := 26) (a := 0) (b := 38) yd_by_cX5_cutWord_0 rfl rfl
theorem dX5_cutWord_29 : decode cX5_cutWord 29 = .ok (.iload_n 3, 1) := yd_op_29 (i := 29) yd_by_cX5_cutWord_0 rfl rfl
theorem dX5_cutWord_30 : decode cX5_cutWord 30 = .ok (.bipush 6, 2) := yd_op_16 (i := 30) (a := 6) yd_by_cX5_cutWord_0 rfl rfl
theorem dX5_cutWord_32 : decode cX5_cutWord 32 = .ok (.if_icmp .ge 23, 3) := yd_op_162 (i := 32) (a := 0) (b := 23) yd_by_cX5_cutWord_0 rfl rfl
theorem dX5_cutWord_35 : decode cX5_cutWord 35 = .ok (.iload 4, 2) := yd_op_21 (i := 35) (a := 4) yd_by_cX5_cutWord_0 rfl rfl
theorem dX5_cutWord_37 : decode cX5_cutWord 37 = .ok (.aload_n 1, 1) := yd_op_43 (i := 37) yd_by_cX5_cutWord_0 rfl rfl
set_option maxRecDepth 100000 in
theorem yd_by_cX5_cutWord_1 : ydk cX5_cutWord 38 [21, 5, 182, 0, 59, 16, 96, 100, 178, 0, 52, 29, 46, 104, 96, 54, 4, 132, 3, 1, 132, 5, 1, 167, 255, 203, 43, 28, 4, 100, 182, 0, 59, 184, 0, 71, 153, 0, 15] = true := by decide +kernel
theorem dX5_cutWord_38 : decode cX5_cutWord 38 = .ok (.iload 5, 2) := yd_op_21 (i := 0) (a := 5) yd_by_cX5_cutWord_1 rfl rfl
theorem dX5_cutWord_40 : decode cX5_cutWord 40 = .ok (.invokevirtual 59, 3) := yd_op_182 (i := 2) (a := 0) (b := 59) yd_by_cX5_cutWord_1 rfl rfl
theorem dX5_cutWord_43 : decode cX5_cutWord 43 = .ok (.bipush 96, 2) := yd_op_16 (i := 5) (a := 96) yd_by_cX5_cutWord_1 rfl rfl
theorem dX5_cutWord_45 : decode cX5_cutWord 45 = .ok (.isub, 1) := yd_op_100 (i := 7) yd_by_cX5_cutWord_1 rfl rfl
theorem dX5_cutWord_46 : decode cX5_cutWord 46 = .ok (.getstatic 52, 3) := yd_op_178 (i := 8) (a := 0) (b := 52) yd_by_cX5_cutWord_1 rfl rfl
theorem dX5_cutWord_49 : decode cX5_cutWord 49 = .ok (.iload_n 3, 1) := yd_op_29 (i := 11) yd_by_cX5_cutWord_1 rfl rfl
theorem dX5_cutWord_50 : decode cX5_cutWord 50 = .ok (.iaload, 1) := yd_op_46 (i := 12) yd_by_cX5_cutWord_1 rfl rfl
theorem dX5_cutWord_51 : decode cX5_cutWord 51 = .ok (.imul, 1) := yd_op_104 (i := 13) yd_by_cX5_cutWord_1 rfl rfl
theorem dX5_cutWord_52 : decode cX5_cutWord 52 = .ok (.iadd, 1) := yd_op_96 (i := 14) yd_by_cX5_cutWord_1 rfl rfl
theorem dX5_cutWord_53 : decode cX5_cutWord 53 = .ok (.istore 4, 2) := yd_op_54 (i := 15) (a := 4) yd_by_cX5_cutWord_1 rfl rfl
theorem dX5_cutWord_55 : decode cX5_cutWord 55 = .ok (.iinc 3 1, 3) := yd_op_132 (i := 17) (a := 3) (b := 1) yd_by_cX5_cutWord_1 rfl rfl
theorem dX5_cutWord_58 : decode cX5_cutWord 58 = .ok (.iinc 5 1, 3) := yd_op_132 (i := 20) (a := 5) (b := 1) yd_by_cX5_cutWord_1 rfl rfl
theorem dX5_cutWord_61 : decode cX5_cutWord 61 = .ok (.goto (-53), 3) := yd_op_167 (i := 23) (a := 255) (b := 203) yd_by_cX5_cutWord_1 rfl rfl
theorem dX5_cutWord_64 : decode cX5_cutWord 64 = .ok (.aload_n 1, 1) := yd_op_43 (i := 26) yd_by_cX5_cutWord_1 rfl rfl
theorem dX5_cutWord_65 : decode cX5_cutWord 65 = .ok (.iload_n 2, 1) := yd_op_28 (i := 27) yd_by_cX5_cutWord_1 rfl rfl
theorem dX5_cutWord_66 : decode cX5_cutWord 66 = .ok (.iconst 1, 1) := yd_op_4 (i := 28) yd_by_cX5_cutWord_1 rfl rfl
theorem dX5_cutWord_67 : decode cX5_cutWord 67 = .ok (.isub, 1) := yd_op_100 (i := 29) yd_by_cX5_cutWord_1 rfl rfl
theorem dX5_cutWord_68 : decode cX5_cutWord 68 = .ok (.invokevirtual 59, 3) := yd_op_182 (i := 30) (a := 0) (b := 59) yd_by_cX5_cutWord_1 rfl rfl
theorem dX5_cutWord_71 : decode cX5_cutWord 71 = .ok (.invokestatic 71, 3) := yd_op_184 (i := 33) (a := 0) (b := 71) yd_by_cX5_cutWord_1 rfl rfl
theorem dX5_cutWord_74 : decode cX5_cutWord 74 = .ok (.ifCond .eq 15, 3) := yd_op_153 (i := 36) (a := 0) (b := 15) yd_by_cX5_cutWord_1 rfl rfl
set_option maxRecDepth 100000 in
theorem yd_by_cX5_cutWord_2 : ydk cX5_cutWord 77 [42, 16, 6, 28, 2, 2, 182, 0, 77, 167, 0, 35, 29, 16, 6, 164, 0, 15, 42, 7, 28, 21, 4, 2, 182, 0, 77, 167, 0, 17, 42, 4, 28] = true := by decide +kernel
theorem dX5_cutWord_77 : decode cX5_cutWord 77 = .ok (.aload_n 0, 1) := yd_op_42 (i := 0) yd_by_cX5_cutWord_2 rfl rfl
theorem dX5_cutWord_78 : decode cX5_cutWord 78 = .ok (.bipush 6, 2) := yd_op_16 (i := 1) (a := 6) yd_by_cX5_cutWord_2 rfl rfl
theorem dX5_cutWord_80 : decode cX5_cutWord 80 = .ok (.iload_n 2, 1) := yd_op_28 (i := 3) yd_by_cX5_cutWord_2 rfl rfl
theorem dX5_cutWord_81 : decode cX5_cutWord 81 = .ok (.iconst (-1), 1) := yd_op_2 (i := 4) yd_by_cX5_cutWord_2 rfl rfl
theorem dX5_cutWord_82 : decode cX5_cutWord 82 = .ok (.iconst (-1), 1) := yd_op_2 (i := 5) yd_by_cX5_cutWord_2 rfl rfl
theorem dX5_cutWord_83 : decode cX5_cutWord 83 = .ok (.invokevirtual 77, 3) := yd_op_182 (i := 6) (a := 0) (b := 77) yd_by_cX5_cutWord_2 rfl rfl
theorem dX5_cutWord_86 : decode cX5_cutWord 86 = .ok (.goto 35, 3) := yd_op_167 (i := 9) (a := 0) (b := 35) yd_by_cX5_cutWord_2 rfl rfl
theorem dX5_cutWord_89 : decode cX5_cutWord 89 = .ok (.iload_n 3, 1) := yd_op_29 (i := 12) yd_by_cX5_cutWord_2 rfl rfl
theorem dX5_cutWord_90 : decode cX5_cutWord 90 = .ok (.bipush 6, 2) := yd_op_16 (i := 13) (a := 6) yd_by_cX5_cutWord_2 rfl rfl
theorem dX5_cutWord_92 : decode cX5_cutWord 92 = .ok (.if_icmp .le 15, 3) := yd_op_164 (i := 15) (a := 0) (b := 15) yd_by_cX5_cutWord_2 rfl rfl
theorem dX5_cutWord_95 : decode cX5_cutWord 95 = .ok (.aload_n 0, 1) := yd_op_42 (i := 18) yd_by_cX5_cutWord_2 rfl rfl
theorem dX5_cutWord_96 : decode cX5_cutWord 96 = .ok (.iconst 4, 1) := yd_op_7 (i := 19) yd_by_cX5_cutWord_2 rfl rfl
theorem dX5_cutWord_97 : decode cX5_cutWord 97 = .ok (.iload_n 2, 1) := yd_op_28 (i := 20) yd_by_cX5_cutWord_2 rfl rfl
theorem dX5_cutWord_98 : decode cX5_cutWord 98 = .ok (.iload 4, 2) := yd_op_21 (i := 21) (a := 4) yd_by_cX5_cutWord_2 rfl rfl
theorem dX5_cutWord_100 : decode cX5_cutWord 100 = .ok (.iconst (-1), 1) := yd_op_2 (i := 23) yd_by_cX5_cutWord_2 rfl rfl
theorem dX5_cutWord_101 : decode cX5_cutWord 101 = .ok (.invokevirtual 77, 3) := yd_op_182 (i := 24) (a := 0) (b := 77) yd_by_cX5_cutWord_2 rfl rfl
theorem dX5_cutWord_104 : decode cX5_cutWord 104 = .ok (.goto 17, 3) := yd_op_167 (i := 27) (a := 0) (b := 17) yd_by_cX5_cutWord_2 rfl rfl
theorem dX5_cutWord_107 : decode cX5_cutWord 107 = .ok (.aload_n 0, 1) := yd_op_42 (i := 30) yd_by_cX5_cutWord_2 rfl rfl
theorem dX5_cutWord_108 : decode cX5_cutWord 108 = .ok (.iconst 1, 1) := yd_op_4 (i := 31) yd_by_cX5_cutWord_2 rfl rfl
theorem dX5_cutWord_109 : decode cX5_cutWord 109 = .ok (.iload_n 2, 1) := yd_op_28 (i := 32) yd_by_cX5_cutWord_2 rfl rfl
set_option maxRecDepth 100000 in
theorem yd_by_cX5_cutWord_3 : ydk cX5_cutWord 110 [21, 4, 42, 21, 4, 182, 0, 81, 182, 0, 77, 29, 172] = true := by decide +kernel
theorem dX5_cutWord_110 : decode cX5_cutWord 110 = .ok (.iload 4, 2) := yd_op_21 (i := 0) (a := 4) yd_by_cX5_cutWord_3 rfl rfl
theorem dX5_cutWord_112 : decode cX5_cutWord 112 = .ok (.aload_n 0, 1) := yd_op_42 (i := 2) yd_by_cX5_cutWord_3 rfl rfl
theorem dX5_cutWord_113 : decode cX5_cutWord 113 = .ok (.iload 4, 2) := yd_op_21 (i := 3) (a := 4) yd_by_cX5_cutWord_3 rfl rfl
theorem dX5_cutWord_115 : decode cX5_cutWord 115 = .ok (.invokevirtual 81, 3) := yd_op_182 (i := 5) (a := 0) (b := 81) yd_by_cX5_cutWord_3 rfl rfl
theorem dX5_cutWord_118 : decode cX5_cutWord 118 = .ok (.invokevirtual 77, 3) := yd_op_182 (i := 8) (a := 0) (b := 77) yd_by_cX5_cutWord_3 rfl rfl
theorem dX5_cutWord_121 : decode cX5_cutWord 121 = .ok (.iload_n 3, 1) := yd_op_29 (i := 11) yd_by_cX5_cutWord_3 rfl rfl
theorem dX5_cutWord_122 : decode cX5_cutWord 122 = .ok (.ireturn, 1) := yd_op_172 (i := 12) yd_by_cX5_cutWord_3 rfl rfl
set_option maxRecDepth 100000 in
theorem yd_by_cX5_cutNumber_0 : ydk cX5_cutNumber 0 [3, 62, 3, 54, 4, 28, 54, 5, 21, 5, 43, 180, 0, 55, 162, 0, 46, 43, 21, 5, 182, 0, 59, 184, 0, 71, 153, 0, 34, 29, 7, 162, 0, 20, 21, 4, 16, 10] = true := by decide +kernel
theorem dX5_cutNumber_0 : decode cX5_cutNumber 0 = .ok (.iconst 0, 1) := yd_op_3 (i := 0) yd_by_cX5_cutNumber_0 rfl rfl
theorem dX5_cutNumber_1 : decode cX5_cutNumber 1 = .ok (.istore_n 3, 1) := yd_op_62 (i := 1) yd_by_cX5_cutNumber_0 rfl rfl
theorem dX5_cutNumber_2 : decode cX5_cutNumber 2 = .ok (.iconst 0, 1) := yd_op_3 (i := 2) yd_by_cX5_cutNumber_0 rfl rfl
theorem dX5_cutNumber_3 : decode cX5_cutNumber 3 = .ok (.istore 4, 2) := yd_op_54 (i := 3) (a := 4) yd_by_cX5_cutNumber_0 rfl rfl
theorem dX5_cutNumber_5 : decode cX5_cutNumber 5 = .ok (.iload_n 2, 1) := yd_op_28 (i := 5) yd_by_cX5_cutNumber_0 rfl rfl
theorem dX5_cutNumber_6 : decode cX5_cutNumber 6 = .ok (.istore 5, 2) := yd_op_54 (i := 6) (a := 5) yd_by_cX5_cutNumber_0 rfl rfl
theorem dX5_cutNumber_8 : decode cX5_cutNumber 8 = .ok (.iload 5, 2) := yd_op_21 (i := 8) (a := 5) yd_by_cX5_cutNumber_0 rfl rfl
theorem dX5_cutNumber_10 : decode cX5_cutNumber 10 = .ok (.aload_n 1, 1) := yd_op_43 (i := 10) yd_by_cX5_cutNumber_0 rfl rfl
theorem dX5_cutNumber_11 : decode cX5_cutNumber 11 = .ok (.getfield 55, 3) := yd_op_180 (i := 11) (a := 0) (b := 55) yd_by_cX5_cutNumber_0 rfl rfl
theorem dX5_cutNumber_14 : decode cX5_cutNumber 14 = .ok (.if_icmp .ge 46, 3) := yd_op_162 (i := 14) (a := 0) (b := 46) yd_by_cX5_cutNumber_0 rfl rfl
theorem dX5_cutNumber_17 : decode cX5_cutNumber 17 = .ok (.aload_n 1, 1) := yd_op_43 (i := 17) yd_by_cX5_cutNumber_0 rfl rfl
theorem dX5_cutNumber_18 : decode cX5_cutNumber 18 = .ok (.iload 5, 2) := yd_op_21 (i := 18) (a := 5) yd_by_cX5_cutNumber_0 rfl rfl
theorem dX5_cutNumber_20 : decode cX5_cutNumber 20 = .ok (.invokevirtual 59, 3) := yd_op_182 (i := 20) (a := 0) (b := 59) yd_by_cX5_cutNumber_0 rfl rfl
theorem dX5_cutNumber_23 : decode cX5_cutNumber 23 = .ok (.invokestatic 71, 3) := yd_op_184 (i := 23) (a := 0) (b := 71) yd_by_cX5_cutNumber_0 rfl rfl
theorem dX5_cutNumber_26 : decode cX5_cutNumber 26 = .ok (.ifCond .eq 34, 3) := yd_op_153 (i := 26) (a := 0) (b := 34) yd_by_cX5_cutNumber_0 rfl rfl
theorem dX5_cutNumber_29 : decode cX5_cutNumber 29 = .ok (.iload_n 3, 1) := yd_op_29 (i := 29) yd_by_cX5_cutNumber_0 rfl rfl
theorem dX5_cutNumber_30 : decode cX5_cutNumber 30 = .ok (.iconst 4, 1) := yd_op_7 (i := 30) yd_by_cX5_cutNumber_0 rfl rfl
theorem dX5_cutNumber_31 : decode cX5_cutNumber 31 = .ok (.if_icmp .ge 20, 3) := yd_op_162 (i := 31) (a := 0) (b := 20) yd_by_cX5_cutNumber_0 rfl rfl
theorem dX5_cutNumber_34 : decode cX5_cutNumber 34 = .ok (.iload 4, 2) := yd_op_21 (i := 34) (a := 4) yd_by_cX5_cutNumber_0 rfl rfl
theorem dX5_cutNumber_36 : decode cX5_cutNumber 36 = .ok (.bipush 10, 2) := yd_op_16 (i := 36) (a := 10) yd_by_cX5_cutNumber_0 rfl rfl
set_option maxRecDepth 100000 in
theorem yd_by_cX5_cutNumber_1 : ydk cX5_cutNumber 38 [104, 43, 21, 5, 182, 0, 59, 96, 16, 48, 100, 54, 4, 132, 3, 1, 132, 5, 1, 167, 255, 207, 43, 28, 4, 100, 182, 0, 59, 184, 0, 63, 153, 0, 15, 42, 16, 6] = true := by decide +kernel
theorem dX5_cutNumber_38 : decode cX5_cutNumber 38 = .ok (.imul, 1) := yd_op_104 (i := 0) yd_by_cX5_cutNumber_1 rfl rfl
theorem dX5_cutNumber_39 : decode cX5_cutNumber 39 = .ok (.aload_n 1, 1) := yd_op_43 (i := 1) yd_by_cX5_cutNumber_1 rfl rfl
theorem dX5_cutNumber_40 : decode cX5_cutNumber 40 = .ok (.iload 5, 2) := yd_op_21 (i := 2) (a := 5) yd_by_cX5_cutNumber_1 rfl rfl
theorem dX5_cutNumber_42 : decode cX5_cutNumber 42 = .ok (.invokevirtual 59, 3) := yd_op_182 (i := 4) (a := 0) (b := 59) yd_by_cX5_cutNumber_1 rfl rfl
theorem dX5_cutNumber_45 : decode cX5_cutNumber 45 = .ok (.iadd, 1) := yd_op_96 (i := 7) yd_by_cX5_cutNumber_1 rfl rfl
theorem dX5_cutNumber_46 : decode cX5_cutNumber 46 = .ok (.bipush 48, 2) := yd_op_16 (i := 8) (a := 48) yd_by_cX5_cutNumber_1 rfl rfl
theorem dX5_cutNumber_48 : decode cX5_cutNumber 48 = .ok (.isub, 1) := yd_op_100 (i := 10) yd_by_cX5_cutNumber_1 rfl rfl
theorem dX5_cutNumber_49 : decode cX5_cutNumber 49 = .ok (.istore 4, 2) := yd_op_54 (i := 11) (a := 4) yd_by_cX5_cutNumber_1 rfl rfl
theorem dX5_cutNumber_51 : decode cX5_cutNumber 51 = .ok (.iinc 3 1, 3) := yd_op_132 (i := 13) (a := 3) (b := 1) yd_by_cX5_cutNumber_1 rfl rfl
theorem dX5_cutNumber_54 : decode cX5_cutNumber 54 = .ok (.iinc 5 1, 3) := yd_op_132 (i := 16) (a := 5) (b := 1) yd_by_cX5_cutNumber_1 rfl rfl
theorem dX5_cutNumber_57 : decode cX5_cutNumber 57 = .ok (.goto (-49), 3) := yd_op_167 (i := 19) (a := 255) (b := 207) yd_by_cX5_cutNumber_1 rfl rfl
theorem dX5_cutNumber_60 : decode cX5_cutNumber 60 = .ok (.aload_n 1, 1) := yd_op_43 (i := 22) yd_by_cX5_cutNumber_1 rfl rfl
theorem dX5_cutNumber_61 : decode cX5_cutNumber 61 = .ok (.iload_n 2, 1) := yd_op_28 (i := 23) yd_by_cX5_cutNumber_1 rfl rfl
theorem dX5_cutNumber_62 : decode cX5_cutNumber 62 = .ok (.iconst 1, 1) := yd_op_4 (i := 24) yd_by_cX5_cutNumber_1 rfl rfl
theorem dX5_cutNumber_63 : decode cX5_cutNumber 63 = .ok (.isub, 1) := yd_op_100 (i := 25) yd_by_cX5_cutNumber_1 rfl rfl
theorem dX5_cutNumber_64 : decode cX5_cutNumber 64 = .ok (.invokevirtual 59, 3) := yd_op_182 (i := 26) (a := 0) (b := 59) yd_by_cX5_cutNumber_1 rfl rfl
theorem dX5_cutNumber_67 : decode cX5_cutNumber 67 = .ok (.invokestatic 63, 3) := yd_op_184 (i := 29) (a := 0) (b := 63) yd_by_cX5_cutNumber_1 rfl rfl
theorem dX5_cutNumber_70 : decode cX5_cutNumber 70 = .ok (.ifCond .eq 15, 3) := yd_op_153 (i := 32) (a := 0) (b := 15) yd_by_cX5_cutNumber_1 rfl rfl
theorem dX5_cutNumber_73 : decode cX5_cutNumber 73 = .ok (.aload_n 0, 1) := yd_op_42 (i := 35) yd_by_cX5_cutNumber_1 rfl rfl
theorem dX5_cutNumber_74 : decode cX5_cutNumber 74 = .ok (.bipush 6, 2) := yd_op_16 (i := 36) (a := 6) yd_by_cX5_cutNumber_1 rfl rfl
set_option maxRecDepth 100000 in
theorem yd_by_cX5_cutNumber_2 : ydk cX5_cutNumber 76 [28, 2, 2, 182, 0, 77, 167, 0, 21, 42, 29, 7, 164, 0, 7, 8, 167, 0, 4, 5, 28, 21, 4, 2, 182, 0, 77, 29, 172] = true := by decide +kernel
theorem dX5_cutNumber_76 : decode cX5_cutNumber 76 = .ok (.iload_n 2, 1) := yd_op_28 (i := 0) yd_by_cX5_cutNumber_2 rfl rfl
theorem dX5_cutNumber_77 : decode cX5_cutNumber 77 = .ok (.iconst (-1), 1) := yd_op_2 (i := 1) yd_by_cX5_cutNumber_2 rfl rfl
theorem dX5_cutNumber_78 : decode cX5_cutNumber 78 = .ok (.iconst (-1), 1) := yd_op_2 (i := 2) yd_by_cX5_cutNumber_2 rfl rfl
theorem dX5_cutNumber_79 : decode cX5_cutNumber 79 = .ok (.invokevirtual 77, 3) := yd_op_182 (i := 3) (a := 0) (b := 77) yd_by_cX5_cutNumber_2 rfl rfl
theorem dX5_cutNumber_82 : decode cX5_cutNumber 82 = .ok (.goto 21, 3) := yd_op_167 (i := 6) (a := 0) (b := 21) yd_by_cX5_cutNumber_2 rfl rfl
theorem dX5_cutNumber_85 : decode cX5_cutNumber 85 = .ok (.aload_n 0, 1) := yd_op_42 (i := 9) yd_by_cX5_cutNumber_2 rfl rfl
theorem dX5_cutNumber_86 : decode cX5_cutNumber 86 = .ok (.iload_n 3, 1) := yd_op_29 (i := 10) yd_by_cX5_cutNumber_2 rfl rfl
theorem dX5_cutNumber_87 : decode cX5_cutNumber 87 = .ok (.iconst 4, 1) := yd_op_7 (i := 11) yd_by_cX5_cutNumber_2 rfl rfl
theorem dX5_cutNumber_88 : decode cX5_cutNumber 88 = .ok (.if_icmp .le 7, 3) := yd_op_164 (i := 12) (a := 0) (b := 7) yd_by_cX5_cutNumber_2 rfl rfl
theorem dX5_cutNumber_91 : decode cX5_cutNumber 91 = .ok (.iconst 5, 1) := yd_op_8 (i := 15) yd_by_cX5_cutNumber_2 rfl rfl
theorem dX5_cutNumber_92 : decode cX5_cutNumber 92 = .ok (.goto 4, 3) := yd_op_167 (i := 16) (a := 0) (b := 4) yd_by_cX5_cutNumber_2 rfl rfl
theorem dX5_cutNumber_95 : decode cX5_cutNumber 95 = .ok (.iconst 2, 1) := yd_op_5 (i := 19) yd_by_cX5_cutNumber_2 rfl rfl
theorem dX5_cutNumber_96 : decode cX5_cutNumber 96 = .ok (.iload_n 2, 1) := yd_op_28 (i := 20) yd_by_cX5_cutNumber_2 rfl rfl
theorem dX5_cutNumber_97 : decode cX5_cutNumber 97 = .ok (.iload 4, 2) := yd_op_21 (i := 21) (a := 4) yd_by_cX5_cutNumber_2 rfl rfl
theorem dX5_cutNumber_99 : decode cX5_cutNumber 99 = .ok (.iconst (-1), 1) := yd_op_2 (i := 23) yd_by_cX5_cutNumber_2 rfl rfl
theorem dX5_cutNumber_100 : decode cX5_cutNumber 100 = .ok (.invokevirtual 77, 3) := yd_op_182 (i := 24) (a := 0) (b := 77) yd_by_cX5_cutNumber_2 rfl rfl
theorem dX5_cutNumber_103 : decode cX5_cutNumber 103 = .ok (.iload_n 3, 1) := yd_op_29 (i := 27) yd_by_cX5_cutNumber_2 rfl rfl
theorem dX5_cutNumber_104 : decode cX5_cutNumber 104 = .ok (.ireturn, 1) := yd_op_172 (i := 28) yd_by_cX5_cutNumber_2 rfl rfl
set_option maxRecDepth 100000 in
theorem yd_by_cX5_knownWord_0 : ydk cX5_knownWord 0 [3, 61, 28, 16, 33, 162, 0, 21, 42, 180, 0, 9, 28, 46, 27, 160, 0, 5, 28, 172, 132, 2, 1, 167, 255, 235, 2, 172] = true := by decide +kernel
theorem dX5_knownWord_0 : decode cX5_knownWord 0 = .ok (.iconst 0, 1) := yd_op_3 (i := 0) yd_by_cX5_knownWord_0 rfl rfl
theorem dX5_knownWord_1 : decode cX5_knownWord 1 = .ok (.istore_n 2, 1) := yd_op_61 (i := 1) yd_by_cX5_knownWord_0 rfl rfl
theorem dX5_knownWord_2 : decode cX5_knownWord 2 = .ok (.iload_n 2, 1) := yd_op_28 (i := 2) yd_by_cX5_knownWord_0 rfl rfl
theorem dX5_knownWord_3 : decode cX5_knownWord 3 = .ok (.bipush 33, 2) := yd_op_16 (i := 3) (a := 33) yd_by_cX5_knownWord_0 rfl rfl
theorem dX5_knownWord_5 : decode cX5_knownWord 5 = .ok (.if_icmp .ge 21, 3) := yd_op_162 (i := 5) (a := 0) (b := 21) yd_by_cX5_knownWord_0 rfl rfl
theorem dX5_knownWord_8 : decode cX5_knownWord 8 = .ok (.aload_n 0, 1) := yd_op_42 (i := 8) yd_by_cX5_knownWord_0 rfl rfl
theorem dX5_knownWord_9 : decode cX5_knownWord 9 = .ok (.getfield 9, 3) := yd_op_180 (i := 9) (a := 0) (b := 9) yd_by_cX5_knownWord_0 rfl rfl
theorem dX5_knownWord_12 : decode cX5_knownWord 12 = .ok (.iload_n 2, 1) := yd_op_28 (i := 12) yd_by_cX5_knownWord_0 rfl rfl
theorem dX5_knownWord_13 : decode cX5_knownWord 13 = .ok (.iaload, 1) := yd_op_46 (i := 13) yd_by_cX5_knownWord_0 rfl rfl
theorem dX5_knownWord_14 : decode cX5_knownWord 14 = .ok (.iload_n 1, 1) := yd_op_27 (i := 14) yd_by_cX5_knownWord_0 rfl rfl
theorem dX5_knownWord_15 : decode cX5_knownWord 15 = .ok (.if_icmp .ne 5, 3) := yd_op_160 (i := 15) (a := 0) (b := 5) yd_by_cX5_knownWord_0 rfl rfl
theorem dX5_knownWord_18 : decode cX5_knownWord 18 = .ok (.iload_n 2, 1) := yd_op_28 (i := 18) yd_by_cX5_knownWord_0 rfl rfl
theorem dX5_knownWord_19 : decode cX5_knownWord 19 = .ok (.ireturn, 1) := yd_op_172 (i := 19) yd_by_cX5_knownWord_0 rfl rfl
theorem dX5_knownWord_20 : decode cX5_knownWord 20 = .ok (.iinc 2 1, 3) := yd_op_132 (i := 20) (a := 2) (b := 1) yd_by_cX5_knownWord_0 rfl rfl
theorem dX5_knownWord_23 : decode cX5_knownWord 23 = .ok (.goto (-21), 3) := yd_op_167 (i := 23) (a := 255) (b := 235) yd_by_cX5_knownWord_0 rfl rfl
theorem dX5_knownWord_26 : decode cX5_knownWord 26 = .ok (.iconst (-1), 1) := yd_op_2 (i := 26) yd_by_cX5_knownWord_0 rfl rfl
theorem dX5_knownWord_27 : decode cX5_knownWord 27 = .ok (.ireturn, 1) := yd_op_172 (i := 27) yd_by_cX5_knownWord_0 rfl rfl
set_option maxRecDepth 100000 in
theorem yd_by_cX5_isLetter_0 : ydk cX5_isLetter 0 [26, 16, 97, 161, 0, 13, 26, 16, 122, 163, 0, 7, 4, 167, 0, 4, 3, 172] = true := by decide +kernel
theorem dX5_isLetter_0 : decode cX5_isLetter 0 = .ok (.iload_n 0, 1) := yd_op_26 (i := 0) yd_by_cX5_isLetter_0 rfl rfl
theorem dX5_isLetter_1 : decode cX5_isLetter 1 = .ok (.bipush 97, 2) := yd_op_16 (i := 1) (a := 97) yd_by_cX5_isLetter_0 rfl rfl
theorem dX5_isLetter_3 : decode cX5_isLetter 3 = .ok (.if_icmp .lt 13, 3) := yd_op_161 (i := 3) (a := 0) (b := 13) yd_by_cX5_isLetter_0 rfl rfl
theorem dX5_isLetter_6 : decode cX5_isLetter 6 = .ok (.iload_n 0, 1) := yd_op_26 (i := 6) yd_by_cX5_isLetter_0 rfl rfl
theorem dX5_isLetter_7 : decode cX5_isLetter 7 = .ok (.bipush 122, 2) := yd_op_16 (i := 7) (a := 122) yd_by_cX5_isLetter_0 rfl rfl
theorem dX5_isLetter_9 : decode cX5_isLetter 9 = .ok (.if_icmp .gt 7, 3) := yd_op_163 (i := 9) (a := 0) (b := 7) yd_by_cX5_isLetter_0 rfl rfl
theorem dX5_isLetter_12 : decode cX5_isLetter 12 = .ok (.iconst 1, 1) := yd_op_4 (i := 12) yd_by_cX5_isLetter_0 rfl rfl
theorem dX5_isLetter_13 : decode cX5_isLetter 13 = .ok (.goto 4, 3) := yd_op_167 (i := 13) (a := 0) (b := 4) yd_by_cX5_isLetter_0 rfl rfl
theorem dX5_isLetter_16 : decode cX5_isLetter 16 = .ok (.iconst 0, 1) := yd_op_3 (i := 16) yd_by_cX5_isLetter_0 rfl rfl
theorem dX5_isLetter_17 : decode cX5_isLetter 17 = .ok (.ireturn, 1) := yd_op_172 (i := 17) yd_by_cX5_isLetter_0 rfl rfl
set_option maxRecDepth 100000 in
theorem yd_by_cX5_isDigit_0 : ydk cX5_isDigit 0 [26, 16, 48, 161, 0, 13, 26, 16, 57, 163, 0, 7, 4, 167, 0, 4, 3, 172] = true := by decide +kernel
theorem dX5_isDigit_0 : decode cX5_isDigit 0 = .ok (.iload_n 0, 1) := yd_op_26 (i := 0) yd_by_cX5_isDigit_0 rfl rfl
theorem dX5_isDigit_1 : decode cX5_isDigit 1 = .ok (.bipush 48, 2) := yd_op_16 (i := 1) (a := 48) yd_by_cX5_isDigit_0 rfl rfl
theorem dX5_isDigit_3 : decode cX5_isDigit 3 = .ok (.if_icmp .lt 13, 3) := yd_op_161 (i := 3) (a := 0) (b := 13) yd_by_cX5_isDigit_0 rfl rfl
theorem dX5_isDigit_6 : decode cX5_isDigit 6 = .ok (.iload_n 0, 1) := yd_op_26 (i := 6) yd_by_cX5_isDigit_0 rfl rfl
theorem dX5_isDigit_7 : decode cX5_isDigit 7 = .ok (.bipush 57, 2) := yd_op_16 (i := 7) (a := 57) yd_by_cX5_isDigit_0 rfl rfl
theorem dX5_isDigit_9 : decode cX5_isDigit 9 = .ok (.if_icmp .gt 7, 3) := yd_op_163 (i := 9) (a := 0) (b := 7) yd_by_cX5_isDigit_0 rfl rfl
theorem dX5_isDigit_12 : decode cX5_isDigit 12 = .ok (.iconst 1, 1) := yd_op_4 (i := 12) yd_by_cX5_isDigit_0 rfl rfl
theorem dX5_isDigit_13 : decode cX5_isDigit 13 = .ok (.goto 4, 3) := yd_op_167 (i := 13) (a := 0) (b := 4) yd_by_cX5_isDigit_0 rfl rfl
theorem dX5_isDigit_16 : decode cX5_isDigit 16 = .ok (.iconst 0, 1) := yd_op_3 (i := 16) yd_by_cX5_isDigit_0 rfl rfl
theorem dX5_isDigit_17 : decode cX5_isDigit 17 = .ok (.ireturn, 1) := yd_op_172 (i := 17) yd_by_cX5_isDigit_0 rfl rfl
set_option maxRecDepth 100000 in
theorem yd_by_cX5_kindHere_0 : ydk cX5_kindHere 0 [42, 180, 0, 34, 154, 0, 15, 42, 180, 0, 15, 42, 180, 0, 31, 46, 167, 0, 5, 16, 6, 172] = true := by decide +kernel
theorem dX5_kindHere_0 : decode cX5_kindHere 0 = .ok (.aload_n 0, 1) := yd_op_42 (i := 0) yd_by_cX5_kindHere_0 rfl rfl
theorem dX5_kindHere_1 : decode cX5_kindHere 1 = .ok (.getfield 34, 3) := yd_op_180 (i := 1) (a := 0) (b := 34) yd_by_cX5_kindHere_0 rfl rfl
theorem dX5_kindHere_4 : decode cX5_kindHere 4 = .ok (.ifCond .ne 15, 3) := yd_op_154 (i := 4) (a := 0) (b := 15) yd_by_cX5_kindHere_0 rfl rfl
theorem dX5_kindHere_7 : decode cX5_kindHere 7 = .ok (.aload_n 0, 1) := yd_op_42 (i := 7) yd_by_cX5_kindHere_0 rfl rfl
theorem dX5_kindHere_8 : decode cX5_kindHere 8 = .ok (.getfield 15, 3) := yd_op_180 (i := 8) (a := 0) (b := 15) yd_by_cX5_kindHere_0 rfl rfl
theorem dX5_kindHere_11 : decode cX5_kindHere 11 = .ok (.aload_n 0, 1) := yd_op_42 (i := 11) yd_by_cX5_kindHere_0 rfl rfl
theorem dX5_kindHere_12 : decode cX5_kindHere 12 = .ok (.getfield 31, 3) := yd_op_180 (i := 12) (a := 0) (b := 31) yd_by_cX5_kindHere_0 rfl rfl
theorem dX5_kindHere_15 : decode cX5_kindHere 15 = .ok (.iaload, 1) := yd_op_46 (i := 15) yd_by_cX5_kindHere_0 rfl rfl
theorem dX5_kindHere_16 : decode cX5_kindHere 16 = .ok (.goto 5, 3) := yd_op_167 (i := 16) (a := 0) (b := 5) yd_by_cX5_kindHere_0 rfl rfl
theorem dX5_kindHere_19 : decode cX5_kindHere 19 = .ok (.bipush 6, 2) := yd_op_16 (i := 19) (a := 6) yd_by_cX5_kindHere_0 rfl rfl
theorem dX5_kindHere_21 : decode cX5_kindHere 21 = .ok (.ireturn, 1) := yd_op_172 (i := 21) yd_by_cX5_kindHere_0 rfl rfl
set_option maxRecDepth 100000 in
theorem yd_by_cX5_wordHere_0 : ydk cX5_wordHere 0 [42, 180, 0, 34, 154, 0, 28, 42, 180, 0, 15, 42, 180, 0, 31, 46, 4, 160, 0, 15, 42, 180, 0, 24, 42, 180, 0, 31, 46, 167, 0, 4, 2, 172] = true := by decide +kernel
theorem dX5_wordHere_0 : decode cX5_wordHere 0 = .ok (.aload_n 0, 1) := yd_op_42 (i := 0) yd_by_cX5_wordHere_0 rfl rfl
theorem dX5_wordHere_1 : decode cX5_wordHere 1 = .ok (.getfield 34, 3) := yd_op_180 (i := 1) (a := 0) (b := 34) yd_by_cX5_wordHere_0 rfl rfl
theorem dX5_wordHere_4 : decode cX5_wordHere 4 = .ok (.ifCond .ne 28, 3) := yd_op_154 (i := 4) (a := 0) (b := 28) yd_by_cX5_wordHere_0 rfl rfl
theorem dX5_wordHere_7 : decode cX5_wordHere 7 = .ok (.aload_n 0, 1) := yd_op_42 (i := 7) yd_by_cX5_wordHere_0 rfl rfl
theorem dX5_wordHere_8 : decode cX5_wordHere 8 = .ok (.getfield 15, 3) := yd_op_180 (i := 8) (a := 0) (b := 15) yd_by_cX5_wordHere_0 rfl rfl
theorem dX5_wordHere_11 : decode cX5_wordHere 11 = .ok (.aload_n 0, 1) := yd_op_42 (i := 11) yd_by_cX5_wordHere_0 rfl rfl
theorem dX5_wordHere_12 : decode cX5_wordHere 12 = .ok (.getfield 31, 3) := yd_op_180 (i := 12) (a := 0) (b := 31) yd_by_cX5_wordHere_0 rfl rfl
theorem dX5_wordHere_15 : decode cX5_wordHere 15 = .ok (.iaload, 1) := yd_op_46 (i := 15) yd_by_cX5_wordHere_0 rfl rfl
theorem dX5_wordHere_16 : decode cX5_wordHere 16 = .ok (.iconst 1, 1) := yd_op_4 (i := 16) yd_by_cX5_wordHere_0 rfl rfl
theorem dX5_wordHere_17 : decode cX5_wordHere 17 = .ok (.if_icmp .ne 15, 3) := yd_op_160 (i := 17) (a := 0) (b := 15) yd_by_cX5_wordHere_0 rfl rfl
theorem dX5_wordHere_20 : decode cX5_wordHere 20 = .ok (.aload_n 0, 1) := yd_op_42 (i := 20) yd_by_cX5_wordHere_0 rfl rfl
theorem dX5_wordHere_21 : decode cX5_wordHere 21 = .ok (.getfield 24, 3) := yd_op_180 (i := 21) (a := 0) (b := 24) yd_by_cX5_wordHere_0 rfl rfl
theorem dX5_wordHere_24 : decode cX5_wordHere 24 = .ok (.aload_n 0, 1) := yd_op_42 (i := 24) yd_by_cX5_wordHere_0 rfl rfl
theorem dX5_wordHere_25 : decode cX5_wordHere 25 = .ok (.getfield 31, 3) := yd_op_180 (i := 25) (a := 0) (b := 31) yd_by_cX5_wordHere_0 rfl rfl
theorem dX5_wordHere_28 : decode cX5_wordHere 28 = .ok (.iaload, 1) := yd_op_46 (i := 28) yd_by_cX5_wordHere_0 rfl rfl
theorem dX5_wordHere_29 : decode cX5_wordHere 29 = .ok (.goto 4, 3) := yd_op_167 (i := 29) (a := 0) (b := 4) yd_by_cX5_wordHere_0 rfl rfl
theorem dX5_wordHere_32 : decode cX5_wordHere 32 = .ok (.iconst (-1), 1) := yd_op_2 (i := 32) yd_by_cX5_wordHere_0 rfl rfl
theorem dX5_wordHere_33 : decode cX5_wordHere 33 = .ok (.ireturn, 1) := yd_op_172 (i := 33) yd_by_cX5_wordHere_0 rfl rfl
set_option maxRecDepth 100000 in
theorem yd_by_cX5_signHere_0 : ydk cX5_signHere 0 [42, 180, 0, 34, 154, 0, 28, 42, 180, 0, 15, 42, 180, 0, 31, 46, 6, 160, 0, 15, 42, 180, 0, 21, 42, 180, 0, 31, 46, 167, 0, 4, 2, 172] = true := by decide +kernel
theorem dX5_signHere_0 : decode cX5_signHere 0 = .ok (.aload_n 0, 1) := yd_op_42 (i := 0) yd_by_cX5_signHere_0 rfl rfl
theorem dX5_signHere_1 : decode cX5_signHere 1 = .ok (.getfield 34, 3) := yd_op_180 (i := 1) (a := 0) (b := 34) yd_by_cX5_signHere_0 rfl rfl
theorem dX5_signHere_4 : decode cX5_signHere 4 = .ok (.ifCond .ne 28, 3) := yd_op_154 (i := 4) (a := 0) (b := 28) yd_by_cX5_signHere_0 rfl rfl
theorem dX5_signHere_7 : decode cX5_signHere 7 = .ok (.aload_n 0, 1) := yd_op_42 (i := 7) yd_by_cX5_signHere_0 rfl rfl
theorem dX5_signHere_8 : decode cX5_signHere 8 = .ok (.getfield 15, 3) := yd_op_180 (i := 8) (a := 0) (b := 15) yd_by_cX5_signHere_0 rfl rfl
theorem dX5_signHere_11 : decode cX5_signHere 11 = .ok (.aload_n 0, 1) := yd_op_42 (i := 11) yd_by_cX5_signHere_0 rfl rfl
theorem dX5_signHere_12 : decode cX5_signHere 12 = .ok (.getfield 31, 3) := yd_op_180 (i := 12) (a := 0) (b := 31) yd_by_cX5_signHere_0 rfl rfl
theorem dX5_signHere_15 : decode cX5_signHere 15 = .ok (.iaload, 1) := yd_op_46 (i := 15) yd_by_cX5_signHere_0 rfl rfl
theorem dX5_signHere_16 : decode cX5_signHere 16 = .ok (.iconst 3, 1) := yd_op_6 (i := 16) yd_by_cX5_signHere_0 rfl rfl
theorem dX5_signHere_17 : decode cX5_signHere 17 = .ok (.if_icmp .ne 15, 3) := yd_op_160 (i := 17) (a := 0) (b := 15) yd_by_cX5_signHere_0 rfl rfl
theorem dX5_signHere_20 : decode cX5_signHere 20 = .ok (.aload_n 0, 1) := yd_op_42 (i := 20) yd_by_cX5_signHere_0 rfl rfl
theorem dX5_signHere_21 : decode cX5_signHere 21 = .ok (.getfield 21, 3) := yd_op_180 (i := 21) (a := 0) (b := 21) yd_by_cX5_signHere_0 rfl rfl
theorem dX5_signHere_24 : decode cX5_signHere 24 = .ok (.aload_n 0, 1) := yd_op_42 (i := 24) yd_by_cX5_signHere_0 rfl rfl
theorem dX5_signHere_25 : decode cX5_signHere 25 = .ok (.getfield 31, 3) := yd_op_180 (i := 25) (a := 0) (b := 31) yd_by_cX5_signHere_0 rfl rfl
theorem dX5_signHere_28 : decode cX5_signHere 28 = .ok (.iaload, 1) := yd_op_46 (i := 28) yd_by_cX5_signHere_0 rfl rfl
theorem dX5_signHere_29 : decode cX5_signHere 29 = .ok (.goto 4, 3) := yd_op_167 (i := 29) (a := 0) (b := 4) yd_by_cX5_signHere_0 rfl rfl
theorem dX5_signHere_32 : decode cX5_signHere 32 = .ok (.iconst (-1), 1) := yd_op_2 (i := 32) yd_by_cX5_signHere_0 rfl rfl
theorem dX5_signHere_33 : decode cX5_signHere 33 = .ok (.ireturn, 1) := yd_op_172 (i := 33) yd_by_cX5_signHere_0 rfl rfl
set_option maxRecDepth 100000 in
theorem yd_by_cX5_placeHere_0 : ydk cX5_placeHere 0 [42, 180, 0, 18, 42, 180, 0, 31, 46, 172] = true := by decide +kernel
theorem dX5_placeHere_0 : decode cX5_placeHere 0 = .ok (.aload_n 0, 1) := yd_op_42 (i := 0) yd_by_cX5_placeHere_0 rfl rfl
theorem dX5_placeHere_1 : decode cX5_placeHere 1 = .ok (.getfield 18, 3) := yd_op_180 (i := 1) (a := 0) (b := 18) yd_by_cX5_placeHere_0 rfl rfl
theorem dX5_placeHere_4 : decode cX5_placeHere 4 = .ok (.aload_n 0, 1) := yd_op_42 (i := 4) yd_by_cX5_placeHere_0 rfl rfl
theorem dX5_placeHere_5 : decode cX5_placeHere 5 = .ok (.getfield 31, 3) := yd_op_180 (i := 5) (a := 0) (b := 31) yd_by_cX5_placeHere_0 rfl rfl
theorem dX5_placeHere_8 : decode cX5_placeHere 8 = .ok (.iaload, 1) := yd_op_46 (i := 8) yd_by_cX5_placeHere_0 rfl rfl
theorem dX5_placeHere_9 : decode cX5_placeHere 9 = .ok (.ireturn, 1) := yd_op_172 (i := 9) yd_by_cX5_placeHere_0 rfl rfl
set_option maxRecDepth 100000 in
theorem yd_by_cX5_hasMore_0 : ydk cX5_hasMore 0 [42, 180, 0, 34, 154, 0, 19, 42, 180, 0, 15, 42, 180, 0, 31, 46, 153, 0, 7, 4, 167, 0, 4, 3, 172] = true := by decide +kernel
theorem dX5_hasMore_0 : decode cX5_hasMore 0 = .ok (.aload_n 0, 1) := yd_op_42 (i := 0) yd_by_cX5_hasMore_0 rfl rfl
theorem dX5_hasMore_1 : decode cX5_hasMore 1 = .ok (.getfield 34, 3) := yd_op_180 (i := 1) (a := 0) (b := 34) yd_by_cX5_hasMore_0 rfl rfl
theorem dX5_hasMore_4 : decode cX5_hasMore 4 = .ok (.ifCond .ne 19, 3) := yd_op_154 (i := 4) (a := 0) (b := 19) yd_by_cX5_hasMore_0 rfl rfl
theorem dX5_hasMore_7 : decode cX5_hasMore 7 = .ok (.aload_n 0, 1) := yd_op_42 (i := 7) yd_by_cX5_hasMore_0 rfl rfl
theorem dX5_hasMore_8 : decode cX5_hasMore 8 = .ok (.getfield 15, 3) := yd_op_180 (i := 8) (a := 0) (b := 15) yd_by_cX5_hasMore_0 rfl rfl
theorem dX5_hasMore_11 : decode cX5_hasMore 11 = .ok (.aload_n 0, 1) := yd_op_42 (i := 11) yd_by_cX5_hasMore_0 rfl rfl
theorem dX5_hasMore_12 : decode cX5_hasMore 12 = .ok (.getfield 31, 3) := yd_op_180 (i := 12) (a := 0) (b := 31) yd_by_cX5_hasMore_0 rfl rfl
theorem dX5_hasMore_15 : decode cX5_hasMore 15 = .ok (.iaload, 1) := yd_op_46 (i := 15) yd_by_cX5_hasMore_0 rfl rfl
theorem dX5_hasMore_16 : decode cX5_hasMore 16 = .ok (.ifCond .eq 7, 3) := yd_op_153 (i := 16) (a := 0) (b := 7) yd_by_cX5_hasMore_0 rfl rfl
theorem dX5_hasMore_19 : decode cX5_hasMore 19 = .ok (.iconst 1, 1) := yd_op_4 (i := 19) yd_by_cX5_hasMore_0 rfl rfl
theorem dX5_hasMore_20 : decode cX5_hasMore 20 = .ok (.goto 4, 3) := yd_op_167 (i := 20) (a := 0) (b := 4) yd_by_cX5_hasMore_0 rfl rfl
theorem dX5_hasMore_23 : decode cX5_hasMore 23 = .ok (.iconst 0, 1) := yd_op_3 (i := 23) yd_by_cX5_hasMore_0 rfl rfl
theorem dX5_hasMore_24 : decode cX5_hasMore 24 = .ok (.ireturn, 1) := yd_op_172 (i := 24) yd_by_cX5_hasMore_0 rfl rfl
set_option maxRecDepth 100000 in
theorem yd_by_cX5_step_0 : ydk cX5_step 0 [42, 180, 0, 31, 42, 180, 0, 27, 162, 0, 13, 42, 89, 180, 0, 31, 4, 96, 181, 0, 31, 177] = true := by decide +kernel
theorem dX5_step_0 : decode cX5_step 0 = .ok (.aload_n 0, 1) := yd_op_42 (i := 0) yd_by_cX5_step_0 rfl rfl
theorem dX5_step_1 : decode cX5_step 1 = .ok (.getfield 31, 3) := yd_op_180 (i := 1) (a := 0) (b := 31) yd_by_cX5_step_0 rfl rfl
theorem dX5_step_4 : decode cX5_step 4 = .ok (.aload_n 0, 1) := yd_op_42 (i := 4) yd_by_cX5_step_0 rfl rfl
theorem dX5_step_5 : decode cX5_step 5 = .ok (.getfield 27, 3) := yd_op_180 (i := 5) (a := 0) (b := 27) yd_by_cX5_step_0 rfl rfl
theorem dX5_step_8 : decode cX5_step 8 = .ok (.if_icmp .ge 13, 3) := yd_op_162 (i := 8) (a := 0) (b := 13) yd_by_cX5_step_0 rfl rfl
theorem dX5_step_11 : decode cX5_step 11 = .ok (.aload_n 0, 1) := yd_op_42 (i := 11) yd_by_cX5_step_0 rfl rfl
theorem dX5_step_12 : decode cX5_step 12 = .ok (.dup, 1) := yd_op_89 (i := 12) yd_by_cX5_step_0 rfl rfl
theorem dX5_step_13 : decode cX5_step 13 = .ok (.getfield 31, 3) := yd_op_180 (i := 13) (a := 0) (b := 31) yd_by_cX5_step_0 rfl rfl
theorem dX5_step_16 : decode cX5_step 16 = .ok (.iconst 1, 1) := yd_op_4 (i := 16) yd_by_cX5_step_0 rfl rfl
theorem dX5_step_17 : decode cX5_step 17 = .ok (.iadd, 1) := yd_op_96 (i := 17) yd_by_cX5_step_0 rfl rfl
theorem dX5_step_18 : decode cX5_step 18 = .ok (.putfield 31, 3) := yd_op_181 (i := 18) (a := 0) (b := 31) yd_by_cX5_step_0 rfl rfl
theorem dX5_step_21 : decode cX5_step 21 = .ok (.return_, 1) := yd_op_177 (i := 21) yd_by_cX5_step_0 rfl rfl
set_option maxRecDepth 100000 in
theorem yd_by_cX5_refuse_0 : ydk cX5_refuse 0 [42, 180, 0, 34, 154, 0, 13, 42, 27, 181, 0, 34, 42, 28, 181, 0, 37, 177] = true := by decide +kernel
theorem dX5_refuse_0 : decode cX5_refuse 0 = .ok (.aload_n 0, 1) := yd_op_42 (i := 0) yd_by_cX5_refuse_0 rfl rfl
theorem dX5_refuse_1 : decode cX5_refuse 1 = .ok (.getfield 34, 3) := yd_op_180 (i := 1) (a := 0) (b := 34) yd_by_cX5_refuse_0 rfl rfl
theorem dX5_refuse_4 : decode cX5_refuse 4 = .ok (.ifCond .ne 13, 3) := yd_op_154 (i := 4) (a := 0) (b := 13) yd_by_cX5_refuse_0 rfl rfl
theorem dX5_refuse_7 : decode cX5_refuse 7 = .ok (.aload_n 0, 1) := yd_op_42 (i := 7) yd_by_cX5_refuse_0 rfl rfl
theorem dX5_refuse_8 : decode cX5_refuse 8 = .ok (.iload_n 1, 1) := yd_op_27 (i := 8) yd_by_cX5_refuse_0 rfl rfl
theorem dX5_refuse_9 : decode cX5_refuse 9 = .ok (.putfield 34, 3) := yd_op_181 (i := 9) (a := 0) (b := 34) yd_by_cX5_refuse_0 rfl rfl
theorem dX5_refuse_12 : decode cX5_refuse 12 = .ok (.aload_n 0, 1) := yd_op_42 (i := 12) yd_by_cX5_refuse_0 rfl rfl
theorem dX5_refuse_13 : decode cX5_refuse 13 = .ok (.iload_n 2, 1) := yd_op_28 (i := 13) yd_by_cX5_refuse_0 rfl rfl
theorem dX5_refuse_14 : decode cX5_refuse 14 = .ok (.putfield 37, 3) := yd_op_181 (i := 14) (a := 0) (b := 37) yd_by_cX5_refuse_0 rfl rfl
theorem dX5_refuse_17 : decode cX5_refuse 17 = .ok (.return_, 1) := yd_op_177 (i := 17) yd_by_cX5_refuse_0 rfl rfl
set_option maxRecDepth 100000 in
theorem yd_by_cX5_takeWord_0 : ydk cX5_takeWord 0 [42, 182, 0, 84, 27, 160, 0, 10, 42, 182, 0, 87, 167, 0, 17, 42, 4, 42, 180, 0, 18, 42, 180, 0, 31, 46, 182, 0, 90, 177] = true := by decide +kernel
theorem dX5_takeWord_0 : decode cX5_takeWord 0 = .ok (.aload_n 0, 1) := yd_op_42 (i := 0) yd_by_cX5_takeWord_0 rfl rfl
theorem dX5_takeWord_1 : decode cX5_takeWord 1 = .ok (.invokevirtual 84, 3) := yd_op_182 (i := 1) (a := 0) (b := 84) yd_by_cX5_takeWord_0 rfl rfl
theorem dX5_takeWord_4 : decode cX5_takeWord 4 = .ok (.iload_n 1, 1) := yd_op_27 (i := 4) yd_by_cX5_takeWord_0 rfl rfl
theorem dX5_takeWord_5 : decode cX5_takeWord 5 = .ok (.if_icmp .ne 10, 3) := yd_op_160 (i := 5) (a := 0) (b := 10) yd_by_cX5_takeWord_0 rfl rfl
theorem dX5_takeWord_8 : decode cX5_takeWord 8 = .ok (.aload_n 0, 1) := yd_op_42 (i := 8) yd_by_cX5_takeWord_0 rfl rfl
theorem dX5_takeWord_9 : decode cX5_takeWord 9 = .ok (.invokevirtual 87, 3) := yd_op_182 (i := 9) (a := 0) (b := 87) yd_by_cX5_takeWord_0 rfl rfl
theorem dX5_takeWord_12 : decode cX5_takeWord 12 = .ok (.goto 17, 3) := yd_op_167 (i := 12) (a := 0) (b := 17) yd_by_cX5_takeWord_0 rfl rfl
theorem dX5_takeWord_15 : decode cX5_takeWord 15 = .ok (.aload_n 0, 1) := yd_op_42 (i := 15) yd_by_cX5_takeWord_0 rfl rfl
theorem dX5_takeWord_16 : decode cX5_takeWord 16 = .ok (.iconst 1, 1) := yd_op_4 (i := 16) yd_by_cX5_takeWord_0 rfl rfl
theorem dX5_takeWord_17 : decode cX5_takeWord 17 = .ok (.aload_n 0, 1) := yd_op_42 (i := 17) yd_by_cX5_takeWord_0 rfl rfl
theorem dX5_takeWord_18 : decode cX5_takeWord 18 = .ok (.getfield 18, 3) := yd_op_180 (i := 18) (a := 0) (b := 18) yd_by_cX5_takeWord_0 rfl rfl
theorem dX5_takeWord_21 : decode cX5_takeWord 21 = .ok (.aload_n 0, 1) := yd_op_42 (i := 21) yd_by_cX5_takeWord_0 rfl rfl
theorem dX5_takeWord_22 : decode cX5_takeWord 22 = .ok (.getfield 31, 3) := yd_op_180 (i := 22) (a := 0) (b := 31) yd_by_cX5_takeWord_0 rfl rfl
theorem dX5_takeWord_25 : decode cX5_takeWord 25 = .ok (.iaload, 1) := yd_op_46 (i := 25) yd_by_cX5_takeWord_0 rfl rfl
theorem dX5_takeWord_26 : decode cX5_takeWord 26 = .ok (.invokevirtual 90, 3) := yd_op_182 (i := 26) (a := 0) (b := 90) yd_by_cX5_takeWord_0 rfl rfl
theorem dX5_takeWord_29 : decode cX5_takeWord 29 = .ok (.return_, 1) := yd_op_177 (i := 29) yd_by_cX5_takeWord_0 rfl rfl
set_option maxRecDepth 100000 in
theorem yd_by_cX5_takeSign_0 : ydk cX5_takeSign 0 [42, 182, 0, 94, 27, 160, 0, 10, 42, 182, 0, 87, 167, 0, 17, 42, 4, 42, 180, 0, 18, 42, 180, 0, 31, 46, 182, 0, 90, 177] = true := by decide +kernel
theorem dX5_takeSign_0 : decode cX5_takeSign 0 = .ok (.aload_n 0, 1) := yd_op_42 (i := 0) yd_by_cX5_takeSign_0 rfl rfl
theorem dX5_takeSign_1 : decode cX5_takeSign 1 = .ok (.invokevirtual 94, 3) := yd_op_182 (i := 1) (a := 0) (b := 94) yd_by_cX5_takeSign_0 rfl rfl
theorem dX5_takeSign_4 : decode cX5_takeSign 4 = .ok (.iload_n 1, 1) := yd_op_27 (i := 4) yd_by_cX5_takeSign_0 rfl rfl
theorem dX5_takeSign_5 : decode cX5_takeSign 5 = .ok (.if_icmp .ne 10, 3) := yd_op_160 (i := 5) (a := 0) (b := 10) yd_by_cX5_takeSign_0 rfl rfl
theorem dX5_takeSign_8 : decode cX5_takeSign 8 = .ok (.aload_n 0, 1) := yd_op_42 (i := 8) yd_by_cX5_takeSign_0 rfl rfl
theorem dX5_takeSign_9 : decode cX5_takeSign 9 = .ok (.invokevirtual 87, 3) := yd_op_182 (i := 9) (a := 0) (b := 87) yd_by_cX5_takeSign_0 rfl rfl
theorem dX5_takeSign_12 : decode cX5_takeSign 12 = .ok (.goto 17, 3) := yd_op_167 (i := 12) (a := 0) (b := 17) yd_by_cX5_takeSign_0 rfl rfl
theorem dX5_takeSign_15 : decode cX5_takeSign 15 = .ok (.aload_n 0, 1) := yd_op_42 (i := 15) yd_by_cX5_takeSign_0 rfl rfl
theorem dX5_takeSign_16 : decode cX5_takeSign 16 = .ok (.iconst 1, 1) := yd_op_4 (i := 16) yd_by_cX5_takeSign_0 rfl rfl
theorem dX5_takeSign_17 : decode cX5_takeSign 17 = .ok (.aload_n 0, 1) := yd_op_42 (i := 17) yd_by_cX5_takeSign_0 rfl rfl
theorem dX5_takeSign_18 : decode cX5_takeSign 18 = .ok (.getfield 18, 3) := yd_op_180 (i := 18) (a := 0) (b := 18) yd_by_cX5_takeSign_0 rfl rfl
theorem dX5_takeSign_21 : decode cX5_takeSign 21 = .ok (.aload_n 0, 1) := yd_op_42 (i := 21) yd_by_cX5_takeSign_0 rfl rfl
theorem dX5_takeSign_22 : decode cX5_takeSign 22 = .ok (.getfield 31, 3) := yd_op_180 (i := 22) (a := 0) (b := 31) yd_by_cX5_takeSign_0 rfl rfl
theorem dX5_takeSign_25 : decode cX5_takeSign 25 = .ok (.iaload, 1) := yd_op_46 (i := 25) yd_by_cX5_takeSign_0 rfl rfl
theorem dX5_takeSign_26 : decode cX5_takeSign 26 = .ok (.invokevirtual 90, 3) := yd_op_182 (i := 26) (a := 0) (b := 90) yd_by_cX5_takeSign_0 rfl rfl
theorem dX5_takeSign_29 : decode cX5_takeSign 29 = .ok (.return_, 1) := yd_op_177 (i := 29) yd_by_cX5_takeSign_0 rfl rfl
set_option maxRecDepth 100000 in
theorem yd_by_cX5_takeNumber_0 : ydk cX5_takeNumber 0 [42, 182, 0, 97, 62, 42, 180, 0, 21, 42, 180, 0, 31, 46, 54, 4, 29, 8, 160, 0, 22, 42, 4, 42, 180, 0, 18, 42, 180, 0, 31, 46, 7] = true := by decide +kernel
theorem dX5_takeNumber_0 : decode cX5_takeNumber 0 = .ok (.aload_n 0, 1) := yd_op_42 (i := 0) yd_by_cX5_takeNumber_0 rfl rfl
theorem dX5_takeNumber_1 : decode cX5_takeNumber 1 = .ok (.invokevirtual 97, 3) := yd_op_182 (i := 1) (a := 0) (b := 97) yd_by_cX5_takeNumber_0 rfl rfl
theorem dX5_takeNumber_4 : decode cX5_takeNumber 4 = .ok (.istore_n 3, 1) := yd_op_62 (i := 4) yd_by_cX5_takeNumber_0 rfl rfl
theorem dX5_takeNumber_5 : decode cX5_takeNumber 5 = .ok (.aload_n 0, 1) := yd_op_42 (i := 5) yd_by_cX5_takeNumber_0 rfl rfl
theorem dX5_takeNumber_6 : decode cX5_takeNumber 6 = .ok (.getfield 21, 3) := yd_op_180 (i := 6) (a := 0) (b := 21) yd_by_cX5_takeNumber_0 rfl rfl
theorem dX5_takeNumber_9 : decode cX5_takeNumber 9 = .ok (.aload_n 0, 1) := yd_op_42 (i := 9) yd_by_cX5_takeNumber_0 rfl rfl
theorem dX5_takeNumber_10 : decode cX5_takeNumber 10 = .ok (.getfield 31, 3) := yd_op_180 (i := 10) (a := 0) (b := 31) yd_by_cX5_takeNumber_0 rfl rfl
theorem dX5_takeNumber_13 : decode cX5_takeNumber 13 = .ok (.iaload, 1) := yd_op_46 (i := 13) yd_by_cX5_takeNumber_0 rfl rfl
theorem dX5_takeNumber_14 : decode cX5_takeNumber 14 = .ok (.istore 4, 2) := yd_op_54 (i := 14) (a := 4) yd_by_cX5_takeNumber_0 rfl rfl
theorem dX5_takeNumber_16 : decode cX5_takeNumber 16 = .ok (.iload_n 3, 1) := yd_op_29 (i := 16) yd_by_cX5_takeNumber_0 rfl rfl
theorem dX5_takeNumber_17 : decode cX5_takeNumber 17 = .ok (.iconst 5, 1) := yd_op_8 (i := 17) yd_by_cX5_takeNumber_0 rfl rfl
theorem dX5_takeNumber_18 : decode cX5_takeNumber 18 = .ok (.if_icmp .ne 22, 3) := yd_op_160 (i := 18) (a := 0) (b := 22) yd_by_cX5_takeNumber_0 rfl rfl
theorem dX5_takeNumber_21 : decode cX5_takeNumber 21 = .ok (.aload_n 0, 1) := yd_op_42 (i := 21) yd_by_cX5_takeNumber_0 rfl rfl
theorem dX5_takeNumber_22 : decode cX5_takeNumber 22 = .ok (.iconst 1, 1) := yd_op_4 (i := 22) yd_by_cX5_takeNumber_0 rfl rfl
theorem dX5_takeNumber_23 : decode cX5_takeNumber 23 = .ok (.aload_n 0, 1) := yd_op_42 (i := 23) yd_by_cX5_takeNumber_0 rfl rfl
theorem dX5_takeNumber_24 : decode cX5_takeNumber 24 = .ok (.getfield 18, 3) := yd_op_180 (i := 24) (a := 0) (b := 18) yd_by_cX5_takeNumber_0 rfl rfl
theorem dX5_takeNumber_27 : decode cX5_takeNumber 27 = .ok (.aload_n 0, 1) := yd_op_42 (i := 27) yd_by_cX5_takeNumber_0 rfl rfl
theorem dX5_takeNumber_28 : decode cX5_takeNumber 28 = .ok (.getfield 31, 3) := yd_op_180 (i := 28) (a := 0) (b := 31) yd_by_cX5_takeNumber_0 rfl rfl
theorem dX5_takeNumber_31 : decode cX5_takeNumber 31 = .ok (.iaload, 1) := yd_op_46 (i := 31) yd_by_cX5_takeNumber_0 rfl rfl
theorem dX5_takeNumber_32 : decode cX5_takeNumber 32 = .ok (.iconst 4, 1) := yd_op_7 (i := 32) yd_by_cX5_takeNumber_0 rfl rfl
set_option maxRecDepth 100000 in
theorem yd_by_cX5_takeNumber_1 : ydk cX5_takeNumber 33 [96, 182, 0, 90, 167, 0, 61, 29, 5, 159, 0, 20, 42, 4, 42, 180, 0, 18, 42, 180, 0, 31, 46, 182, 0, 90, 167, 0, 39, 21, 4, 27, 161, 0, 9, 21, 4, 28] = true := by decide +kernel
theorem dX5_takeNumber_33 : decode cX5_takeNumber 33 = .ok (.iadd, 1) := yd_op_96 (i := 0) yd_by_cX5_takeNumber_1 rfl rfl
theorem dX5_takeNumber_34 : decode cX5_takeNumber 34 = .ok (.invokevirtual 90, 3) := yd_op_182 (i := 1) (a := 0) (b := 90) yd_by_cX5_takeNumber_1 rfl rfl
theorem dX5_takeNumber_37 : decode cX5_takeNumber 37 = .ok (.goto 61, 3) := yd_op_167 (i := 4) (a := 0) (b := 61) yd_by_cX5_takeNumber_1 rfl rfl
theorem dX5_takeNumber_40 : decode cX5_takeNumber 40 = .ok (.iload_n 3, 1) := yd_op_29 (i := 7) yd_by_cX5_takeNumber_1 rfl rfl
theorem dX5_takeNumber_41 : decode cX5_takeNumber 41 = .ok (.iconst 2, 1) := yd_op_5 (i := 8) yd_by_cX5_takeNumber_1 rfl rfl
theorem dX5_takeNumber_42 : decode cX5_takeNumber 42 = .ok (.if_icmp .eq 20, 3) := yd_op_159 (i := 9) (a := 0) (b := 20) yd_by_cX5_takeNumber_1 rfl rfl
theorem dX5_takeNumber_45 : decode cX5_takeNumber 45 = .ok (.aload_n 0, 1) := yd_op_42 (i := 12) yd_by_cX5_takeNumber_1 rfl rfl
theorem dX5_takeNumber_46 : decode cX5_takeNumber 46 = .ok (.iconst 1, 1) := yd_op_4 (i := 13) yd_by_cX5_takeNumber_1 rfl rfl
theorem dX5_takeNumber_47 : decode cX5_takeNumber 47 = .ok (.aload_n 0, 1) := yd_op_42 (i := 14) yd_by_cX5_takeNumber_1 rfl rfl
theorem dX5_takeNumber_48 : decode cX5_takeNumber 48 = .ok (.getfield 18, 3) := yd_op_180 (i := 15) (a := 0) (b := 18) yd_by_cX5_takeNumber_1 rfl rfl
theorem dX5_takeNumber_51 : decode cX5_takeNumber 51 = .ok (.aload_n 0, 1) := yd_op_42 (i := 18) yd_by_cX5_takeNumber_1 rfl rfl
theorem dX5_takeNumber_52 : decode cX5_takeNumber 52 = .ok (.getfield 31, 3) := yd_op_180 (i := 19) (a := 0) (b := 31) yd_by_cX5_takeNumber_1 rfl rfl
theorem dX5_takeNumber_55 : decode cX5_takeNumber 55 = .ok (.iaload, 1) := yd_op_46 (i := 22) yd_by_cX5_takeNumber_1 rfl rfl
theorem dX5_takeNumber_56 : decode cX5_takeNumber 56 = .ok (.invokevirtual 90, 3) := yd_op_182 (i := 23) (a := 0) (b := 90) yd_by_cX5_takeNumber_1 rfl rfl
theorem dX5_takeNumber_59 : decode cX5_takeNumber 59 = .ok (.goto 39, 3) := yd_op_167 (i := 26) (a := 0) (b := 39) yd_by_cX5_takeNumber_1 rfl rfl
theorem dX5_takeNumber_62 : decode cX5_takeNumber 62 = .ok (.iload 4, 2) := yd_op_21 (i := 29) (a := 4) yd_by_cX5_takeNumber_1 rfl rfl
theorem dX5_takeNumber_64 : decode cX5_takeNumber 64 = .ok (.iload_n 1, 1) := yd_op_27 (i := 31) yd_by_cX5_takeNumber_1 rfl rfl
theorem dX5_takeNumber_65 : decode cX5_takeNumber 65 = .ok (.if_icmp .lt 9, 3) := yd_op_161 (i := 32) (a := 0) (b := 9) yd_by_cX5_takeNumber_1 rfl rfl
theorem dX5_takeNumber_68 : decode cX5_takeNumber 68 = .ok (.iload 4, 2) := yd_op_21 (i := 35) (a := 4) yd_by_cX5_takeNumber_1 rfl rfl
theorem dX5_takeNumber_70 : decode cX5_takeNumber 70 = .ok (.iload_n 2, 1) := yd_op_28 (i := 37) yd_by_cX5_takeNumber_1 rfl rfl
set_option maxRecDepth 100000 in
theorem yd_by_cX5_takeNumber_2 : ydk cX5_takeNumber 71 [164, 0, 20, 42, 5, 42, 180, 0, 18, 42, 180, 0, 31, 46, 182, 0, 90, 167, 0, 10, 42, 182, 0, 87, 21, 4, 172, 27, 172] = true := by decide +kernel
theorem dX5_takeNumber_71 : decode cX5_takeNumber 71 = .ok (.if_icmp .le 20, 3) := yd_op_164 (i := 0) (a := 0) (b := 20) yd_by_cX5_takeNumber_2 rfl rfl
theorem dX5_takeNumber_74 : decode cX5_takeNumber 74 = .ok (.aload_n 0, 1) := yd_op_42 (i := 3) yd_by_cX5_takeNumber_2 rfl rfl
theorem dX5_takeNumber_75 : decode cX5_takeNumber 75 = .ok (.iconst 2, 1) := yd_op_5 (i := 4) yd_by_cX5_takeNumber_2 rfl rfl
theorem dX5_takeNumber_76 : decode cX5_takeNumber 76 = .ok (.aload_n 0, 1) := yd_op_42 (i := 5) yd_by_cX5_takeNumber_2 rfl rfl
theorem dX5_takeNumber_77 : decode cX5_takeNumber 77 = .ok (.getfield 18, 3) := yd_op_180 (i := 6) (a := 0) (b := 18) yd_by_cX5_takeNumber_2 rfl rfl
theorem dX5_takeNumber_80 : decode cX5_takeNumber 80 = .ok (.aload_n 0, 1) := yd_op_42 (i := 9) yd_by_cX5_takeNumber_2 rfl rfl
theorem dX5_takeNumber_81 : decode cX5_takeNumber 81 = .ok (.getfield 31, 3) := yd_op_180 (i := 10) (a := 0) (b := 31) yd_by_cX5_takeNumber_2 rfl rfl
theorem dX5_takeNumber_84 : decode cX5_takeNumber 84 = .ok (.iaload, 1) := yd_op_46 (i := 13) yd_by_cX5_takeNumber_2 rfl rfl
theorem dX5_takeNumber_85 : decode cX5_takeNumber 85 = .ok (.invokevirtual 90, 3) := yd_op_182 (i := 14) (a := 0) (b := 90) yd_by_cX5_takeNumber_2 rfl rfl
theorem dX5_takeNumber_88 : decode cX5_takeNumber 88 = .ok (.goto 10, 3) := yd_op_167 (i := 17) (a := 0) (b := 10) yd_by_cX5_takeNumber_2 rfl rfl
theorem dX5_takeNumber_91 : decode cX5_takeNumber 91 = .ok (.aload_n 0, 1) := yd_op_42 (i := 20) yd_by_cX5_takeNumber_2 rfl rfl
theorem dX5_takeNumber_92 : decode cX5_takeNumber 92 = .ok (.invokevirtual 87, 3) := yd_op_182 (i := 21) (a := 0) (b := 87) yd_by_cX5_takeNumber_2 rfl rfl
theorem dX5_takeNumber_95 : decode cX5_takeNumber 95 = .ok (.iload 4, 2) := yd_op_21 (i := 24) (a := 4) yd_by_cX5_takeNumber_2 rfl rfl
theorem dX5_takeNumber_97 : decode cX5_takeNumber 97 = .ok (.ireturn, 1) := yd_op_172 (i := 26) yd_by_cX5_takeNumber_2 rfl rfl
theorem dX5_takeNumber_98 : decode cX5_takeNumber 98 = .ok (.iload_n 1, 1) := yd_op_27 (i := 27) yd_by_cX5_takeNumber_2 rfl rfl
theorem dX5_takeNumber_99 : decode cX5_takeNumber 99 = .ok (.ireturn, 1) := yd_op_172 (i := 28) yd_by_cX5_takeNumber_2 rfl rfl
set_option maxRecDepth 100000 in
theorem yd_by_cX6_init_0 : ydk cX6_init 0 [42, 183, 0, 3, 42, 187, 0, 9, 89, 183, 0, 11, 181, 0, 12, 42, 17, 1, 104, 188, 10, 181, 0, 18, 42, 16, 10, 188, 10, 181, 0, 22, 42, 16, 36, 188, 10, 181, 0, 25, 42] = true := by decide +kernel
theorem dX6_init_0 : decode cX6_init 0 = .ok (.aload_n 0, 1) := yd_op_42 (i := 0) yd_by_cX6_init_0 rfl rfl
theorem dX6_init_1 : decode cX6_init 1 = .ok (.invokespecial 3, 3) := yd_op_183 (i := 1) (a := 0) (b := 3) yd_by_cX6_init_0 rfl rfl
theorem dX6_init_4 : decode cX6_init 4 = .ok (.aload_n 0, 1) := yd_op_42 (i := 4) yd_by_cX6_init_0 rfl rfl
theorem dX6_init_5 : decode cX6_init 5 = .ok (.new 9, 3) := yd_op_187 (i := 5) (a := 0) (b := 9) yd_by_cX6_init_0 rfl rfl
theorem dX6_init_8 : decode cX6_init 8 = .ok (.dup, 1) := yd_op_89 (i := 8) yd_by_cX6_init_0 rfl rfl
theorem dX6_init_9 : decode cX6_init 9 = .ok (.invokespecial 11, 3) := yd_op_183 (i := 9) (a := 0) (b := 11) yd_by_cX6_init_0 rfl rfl
theorem dX6_init_12 : decode cX6_init 12 = .ok (.putfield 12, 3) := yd_op_181 (i := 12) (a := 0) (b := 12) yd_by_cX6_init_0 rfl rfl
theorem dX6_init_15 : decode cX6_init 15 = .ok (.aload_n 0, 1) := yd_op_42 (i := 15) yd_by_cX6_init_0 rfl rfl
theorem dX6_init_16 : decode cX6_init 16 = .ok (.sipush 360, 3) := yd_op_17 (i := 16) (a := 1) (b := 104) yd_by_cX6_init_0 rfl rfl
theorem dX6_init_19 : decode cX6_init 19 = .ok (.newarray .int, 2) := yd_op_188_10 (i := 19) yd_by_cX6_init_0 rfl rfl
theorem dX6_init_21 : decode cX6_init 21 = .ok (.putfield 18, 3) := yd_op_181 (i := 21) (a := 0) (b := 18) yd_by_cX6_init_0 rfl rfl
theorem dX6_init_24 : decode cX6_init 24 = .ok (.aload_n 0, 1) := yd_op_42 (i := 24) yd_by_cX6_init_0 rfl rfl
theorem dX6_init_25 : decode cX6_init 25 = .ok (.bipush 10, 2) := yd_op_16 (i := 25) (a := 10) yd_by_cX6_init_0 rfl rfl
theorem dX6_init_27 : decode cX6_init 27 = .ok (.newarray .int, 2) := yd_op_188_10 (i := 27) yd_by_cX6_init_0 rfl rfl
theorem dX6_init_29 : decode cX6_init 29 = .ok (.putfield 22, 3) := yd_op_181 (i := 29) (a := 0) (b := 22) yd_by_cX6_init_0 rfl rfl
theorem dX6_init_32 : decode cX6_init 32 = .ok (.aload_n 0, 1) := yd_op_42 (i := 32) yd_by_cX6_init_0 rfl rfl
theorem dX6_init_33 : decode cX6_init 33 = .ok (.bipush 36, 2) := yd_op_16 (i := 33) (a := 36) yd_by_cX6_init_0 rfl rfl
theorem dX6_init_35 : decode cX6_init 35 = .ok (.newarray .int, 2) := yd_op_188_10 (i := 35) yd_by_cX6_init_0 rfl rfl
theorem dX6_init_37 : decode cX6_init 37 = .ok (.putfield 25, 3) := yd_op_181 (i := 37) (a := 0) (b := 25) yd_by_cX6_init_0 rfl rfl
theorem dX6_init_40 : decode cX6_init 40 = .ok (.aload_n 0, 1) := yd_op_42 (i := 40) yd_by_cX6_init_0 rfl rfl
set_option maxRecDepth 100000 in
theorem yd_by_cX6_init_1 : ydk cX6_init 41 [16, 36, 188, 10, 181, 0, 28, 42, 16, 36, 188, 10, 181, 0, 31, 42, 3, 181, 0, 34, 42, 2, 181, 0, 38, 42, 2, 181, 0, 41, 42, 9, 181, 0, 44, 42] = true := by decide +kernel
theorem dX6_init_41 : decode cX6_init 41 = .ok (.bipush 36, 2) := yd_op_16 (i := 0) (a := 36) yd_by_cX6_init_1 rfl rfl
theorem dX6_init_43 : decode cX6_init 43 = .ok (.newarray .int, 2) := yd_op_188_10 (i := 2) yd_by_cX6_init_1 rfl rfl
theorem dX6_init_45 : decode cX6_init 45 = .ok (.putfield 28, 3) := yd_op_181 (i := 4) (a := 0) (b := 28) yd_by_cX6_init_1 rfl rfl
theorem dX6_init_48 : decode cX6_init 48 = .ok (.aload_n 0, 1) := yd_op_42 (i := 7) yd_by_cX6_init_1 rfl rfl
theorem dX6_init_49 : decode cX6_init 49 = .ok (.bipush 36, 2) := yd_op_16 (i := 8) (a := 36) yd_by_cX6_init_1 rfl rfl
theorem dX6_init_51 : decode cX6_init 51 = .ok (.newarray .int, 2) := yd_op_188_10 (i := 10) yd_by_cX6_init_1 rfl rfl
theorem dX6_init_53 : decode cX6_init 53 = .ok (.putfield 31, 3) := yd_op_181 (i := 12) (a := 0) (b := 31) yd_by_cX6_init_1 rfl rfl
theorem dX6_init_56 : decode cX6_init 56 = .ok (.aload_n 0, 1) := yd_op_42 (i := 15) yd_by_cX6_init_1 rfl rfl
theorem dX6_init_57 : decode cX6_init 57 = .ok (.iconst 0, 1) := yd_op_3 (i := 16) yd_by_cX6_init_1 rfl rfl
theorem dX6_init_58 : decode cX6_init 58 = .ok (.putfield 34, 3) := yd_op_181 (i := 17) (a := 0) (b := 34) yd_by_cX6_init_1 rfl rfl
theorem dX6_init_61 : decode cX6_init 61 = .ok (.aload_n 0, 1) := yd_op_42 (i := 20) yd_by_cX6_init_1 rfl rfl
theorem dX6_init_62 : decode cX6_init 62 = .ok (.iconst (-1), 1) := yd_op_2 (i := 21) yd_by_cX6_init_1 rfl rfl
theorem dX6_init_63 : decode cX6_init 63 = .ok (.putfield 38, 3) := yd_op_181 (i := 22) (a := 0) (b := 38) yd_by_cX6_init_1 rfl rfl
theorem dX6_init_66 : decode cX6_init 66 = .ok (.aload_n 0, 1) := yd_op_42 (i := 25) yd_by_cX6_init_1 rfl rfl
theorem dX6_init_67 : decode cX6_init 67 = .ok (.iconst (-1), 1) := yd_op_2 (i := 26) yd_by_cX6_init_1 rfl rfl
theorem dX6_init_68 : decode cX6_init 68 = .ok (.putfield 41, 3) := yd_op_181 (i := 27) (a := 0) (b := 41) yd_by_cX6_init_1 rfl rfl
theorem dX6_init_71 : decode cX6_init 71 = .ok (.aload_n 0, 1) := yd_op_42 (i := 30) yd_by_cX6_init_1 rfl rfl
theorem dX6_init_72 : decode cX6_init 72 = .ok (.lconst 0, 1) := yd_op_9 (i := 31) yd_by_cX6_init_1 rfl rfl
theorem dX6_init_73 : decode cX6_init 73 = .ok (.putfield 44, 3) := yd_op_181 (i := 32) (a := 0) (b := 44) yd_by_cX6_init_1 rfl rfl
theorem dX6_init_76 : decode cX6_init 76 = .ok (.aload_n 0, 1) := yd_op_42 (i := 35) yd_by_cX6_init_1 rfl rfl
set_option maxRecDepth 100000 in
theorem yd_by_cX6_init_2 : ydk cX6_init 77 [3, 181, 0, 48, 42, 3, 181, 0, 51, 42, 43, 181, 0, 54, 42, 44, 181, 0, 58, 177] = true := by decide +kernel
theorem dX6_init_77 : decode cX6_init 77 = .ok (.iconst 0, 1) := yd_op_3 (i := 0) yd_by_cX6_init_2 rfl rfl
theorem dX6_init_78 : decode cX6_init 78 = .ok (.putfield 48, 3) := yd_op_181 (i := 1) (a := 0) (b := 48) yd_by_cX6_init_2 rfl rfl
theorem dX6_init_81 : decode cX6_init 81 = .ok (.aload_n 0, 1) := yd_op_42 (i := 4) yd_by_cX6_init_2 rfl rfl
theorem dX6_init_82 : decode cX6_init 82 = .ok (.iconst 0, 1) := yd_op_3 (i := 5) yd_by_cX6_init_2 rfl rfl
theorem dX6_init_83 : decode cX6_init 83 = .ok (.putfield 51, 3) := yd_op_181 (i := 6) (a := 0) (b := 51) yd_by_cX6_init_2 rfl rfl
theorem dX6_init_86 : decode cX6_init 86 = .ok (.aload_n 0, 1) := yd_op_42 (i := 9) yd_by_cX6_init_2 rfl rfl
theorem dX6_init_87 : decode cX6_init 87 = .ok (.aload_n 1, 1) := yd_op_43 (i := 10) yd_by_cX6_init_2 rfl rfl
theorem dX6_init_88 : decode cX6_init 88 = .ok (.putfield 54, 3) := yd_op_181 (i := 11) (a := 0) (b := 54) yd_by_cX6_init_2 rfl rfl
theorem dX6_init_91 : decode cX6_init 91 = .ok (.aload_n 0, 1) := yd_op_42 (i := 14) yd_by_cX6_init_2 rfl rfl
theorem dX6_init_92 : decode cX6_init 92 = .ok (.aload_n 2, 1) := yd_op_44 (i := 15) yd_by_cX6_init_2 rfl rfl
theorem dX6_init_93 : decode cX6_init 93 = .ok (.putfield 58, 3) := yd_op_181 (i := 16) (a := 0) (b := 58) yd_by_cX6_init_2 rfl rfl
theorem dX6_init_96 : decode cX6_init 96 = .ok (.return_, 1) := yd_op_177 (i := 19) yd_by_cX6_init_2 rfl rfl
set_option maxRecDepth 100000 in
theorem yd_by_cX6_look_0 : ydk cX6_look 0 [42, 43, 181, 0, 54, 42, 44, 181, 0, 58, 42, 29, 181, 0, 34, 42, 2, 181, 0, 38, 42, 2, 181, 0, 41, 3, 54, 4, 21, 4, 42, 180, 0, 54] = true := by decide +kernel
theorem dX6_look_0 : decode cX6_look 0 = .ok (.aload_n 0, 1) := yd_op_42 (i := 0) yd_by_cX6_look_0 rfl rfl
theorem dX6_look_1 : decode cX6_look 1 = .ok (.aload_n 1, 1) := yd_op_43 (i := 1) yd_by_cX6_look_0 rfl rfl
theorem dX6_look_2 : decode cX6_look 2 = .ok (.putfield 54, 3) := yd_op_181 (i := 2) (a := 0) (b := 54) yd_by_cX6_look_0 rfl rfl
theorem dX6_look_5 : decode cX6_look 5 = .ok (.aload_n 0, 1) := yd_op_42 (i := 5) yd_by_cX6_look_0 rfl rfl
theorem dX6_look_6 : decode cX6_look 6 = .ok (.aload_n 2, 1) := yd_op_44 (i := 6) yd_by_cX6_look_0 rfl rfl
theorem dX6_look_7 : decode cX6_look 7 = .ok (.putfield 58, 3) := yd_op_181 (i := 7) (a := 0) (b := 58) yd_by_cX6_look_0 rfl rfl
theorem dX6_look_10 : decode cX6_look 10 = .ok (.aload_n 0, 1) := yd_op_42 (i := 10) yd_by_cX6_look_0 rfl rfl
theorem dX6_look_11 : decode cX6_look 11 = .ok (.iload_n 3, 1) := yd_op_29 (i := 11) yd_by_cX6_look_0 rfl rfl
theorem dX6_look_12 : decode cX6_look 12 = .ok (.putfield 34, 3) := yd_op_181 (i := 12) (a := 0) (b := 34) yd_by_cX6_look_0 rfl rfl
theorem dX6_look_15 : decode cX6_look 15 = .ok (.aload_n 0, 1) := yd_op_42 (i := 15) yd_by_cX6_look_0 rfl rfl
theorem dX6_look_16 : decode cX6_look 16 = .ok (.iconst (-1), 1) := yd_op_2 (i := 16) yd_by_cX6_look_0 rfl rfl
theorem dX6_look_17 : decode cX6_look 17 = .ok (.putfield 38, 3) := yd_op_181 (i := 17) (a := 0) (b := 38) yd_by_cX6_look_0 rfl rfl
theorem dX6_look_20 : decode cX6_look 20 = .ok (.aload_n 0, 1) := yd_op_42 (i := 20) yd_by_cX6_look_0 rfl rfl
theorem dX6_look_21 : decode cX6_look 21 = .ok (.iconst (-1), 1) := yd_op_2 (i := 21) yd_by_cX6_look_0 rfl rfl
theorem dX6_look_22 : decode cX6_look 22 = .ok (.putfield 41, 3) := yd_op_181 (i := 22) (a := 0) (b := 41) yd_by_cX6_look_0 rfl rfl
theorem dX6_look_25 : decode cX6_look 25 = .ok (.iconst 0, 1) := yd_op_3 (i := 25) yd_by_cX6_look_0 rfl rfl
theorem dX6_look_26 : decode cX6_look 26 = .ok (.istore 4, 2) := yd_op_54 (i := 26) (a := 4) yd_by_cX6_look_0 rfl rfl
theorem dX6_look_28 : decode cX6_look 28 = .ok (.iload 4, 2) := yd_op_21 (i := 28) (a := 4) yd_by_cX6_look_0 rfl rfl
theorem dX6_look_30 : decode cX6_look 30 = .ok (.aload_n 0, 1) := yd_op_42 (i := 30) yd_by_cX6_look_0 rfl rfl
theorem dX6_look_31 : decode cX6_look 31 = .ok (.getfield 54, 3) := yd_op_180 (i := 31) (a := 0) (b := 54) yd_by_cX6_look_0 rfl rfl
set_option maxRecDepth 100000 in
theorem yd_by_cX6_look_1 : ydk cX6_look 34 [180, 0, 62, 162, 0, 28, 42, 180, 0, 22, 21, 4, 42, 21, 4, 182, 0, 67, 79, 42, 21, 4, 182, 0, 71, 132, 4, 1, 167, 255, 222, 177] = true := by decide +kernel
theorem dX6_look_34 : decode cX6_look 34 = .ok (.getfield 62, 3) := yd_op_180 (i := 0) (a := 0) (b := 62) yd_by_cX6_look_1 rfl rfl
theorem dX6_look_37 : decode cX6_look 37 = .ok (.if_icmp .ge 28, 3) := yd_op_162 (i := 3) (a := 0) (b := 28) yd_by_cX6_look_1 rfl rfl
theorem dX6_look_40 : decode cX6_look 40 = .ok (.aload_n 0, 1) := yd_op_42 (i := 6) yd_by_cX6_look_1 rfl rfl
theorem dX6_look_41 : decode cX6_look 41 = .ok (.getfield 22, 3) := yd_op_180 (i := 7) (a := 0) (b := 22) yd_by_cX6_look_1 rfl rfl
theorem dX6_look_44 : decode cX6_look 44 = .ok (.iload 4, 2) := yd_op_21 (i := 10) (a := 4) yd_by_cX6_look_1 rfl rfl
theorem dX6_look_46 : decode cX6_look 46 = .ok (.aload_n 0, 1) := yd_op_42 (i := 12) yd_by_cX6_look_1 rfl rfl
theorem dX6_look_47 : decode cX6_look 47 = .ok (.iload 4, 2) := yd_op_21 (i := 13) (a := 4) yd_by_cX6_look_1 rfl rfl
theorem dX6_look_49 : decode cX6_look 49 = .ok (.invokevirtual 67, 3) := yd_op_182 (i := 15) (a := 0) (b := 67) yd_by_cX6_look_1 rfl rfl
theorem dX6_look_52 : decode cX6_look 52 = .ok (.iastore, 1) := yd_op_79 (i := 18) yd_by_cX6_look_1 rfl rfl
theorem dX6_look_53 : decode cX6_look 53 = .ok (.aload_n 0, 1) := yd_op_42 (i := 19) yd_by_cX6_look_1 rfl rfl
theorem dX6_look_54 : decode cX6_look 54 = .ok (.iload 4, 2) := yd_op_21 (i := 20) (a := 4) yd_by_cX6_look_1 rfl rfl
theorem dX6_look_56 : decode cX6_look 56 = .ok (.invokevirtual 71, 3) := yd_op_182 (i := 22) (a := 0) (b := 71) yd_by_cX6_look_1 rfl rfl
theorem dX6_look_59 : decode cX6_look 59 = .ok (.iinc 4 1, 3) := yd_op_132 (i := 25) (a := 4) (b := 1) yd_by_cX6_look_1 rfl rfl
theorem dX6_look_62 : decode cX6_look 62 = .ok (.goto (-34), 3) := yd_op_167 (i := 28) (a := 255) (b := 222) yd_by_cX6_look_1 rfl rfl
theorem dX6_look_65 : decode cX6_look 65 = .ok (.return_, 1) := yd_op_177 (i := 31) yd_by_cX6_look_1 rfl rfl
set_option maxRecDepth 100000 in
theorem yd_by_cX6_countNear_0 : ydk cX6_countNear 0 [3, 61, 3, 62, 29, 42, 180, 0, 54, 180, 0, 62, 162, 0, 42, 42, 180, 0, 58, 27, 42, 180, 0, 58, 180, 0, 75, 29, 46, 42, 180, 0, 58, 180, 0, 80] = true := by decide +kernel
theorem dX6_countNear_0 : decode cX6_countNear 0 = .ok (.iconst 0, 1) := yd_op_3 (i := 0) yd_by_cX6_countNear_0 rfl rfl
theorem dX6_countNear_1 : decode cX6_countNear 1 = .ok (.istore_n 2, 1) := yd_op_61 (i := 1) yd_by_cX6_countNear_0 rfl rfl
theorem dX6_countNear_2 : decode cX6_countNear 2 = .ok (.iconst 0, 1) := yd_op_3 (i := 2) yd_by_cX6_countNear_0 rfl rfl
theorem dX6_countNear_3 : decode cX6_countNear 3 = .ok (.istore_n 3, 1) := yd_op_62 (i := 3) yd_by_cX6_countNear_0 rfl rfl
theorem dX6_countNear_4 : decode cX6_countNear 4 = .ok (.iload_n 3, 1) := yd_op_29 (i := 4) yd_by_cX6_countNear_0 rfl rfl
theorem dX6_countNear_5 : decode cX6_countNear 5 = .ok (.aload_n 0, 1) := yd_op_42 (i := 5) yd_by_cX6_countNear_0 rfl rfl
theorem dX6_countNear_6 : decode cX6_countNear 6 = .ok (.getfield 54, 3) := yd_op_180 (i := 6) (a := 0) (b := 54) yd_by_cX6_countNear_0 rfl rfl
theorem dX6_countNear_9 : decode cX6_countNear 9 = .ok (.getfield 62, 3) := yd_op_180 (i := 9) (a := 0) (b := 62) yd_by_cX6_countNear_0 rfl rfl
theorem dX6_countNear_12 : decode cX6_countNear 12 = .ok (.if_icmp .ge 42, 3) := yd_op_162 (i := 12) (a := 0) (b := 42) yd_by_cX6_countNear_0 rfl rfl
theorem dX6_countNear_15 : decode cX6_countNear 15 = .ok (.aload_n 0, 1) := yd_op_42 (i := 15) yd_by_cX6_countNear_0 rfl rfl
theorem dX6_countNear_16 : decode cX6_countNear 16 = .ok (.getfield 58, 3) := yd_op_180 (i := 16) (a := 0) (b := 58) yd_by_cX6_countNear_0 rfl rfl
theorem dX6_countNear_19 : decode cX6_countNear 19 = .ok (.iload_n 1, 1) := yd_op_27 (i := 19) yd_by_cX6_countNear_0 rfl rfl
theorem dX6_countNear_20 : decode cX6_countNear 20 = .ok (.aload_n 0, 1) := yd_op_42 (i := 20) yd_by_cX6_countNear_0 rfl rfl
theorem dX6_countNear_21 : decode cX6_countNear 21 = .ok (.getfield 58, 3) := yd_op_180 (i := 21) (a := 0) (b := 58) yd_by_cX6_countNear_0 rfl rfl
theorem dX6_countNear_24 : decode cX6_countNear 24 = .ok (.getfield 75, 3) := yd_op_180 (i := 24) (a := 0) (b := 75) yd_by_cX6_countNear_0 rfl rfl
theorem dX6_countNear_27 : decode cX6_countNear 27 = .ok (.iload_n 3, 1) := yd_op_29 (i := 27) yd_by_cX6_countNear_0 rfl rfl
theorem dX6_countNear_28 : decode cX6_countNear 28 = .ok (.iaload, 1) := yd_op_46 (i := 28) yd_by_cX6_countNear_0 rfl rfl
theorem dX6_countNear_29 : decode cX6_countNear 29 = .ok (.aload_n 0, 1) := yd_op_42 (i := 29) yd_by_cX6_countNear_0 rfl rfl
theorem dX6_countNear_30 : decode cX6_countNear 30 = .ok (.getfield 58, 3) := yd_op_180 (i := 30) (a := 0) (b := 58) yd_by_cX6_countNear_0 rfl rfl
theorem dX6_countNear_33 : decode cX6_countNear 33 = .ok (.getfield 80, 3) := yd_op_180 (i := 33) (a := 0) (b := 80) yd_by_cX6_countNear_0 rfl rfl
set_option maxRecDepth 100000 in
theorem yd_by_cX6_countNear_1 : ydk cX6_countNear 36 [29, 46, 182, 0, 83, 4, 160, 0, 6, 132, 2, 1, 132, 3, 1, 167, 255, 209, 28, 172] = true := by decide +kernel
theorem dX6_countNear_36 : decode cX6_countNear 36 = .ok (.iload_n 3, 1) := yd_op_29 (i := 0) yd_by_cX6_countNear_1 rfl rfl
theorem dX6_countNear_37 : decode cX6_countNear 37 = .ok (.iaload, 1) := yd_op_46 (i := 1) yd_by_cX6_countNear_1 rfl rfl
theorem dX6_countNear_38 : decode cX6_countNear 38 = .ok (.invokevirtual 83, 3) := yd_op_182 (i := 2) (a := 0) (b := 83) yd_by_cX6_countNear_1 rfl rfl
theorem dX6_countNear_41 : decode cX6_countNear 41 = .ok (.iconst 1, 1) := yd_op_4 (i := 5) yd_by_cX6_countNear_1 rfl rfl
theorem dX6_countNear_42 : decode cX6_countNear 42 = .ok (.if_icmp .ne 6, 3) := yd_op_160 (i := 6) (a := 0) (b := 6) yd_by_cX6_countNear_1 rfl rfl
theorem dX6_countNear_45 : decode cX6_countNear 45 = .ok (.iinc 2 1, 3) := yd_op_132 (i := 9) (a := 2) (b := 1) yd_by_cX6_countNear_1 rfl rfl
theorem dX6_countNear_48 : decode cX6_countNear 48 = .ok (.iinc 3 1, 3) := yd_op_132 (i := 12) (a := 3) (b := 1) yd_by_cX6_countNear_1 rfl rfl
theorem dX6_countNear_51 : decode cX6_countNear 51 = .ok (.goto (-47), 3) := yd_op_167 (i := 15) (a := 255) (b := 209) yd_by_cX6_countNear_1 rfl rfl
theorem dX6_countNear_54 : decode cX6_countNear 54 = .ok (.iload_n 2, 1) := yd_op_28 (i := 18) yd_by_cX6_countNear_1 rfl rfl
theorem dX6_countNear_55 : decode cX6_countNear 55 = .ok (.ireturn, 1) := yd_op_172 (i := 19) yd_by_cX6_countNear_1 rfl rfl
set_option maxRecDepth 100000 in
theorem yd_by_cX6_measureLift_0 : ydk cX6_measureLift 0 [3, 61, 28, 42, 180, 0, 54, 180, 0, 87, 162, 0, 62, 3, 62, 29, 42, 180, 0, 54, 180, 0, 90, 162, 0, 43, 42, 180, 0, 18, 27, 16, 36, 104, 42] = true := by decide +kernel
theorem dX6_measureLift_0 : decode cX6_measureLift 0 = .ok (.iconst 0, 1) := yd_op_3 (i := 0) yd_by_cX6_measureLift_0 rfl rfl
theorem dX6_measureLift_1 : decode cX6_measureLift 1 = .ok (.istore_n 2, 1) := yd_op_61 (i := 1) yd_by_cX6_measureLift_0 rfl rfl
theorem dX6_measureLift_2 : decode cX6_measureLift 2 = .ok (.iload_n 2, 1) := yd_op_28 (i := 2) yd_by_cX6_measureLift_0 rfl rfl
theorem dX6_measureLift_3 : decode cX6_measureLift 3 = .ok (.aload_n 0, 1) := yd_op_42 (i := 3) yd_by_cX6_measureLift_0 rfl rfl
theorem dX6_measureLift_4 : decode cX6_measureLift 4 = .ok (.getfield 54, 3) := yd_op_180 (i := 4) (a := 0) (b := 54) yd_by_cX6_measureLift_0 rfl rfl
theorem dX6_measureLift_7 : decode cX6_measureLift 7 = .ok (.getfield 87, 3) := yd_op_180 (i := 7) (a := 0) (b := 87) yd_by_cX6_measureLift_0 rfl rfl
theorem dX6_measureLift_10 : decode cX6_measureLift 10 = .ok (.if_icmp .ge 62, 3) := yd_op_162 (i := 10) (a := 0) (b := 62) yd_by_cX6_measureLift_0 rfl rfl
theorem dX6_measureLift_13 : decode cX6_measureLift 13 = .ok (.iconst 0, 1) := yd_op_3 (i := 13) yd_by_cX6_measureLift_0 rfl rfl
theorem dX6_measureLift_14 : decode cX6_measureLift 14 = .ok (.istore_n 3, 1) := yd_op_62 (i := 14) yd_by_cX6_measureLift_0 rfl rfl
theorem dX6_measureLift_15 : decode cX6_measureLift 15 = .ok (.iload_n 3, 1) := yd_op_29 (i := 15) yd_by_cX6_measureLift_0 rfl rfl
theorem dX6_measureLift_16 : decode cX6_measureLift 16 = .ok (.aload_n 0, 1) := yd_op_42 (i := 16) yd_by_cX6_measureLift_0 rfl rfl
theorem dX6_measureLift_17 : decode cX6_measureLift 17 = .ok (.getfield 54, 3) := yd_op_180 (i := 17) (a := 0) (b := 54) yd_by_cX6_measureLift_0 rfl rfl
theorem dX6_measureLift_20 : decode cX6_measureLift 20 = .ok (.getfield 90, 3) := yd_op_180 (i := 20) (a := 0) (b := 90) yd_by_cX6_measureLift_0 rfl rfl
theorem dX6_measureLift_23 : decode cX6_measureLift 23 = .ok (.if_icmp .ge 43, 3) := yd_op_162 (i := 23) (a := 0) (b := 43) yd_by_cX6_measureLift_0 rfl rfl
theorem dX6_measureLift_26 : decode cX6_measureLift 26 = .ok (.aload_n 0, 1) := yd_op_42 (i := 26) yd_by_cX6_measureLift_0 rfl rfl
theorem dX6_measureLift_27 : decode cX6_measureLift 27 = .ok (.getfield 18, 3) := yd_op_180 (i := 27) (a := 0) (b := 18) yd_by_cX6_measureLift_0 rfl rfl
theorem dX6_measureLift_30 : decode cX6_measureLift 30 = .ok (.iload_n 1, 1) := yd_op_27 (i := 30) yd_by_cX6_measureLift_0 rfl rfl
theorem dX6_measureLift_31 : decode cX6_measureLift 31 = .ok (.bipush 36, 2) := yd_op_16 (i := 31) (a := 36) yd_by_cX6_measureLift_0 rfl rfl
theorem dX6_measureLift_33 : decode cX6_measureLift 33 = .ok (.imul, 1) := yd_op_104 (i := 33) yd_by_cX6_measureLift_0 rfl rfl
theorem dX6_measureLift_34 : decode cX6_measureLift 34 = .ok (.aload_n 0, 1) := yd_op_42 (i := 34) yd_by_cX6_measureLift_0 rfl rfl
set_option maxRecDepth 100000 in
theorem yd_by_cX6_measureLift_1 : ydk cX6_measureLift 35 [180, 0, 54, 29, 28, 182, 0, 93, 96, 42, 27, 42, 180, 0, 58, 27, 29, 28, 182, 0, 83, 182, 0, 97, 79, 132, 3, 1, 167, 255, 208, 132, 2, 1, 167, 255, 189, 177] = true := by decide +kernel
theorem dX6_measureLift_35 : decode cX6_measureLift 35 = .ok (.getfield 54, 3) := yd_op_180 (i := 0) (a := 0) (b := 54) yd_by_cX6_measureLift_1 rfl rfl
theorem dX6_measureLift_38 : decode cX6_measureLift 38 = .ok (.iload_n 3, 1) := yd_op_29 (i := 3) yd_by_cX6_measureLift_1 rfl rfl
theorem dX6_measureLift_39 : decode cX6_measureLift 39 = .ok (.iload_n 2, 1) := yd_op_28 (i := 4) yd_by_cX6_measureLift_1 rfl rfl
theorem dX6_measureLift_40 : decode cX6_measureLift 40 = .ok (.invokevirtual 93, 3) := yd_op_182 (i := 5) (a := 0) (b := 93) yd_by_cX6_measureLift_1 rfl rfl
theorem dX6_measureLift_43 : decode cX6_measureLift 43 = .ok (.iadd, 1) := yd_op_96 (i := 8) yd_by_cX6_measureLift_1 rfl rfl
theorem dX6_measureLift_44 : decode cX6_measureLift 44 = .ok (.aload_n 0, 1) := yd_op_42 (i := 9) yd_by_cX6_measureLift_1 rfl rfl
theorem dX6_measureLift_45 : decode cX6_measureLift 45 = .ok (.iload_n 1, 1) := yd_op_27 (i := 10) yd_by_cX6_measureLift_1 rfl rfl
theorem dX6_measureLift_46 : decode cX6_measureLift 46 = .ok (.aload_n 0, 1) := yd_op_42 (i := 11) yd_by_cX6_measureLift_1 rfl rfl
theorem dX6_measureLift_47 : decode cX6_measureLift 47 = .ok (.getfield 58, 3) := yd_op_180 (i := 12) (a := 0) (b := 58) yd_by_cX6_measureLift_1 rfl rfl
theorem dX6_measureLift_50 : decode cX6_measureLift 50 = .ok (.iload_n 1, 1) := yd_op_27 (i := 15) yd_by_cX6_measureLift_1 rfl rfl
theorem dX6_measureLift_51 : decode cX6_measureLift 51 = .ok (.iload_n 3, 1) := yd_op_29 (i := 16) yd_by_cX6_measureLift_1 rfl rfl
theorem dX6_measureLift_52 : decode cX6_measureLift 52 = .ok (.iload_n 2, 1) := yd_op_28 (i := 17) yd_by_cX6_measureLift_1 rfl rfl
theorem dX6_measureLift_53 : decode cX6_measureLift 53 = .ok (.invokevirtual 83, 3) := yd_op_182 (i := 18) (a := 0) (b := 83) yd_by_cX6_measureLift_1 rfl rfl
theorem dX6_measureLift_56 : decode cX6_measureLift 56 = .ok (.invokevirtual 97, 3) := yd_op_182 (i := 21) (a := 0) (b := 97) yd_by_cX6_measureLift_1 rfl rfl
theorem dX6_measureLift_59 : decode cX6_measureLift 59 = .ok (.iastore, 1) := yd_op_79 (i := 24) yd_by_cX6_measureLift_1 rfl rfl
theorem dX6_measureLift_60 : decode cX6_measureLift 60 = .ok (.iinc 3 1, 3) := yd_op_132 (i := 25) (a := 3) (b := 1) yd_by_cX6_measureLift_1 rfl rfl
theorem dX6_measureLift_63 : decode cX6_measureLift 63 = .ok (.goto (-48), 3) := yd_op_167 (i := 28) (a := 255) (b := 208) yd_by_cX6_measureLift_1 rfl rfl
theorem dX6_measureLift_66 : decode cX6_measureLift 66 = .ok (.iinc 2 1, 3) := yd_op_132 (i := 31) (a := 2) (b := 1) yd_by_cX6_measureLift_1 rfl rfl
theorem dX6_measureLift_69 : decode cX6_measureLift 69 = .ok (.goto (-67), 3) := yd_op_167 (i := 34) (a := 255) (b := 189) yd_by_cX6_measureLift_1 rfl rfl
theorem dX6_measureLift_72 : decode cX6_measureLift 72 = .ok (.return_, 1) := yd_op_177 (i := 37) yd_by_cX6_measureLift_1 rfl rfl
set_option maxRecDepth 100000 in
theorem yd_by_cX6_liftOver_0 : ydk cX6_liftOver 0 [3, 42, 180, 0, 54, 180, 0, 100, 27, 46, 42, 180, 0, 34, 96, 42, 180, 0, 54, 180, 0, 103, 28, 104, 100, 184, 0, 106, 172] = true := by decide +kernel
theorem dX6_liftOver_0 : decode cX6_liftOver 0 = .ok (.iconst 0, 1) := yd_op_3 (i := 0) yd_by_cX6_liftOver_0 rfl rfl
theorem dX6_liftOver_1 : decode cX6_liftOver 1 = .ok (.aload_n 0, 1) := yd_op_42 (i := 1) yd_by_cX6_liftOver_0 rfl rfl
theorem dX6_liftOver_2 : decode cX6_liftOver 2 = .ok (.getfield 54, 3) := yd_op_180 (i := 2) (a := 0) (b := 54) yd_by_cX6_liftOver_0 rfl rfl
theorem dX6_liftOver_5 : decode cX6_liftOver 5 = .ok (.getfield 100, 3) := yd_op_180 (i := 5) (a := 0) (b := 100) yd_by_cX6_liftOver_0 rfl rfl
theorem dX6_liftOver_8 : decode cX6_liftOver 8 = .ok (.iload_n 1, 1) := yd_op_27 (i := 8) yd_by_cX6_liftOver_0 rfl rfl
theorem dX6_liftOver_9 : decode cX6_liftOver 9 = .ok (.iaload, 1) := yd_op_46 (i := 9) yd_by_cX6_liftOver_0 rfl rfl
theorem dX6_liftOver_10 : decode cX6_liftOver 10 = .ok (.aload_n 0, 1) := yd_op_42 (i := 10) yd_by_cX6_liftOver_0 rfl rfl
theorem dX6_liftOver_11 : decode cX6_liftOver 11 = .ok (.getfield 34, 3) := yd_op_180 (i := 11) (a := 0) (b := 34) yd_by_cX6_liftOver_0 rfl rfl
theorem dX6_liftOver_14 : decode cX6_liftOver 14 = .ok (.iadd, 1) := yd_op_96 (i := 14) yd_by_cX6_liftOver_0 rfl rfl
theorem dX6_liftOver_15 : decode cX6_liftOver 15 = .ok (.aload_n 0, 1) := yd_op_42 (i := 15) yd_by_cX6_liftOver_0 rfl rfl
theorem dX6_liftOver_16 : decode cX6_liftOver 16 = .ok (.getfield 54, 3) := yd_op_180 (i := 16) (a := 0) (b := 54) yd_by_cX6_liftOver_0 rfl rfl
theorem dX6_liftOver_19 : decode cX6_liftOver 19 = .ok (.getfield 103, 3) := yd_op_180 (i := 19) (a := 0) (b := 103) yd_by_cX6_liftOver_0 rfl rfl
theorem dX6_liftOver_22 : decode cX6_liftOver 22 = .ok (.iload_n 2, 1) := yd_op_28 (i := 22) yd_by_cX6_liftOver_0 rfl rfl
theorem dX6_liftOver_23 : decode cX6_liftOver 23 = .ok (.imul, 1) := yd_op_104 (i := 23) yd_by_cX6_liftOver_0 rfl rfl
theorem dX6_liftOver_24 : decode cX6_liftOver 24 = .ok (.isub, 1) := yd_op_100 (i := 24) yd_by_cX6_liftOver_0 rfl rfl
theorem dX6_liftOver_25 : decode cX6_liftOver 25 = .ok (.invokestatic 106, 3) := yd_op_184 (i := 25) (a := 0) (b := 106) yd_by_cX6_liftOver_0 rfl rfl
theorem dX6_liftOver_28 : decode cX6_liftOver 28 = .ok (.ireturn, 1) := yd_op_172 (i := 28) yd_by_cX6_liftOver_0 rfl rfl
set_option maxRecDepth 100000 in
theorem yd_by_cX6_showTime_0 : ydk cX6_showTime 0 [42, 180, 0, 12, 180, 0, 111, 16, 12, 42, 180, 0, 58, 180, 0, 114, 79, 42, 180, 0, 12, 180, 0, 111, 16, 13, 42, 180, 0, 58, 180, 0, 117, 184, 0, 120, 79, 177] = true := by decide +kernel
theorem dX6_showTime_0 : decode cX6_showTime 0 = .ok (.aload_n 0, 1) := yd_op_42 (i := 0) yd_by_cX6_showTime_0 rfl rfl
theorem dX6_showTime_1 : decode cX6_showTime 1 = .ok (.getfield 12, 3) := yd_op_180 (i := 1) (a := 0) (b := 12) yd_by_cX6_showTime_0 rfl rfl
theorem dX6_showTime_4 : decode cX6_showTime 4 = .ok (.getfield 111, 3) := yd_op_180 (i := 4) (a := 0) (b := 111) yd_by_cX6_showTime_0 rfl rfl
theorem dX6_showTime_7 : decode cX6_showTime 7 = .ok (.bipush 12, 2) := yd_op_16 (i := 7) (a := 12) yd_by_cX6_showTime_0 rfl rfl
theorem dX6_showTime_9 : decode cX6_showTime 9 = .ok (.aload_n 0, 1) := yd_op_42 (i := 9) yd_by_cX6_showTime_0 rfl rfl
theorem dX6_showTime_10 : decode cX6_showTime 10 = .ok (.getfield 58, 3) := yd_op_180 (i := 10) (a := 0) (b := 58) yd_by_cX6_showTime_0 rfl rfl
theorem dX6_showTime_13 : decode cX6_showTime 13 = .ok (.getfield 114, 3) := yd_op_180 (i := 13) (a := 0) (b := 114) yd_by_cX6_showTime_0 rfl rfl
theorem dX6_showTime_16 : decode cX6_showTime 16 = .ok (.iastore, 1) := yd_op_79 (i := 16) yd_by_cX6_showTime_0 rfl rfl
theorem dX6_showTime_17 : decode cX6_showTime 17 = .ok (.aload_n 0, 1) := yd_op_42 (i := 17) yd_by_cX6_showTime_0 rfl rfl
theorem dX6_showTime_18 : decode cX6_showTime 18 = .ok (.getfield 12, 3) := yd_op_180 (i := 18) (a := 0) (b := 12) yd_by_cX6_showTime_0 rfl rfl
theorem dX6_showTime_21 : decode cX6_showTime 21 = .ok (.getfield 111, 3) := yd_op_180 (i := 21) (a := 0) (b := 111) yd_by_cX6_showTime_0 rfl rfl
theorem dX6_showTime_24 : decode cX6_showTime 24 = .ok (.bipush 13, 2) := yd_op_16 (i := 24) (a := 13) yd_by_cX6_showTime_0 rfl rfl
theorem dX6_showTime_26 : decode cX6_showTime 26 = .ok (.aload_n 0, 1) := yd_op_42 (i := 26) yd_by_cX6_showTime_0 rfl rfl
theorem dX6_showTime_27 : decode cX6_showTime 27 = .ok (.getfield 58, 3) := yd_op_180 (i := 27) (a := 0) (b := 58) yd_by_cX6_showTime_0 rfl rfl
theorem dX6_showTime_30 : decode cX6_showTime 30 = .ok (.getfield 117, 3) := yd_op_180 (i := 30) (a := 0) (b := 117) yd_by_cX6_showTime_0 rfl rfl
theorem dX6_showTime_33 : decode cX6_showTime 33 = .ok (.invokestatic 120, 3) := yd_op_184 (i := 33) (a := 0) (b := 120) yd_by_cX6_showTime_0 rfl rfl
theorem dX6_showTime_36 : decode cX6_showTime 36 = .ok (.iastore, 1) := yd_op_79 (i := 36) yd_by_cX6_showTime_0 rfl rfl
theorem dX6_showTime_37 : decode cX6_showTime 37 = .ok (.return_, 1) := yd_op_177 (i := 37) yd_by_cX6_showTime_0 rfl rfl
set_option maxRecDepth 100000 in
theorem yd_by_cX6_showPerson_0 : ydk cX6_showPerson 0 [42, 180, 0, 12, 180, 0, 111, 16, 6, 42, 180, 0, 54, 180, 0, 100, 27, 46, 42, 180, 0, 34, 96, 79, 42, 180, 0, 12, 180, 0, 111, 16, 15, 42, 180, 0, 58, 180, 0, 126] = true := by decide +kernel
theorem dX6_showPerson_0 : decode cX6_showPerson 0 = .ok (.aload_n 0, 1) := yd_op_42 (i := 0) yd_by_cX6_showPerson_0 rfl rfl
theorem dX6_showPerson_1 : decode cX6_showPerson 1 = .ok (.getfield 12, 3) := yd_op_180 (i := 1) (a := 0) (b := 12) yd_by_cX6_showPerson_0 rfl rfl
theorem dX6_showPerson_4 : decode cX6_showPerson 4 = .ok (.getfield 111, 3) := yd_op_180 (i := 4) (a := 0) (b := 111) yd_by_cX6_showPerson_0 rfl rfl
theorem dX6_showPerson_7 : decode cX6_showPerson 7 = .ok (.bipush 6, 2) := yd_op_16 (i := 7) (a := 6) yd_by_cX6_showPerson_0 rfl rfl
theorem dX6_showPerson_9 : decode cX6_showPerson 9 = .ok (.aload_n 0, 1) := yd_op_42 (i := 9) yd_by_cX6_showPerson_0 rfl rfl
theorem dX6_showPerson_10 : decode cX6_showPerson 10 = .ok (.getfield 54, 3) := yd_op_180 (i := 10) (a := 0) (b := 54) yd_by_cX6_showPerson_0 rfl rfl
theorem dX6_showPerson_13 : decode cX6_showPerson 13 = .ok (.getfield 100, 3) := yd_op_180 (i := 13) (a := 0) (b := 100) yd_by_cX6_showPerson_0 rfl rfl
theorem dX6_showPerson_16 : decode cX6_showPerson 16 = .ok (.iload_n 1, 1) := yd_op_27 (i := 16) yd_by_cX6_showPerson_0 rfl rfl
theorem dX6_showPerson_17 : decode cX6_showPerson 17 = .ok (.iaload, 1) := yd_op_46 (i := 17) yd_by_cX6_showPerson_0 rfl rfl
theorem dX6_showPerson_18 : decode cX6_showPerson 18 = .ok (.aload_n 0, 1) := yd_op_42 (i := 18) yd_by_cX6_showPerson_0 rfl rfl
theorem dX6_showPerson_19 : decode cX6_showPerson 19 = .ok (.getfield 34, 3) := yd_op_180 (i := 19) (a := 0) (b := 34) yd_by_cX6_showPerson_0 rfl rfl
theorem dX6_showPerson_22 : decode cX6_showPerson 22 = .ok (.iadd, 1) := yd_op_96 (i := 22) yd_by_cX6_showPerson_0 rfl rfl
theorem dX6_showPerson_23 : decode cX6_showPerson 23 = .ok (.iastore, 1) := yd_op_79 (i := 23) yd_by_cX6_showPerson_0 rfl rfl
theorem dX6_showPerson_24 : decode cX6_showPerson 24 = .ok (.aload_n 0, 1) := yd_op_42 (i := 24) yd_by_cX6_showPerson_0 rfl rfl
theorem dX6_showPerson_25 : decode cX6_showPerson 25 = .ok (.getfield 12, 3) := yd_op_180 (i := 25) (a := 0) (b := 12) yd_by_cX6_showPerson_0 rfl rfl
theorem dX6_showPerson_28 : decode cX6_showPerson 28 = .ok (.getfield 111, 3) := yd_op_180 (i := 28) (a := 0) (b := 111) yd_by_cX6_showPerson_0 rfl rfl
theorem dX6_showPerson_31 : decode cX6_showPerson 31 = .ok (.bipush 15, 2) := yd_op_16 (i := 31) (a := 15) yd_by_cX6_showPerson_0 rfl rfl
theorem dX6_showPerson_33 : decode cX6_showPerson 33 = .ok (.aload_n 0, 1) := yd_op_42 (i := 33) yd_by_cX6_showPerson_0 rfl rfl
theorem dX6_showPerson_34 : decode cX6_showPerson 34 = .ok (.getfield 58, 3) := yd_op_180 (i := 34) (a := 0) (b := 58) yd_by_cX6_showPerson_0 rfl rfl
theorem dX6_showPerson_37 : decode cX6_showPerson 37 = .ok (.getfield 126, 3) := yd_op_180 (i := 37) (a := 0) (b := 126) yd_by_cX6_showPerson_0 rfl rfl
set_option maxRecDepth 100000 in
theorem yd_by_cX6_showPerson_1 : ydk cX6_showPerson 40 [27, 46, 79, 42, 180, 0, 12, 180, 0, 111, 16, 16, 42, 180, 0, 22, 27, 46, 79, 177] = true := by decide +kernel
theorem dX6_showPerson_40 : decode cX6_showPerson 40 = .ok (.iload_n 1, 1) := yd_op_27 (i := 0) yd_by_cX6_showPerson_1 rfl rfl
theorem dX6_showPerson_41 : decode cX6_showPerson 41 = .ok (.iaload, 1) := yd_op_46 (i := 1) yd_by_cX6_showPerson_1 rfl rfl
theorem dX6_showPerson_42 : decode cX6_showPerson 42 = .ok (.iastore, 1) := yd_op_79 (i := 2) yd_by_cX6_showPerson_1 rfl rfl
theorem dX6_showPerson_43 : decode cX6_showPerson 43 = .ok (.aload_n 0, 1) := yd_op_42 (i := 3) yd_by_cX6_showPerson_1 rfl rfl
theorem dX6_showPerson_44 : decode cX6_showPerson 44 = .ok (.getfield 12, 3) := yd_op_180 (i := 4) (a := 0) (b := 12) yd_by_cX6_showPerson_1 rfl rfl
theorem dX6_showPerson_47 : decode cX6_showPerson 47 = .ok (.getfield 111, 3) := yd_op_180 (i := 7) (a := 0) (b := 111) yd_by_cX6_showPerson_1 rfl rfl
theorem dX6_showPerson_50 : decode cX6_showPerson 50 = .ok (.bipush 16, 2) := yd_op_16 (i := 10) (a := 16) yd_by_cX6_showPerson_1 rfl rfl
theorem dX6_showPerson_52 : decode cX6_showPerson 52 = .ok (.aload_n 0, 1) := yd_op_42 (i := 12) yd_by_cX6_showPerson_1 rfl rfl
theorem dX6_showPerson_53 : decode cX6_showPerson 53 = .ok (.getfield 22, 3) := yd_op_180 (i := 13) (a := 0) (b := 22) yd_by_cX6_showPerson_1 rfl rfl
theorem dX6_showPerson_56 : decode cX6_showPerson 56 = .ok (.iload_n 1, 1) := yd_op_27 (i := 16) yd_by_cX6_showPerson_1 rfl rfl
theorem dX6_showPerson_57 : decode cX6_showPerson 57 = .ok (.iaload, 1) := yd_op_46 (i := 17) yd_by_cX6_showPerson_1 rfl rfl
theorem dX6_showPerson_58 : decode cX6_showPerson 58 = .ok (.iastore, 1) := yd_op_79 (i := 18) yd_by_cX6_showPerson_1 rfl rfl
theorem dX6_showPerson_59 : decode cX6_showPerson 59 = .ok (.return_, 1) := yd_op_177 (i := 19) yd_by_cX6_showPerson_1 rfl rfl
set_option maxRecDepth 100000 in
theorem yd_by_cX6_showAsked_0 : ydk cX6_showAsked 0 [42, 27, 182, 0, 129, 42, 180, 0, 12, 180, 0, 111, 16, 17, 27, 79, 42, 180, 0, 12, 180, 0, 111, 16, 18, 42, 180, 0, 58, 180, 0, 75, 27, 46, 79, 42] = true := by decide +kernel
theorem dX6_showAsked_0 : decode cX6_showAsked 0 = .ok (.aload_n 0, 1) := yd_op_42 (i := 0) yd_by_cX6_showAsked_0 rfl rfl
theorem dX6_showAsked_1 : decode cX6_showAsked 1 = .ok (.iload_n 1, 1) := yd_op_27 (i := 1) yd_by_cX6_showAsked_0 rfl rfl
theorem dX6_showAsked_2 : decode cX6_showAsked 2 = .ok (.invokevirtual 129, 3) := yd_op_182 (i := 2) (a := 0) (b := 129) yd_by_cX6_showAsked_0 rfl rfl
theorem dX6_showAsked_5 : decode cX6_showAsked 5 = .ok (.aload_n 0, 1) := yd_op_42 (i := 5) yd_by_cX6_showAsked_0 rfl rfl
theorem dX6_showAsked_6 : decode cX6_showAsked 6 = .ok (.getfield 12, 3) := yd_op_180 (i := 6) (a := 0) (b := 12) yd_by_cX6_showAsked_0 rfl rfl
theorem dX6_showAsked_9 : decode cX6_showAsked 9 = .ok (.getfield 111, 3) := yd_op_180 (i := 9) (a := 0) (b := 111) yd_by_cX6_showAsked_0 rfl rfl
theorem dX6_showAsked_12 : decode cX6_showAsked 12 = .ok (.bipush 17, 2) := yd_op_16 (i := 12) (a := 17) yd_by_cX6_showAsked_0 rfl rfl
theorem dX6_showAsked_14 : decode cX6_showAsked 14 = .ok (.iload_n 1, 1) := yd_op_27 (i := 14) yd_by_cX6_showAsked_0 rfl rfl
theorem dX6_showAsked_15 : decode cX6_showAsked 15 = .ok (.iastore, 1) := yd_op_79 (i := 15) yd_by_cX6_showAsked_0 rfl rfl
theorem dX6_showAsked_16 : decode cX6_showAsked 16 = .ok (.aload_n 0, 1) := yd_op_42 (i := 16) yd_by_cX6_showAsked_0 rfl rfl
theorem dX6_showAsked_17 : decode cX6_showAsked 17 = .ok (.getfield 12, 3) := yd_op_180 (i := 17) (a := 0) (b := 12) yd_by_cX6_showAsked_0 rfl rfl
theorem dX6_showAsked_20 : decode cX6_showAsked 20 = .ok (.getfield 111, 3) := yd_op_180 (i := 20) (a := 0) (b := 111) yd_by_cX6_showAsked_0 rfl rfl
theorem dX6_showAsked_23 : decode cX6_showAsked 23 = .ok (.bipush 18, 2) := yd_op_16 (i := 23) (a := 18) yd_by_cX6_showAsked_0 rfl rfl
theorem dX6_showAsked_25 : decode cX6_showAsked 25 = .ok (.aload_n 0, 1) := yd_op_42 (i := 25) yd_by_cX6_showAsked_0 rfl rfl
theorem dX6_showAsked_26 : decode cX6_showAsked 26 = .ok (.getfield 58, 3) := yd_op_180 (i := 26) (a := 0) (b := 58) yd_by_cX6_showAsked_0 rfl rfl
theorem dX6_showAsked_29 : decode cX6_showAsked 29 = .ok (.getfield 75, 3) := yd_op_180 (i := 29) (a := 0) (b := 75) yd_by_cX6_showAsked_0 rfl rfl
theorem dX6_showAsked_32 : decode cX6_showAsked 32 = .ok (.iload_n 1, 1) := yd_op_27 (i := 32) yd_by_cX6_showAsked_0 rfl rfl
theorem dX6_showAsked_33 : decode cX6_showAsked 33 = .ok (.iaload, 1) := yd_op_46 (i := 33) yd_by_cX6_showAsked_0 rfl rfl
theorem dX6_showAsked_34 : decode cX6_showAsked 34 = .ok (.iastore, 1) := yd_op_79 (i := 34) yd_by_cX6_showAsked_0 rfl rfl
theorem dX6_showAsked_35 : decode cX6_showAsked 35 = .ok (.aload_n 0, 1) := yd_op_42 (i := 35) yd_by_cX6_showAsked_0 rfl rfl
set_option maxRecDepth 100000 in
theorem yd_by_cX6_showAsked_1 : ydk cX6_showAsked 36 [180, 0, 12, 180, 0, 111, 16, 19, 42, 180, 0, 58, 180, 0, 80, 27, 46, 79, 42, 180, 0, 12, 180, 0, 111, 16, 8, 28, 27, 122, 4, 126, 79, 42] = true := by decide +kernel
theorem dX6_showAsked_36 : decode cX6_showAsked 36 = .ok (.getfield 12, 3) := yd_op_180 (i := 0) (a := 0) (b := 12) yd_by_cX6_showAsked_1 rfl rfl
theorem dX6_showAsked_39 : decode cX6_showAsked 39 = .ok (.getfield 111, 3) := yd_op_180 (i := 3) (a := 0) (b := 111) yd_by_cX6_showAsked_1 rfl rfl
theorem dX6_showAsked_42 : decode cX6_showAsked 42 = .ok (.bipush 19, 2) := yd_op_16 (i := 6) (a := 19) yd_by_cX6_showAsked_1 rfl rfl
theorem dX6_showAsked_44 : decode cX6_showAsked 44 = .ok (.aload_n 0, 1) := yd_op_42 (i := 8) yd_by_cX6_showAsked_1 rfl rfl
theorem dX6_showAsked_45 : decode cX6_showAsked 45 = .ok (.getfield 58, 3) := yd_op_180 (i := 9) (a := 0) (b := 58) yd_by_cX6_showAsked_1 rfl rfl
theorem dX6_showAsked_48 : decode cX6_showAsked 48 = .ok (.getfield 80, 3) := yd_op_180 (i := 12) (a := 0) (b := 80) yd_by_cX6_showAsked_1 rfl rfl
theorem dX6_showAsked_51 : decode cX6_showAsked 51 = .ok (.iload_n 1, 1) := yd_op_27 (i := 15) yd_by_cX6_showAsked_1 rfl rfl
theorem dX6_showAsked_52 : decode cX6_showAsked 52 = .ok (.iaload, 1) := yd_op_46 (i := 16) yd_by_cX6_showAsked_1 rfl rfl
theorem dX6_showAsked_53 : decode cX6_showAsked 53 = .ok (.iastore, 1) := yd_op_79 (i := 17) yd_by_cX6_showAsked_1 rfl rfl
theorem dX6_showAsked_54 : decode cX6_showAsked 54 = .ok (.aload_n 0, 1) := yd_op_42 (i := 18) yd_by_cX6_showAsked_1 rfl rfl
theorem dX6_showAsked_55 : decode cX6_showAsked 55 = .ok (.getfield 12, 3) := yd_op_180 (i := 19) (a := 0) (b := 12) yd_by_cX6_showAsked_1 rfl rfl
theorem dX6_showAsked_58 : decode cX6_showAsked 58 = .ok (.getfield 111, 3) := yd_op_180 (i := 22) (a := 0) (b := 111) yd_by_cX6_showAsked_1 rfl rfl
theorem dX6_showAsked_61 : decode cX6_showAsked 61 = .ok (.bipush 8, 2) := yd_op_16 (i := 25) (a := 8) yd_by_cX6_showAsked_1 rfl rfl
theorem dX6_showAsked_63 : decode cX6_showAsked 63 = .ok (.iload_n 2, 1) := yd_op_28 (i := 27) yd_by_cX6_showAsked_1 rfl rfl
theorem dX6_showAsked_64 : decode cX6_showAsked 64 = .ok (.iload_n 1, 1) := yd_op_27 (i := 28) yd_by_cX6_showAsked_1 rfl rfl
theorem dX6_showAsked_65 : decode cX6_showAsked 65 = .ok (.ishr, 1) := yd_op_122 (i := 29) yd_by_cX6_showAsked_1 rfl rfl
theorem dX6_showAsked_66 : decode cX6_showAsked 66 = .ok (.iconst 1, 1) := yd_op_4 (i := 30) yd_by_cX6_showAsked_1 rfl rfl
theorem dX6_showAsked_67 : decode cX6_showAsked 67 = .ok (.iand, 1) := yd_op_126 (i := 31) yd_by_cX6_showAsked_1 rfl rfl
theorem dX6_showAsked_68 : decode cX6_showAsked 68 = .ok (.iastore, 1) := yd_op_79 (i := 32) yd_by_cX6_showAsked_1 rfl rfl
theorem dX6_showAsked_69 : decode cX6_showAsked 69 = .ok (.aload_n 0, 1) := yd_op_42 (i := 33) yd_by_cX6_showAsked_1 rfl rfl
set_option maxRecDepth 100000 in
theorem yd_by_cX6_showAsked_2 : ydk cX6_showAsked 70 [180, 0, 12, 42, 180, 0, 54, 180, 0, 62, 181, 0, 132, 3, 62, 29, 42, 180, 0, 54, 180, 0, 62, 162, 0, 44, 42, 180, 0, 12, 180, 0, 133, 29, 42, 180, 0, 58, 27, 42] = true := by decide +kernel
theorem dX6_showAsked_70 : decode cX6_showAsked 70 = .ok (.getfield 12, 3) := yd_op_180 (i := 0) (a := 0) (b := 12) yd_by_cX6_showAsked_2 rfl rfl
theorem dX6_showAsked_73 : decode cX6_showAsked 73 = .ok (.aload_n 0, 1) := yd_op_42 (i := 3) yd_by_cX6_showAsked_2 rfl rfl
theorem dX6_showAsked_74 : decode cX6_showAsked 74 = .ok (.getfield 54, 3) := yd_op_180 (i := 4) (a := 0) (b := 54) yd_by_cX6_showAsked_2 rfl rfl
theorem dX6_showAsked_77 : decode cX6_showAsked 77 = .ok (.getfield 62, 3) := yd_op_180 (i := 7) (a := 0) (b := 62) yd_by_cX6_showAsked_2 rfl rfl
theorem dX6_showAsked_80 : decode cX6_showAsked 80 = .ok (.putfield 132, 3) := yd_op_181 (i := 10) (a := 0) (b := 132) yd_by_cX6_showAsked_2 rfl rfl
theorem dX6_showAsked_83 : decode cX6_showAsked 83 = .ok (.iconst 0, 1) := yd_op_3 (i := 13) yd_by_cX6_showAsked_2 rfl rfl
theorem dX6_showAsked_84 : decode cX6_showAsked 84 = .ok (.istore_n 3, 1) := yd_op_62 (i := 14) yd_by_cX6_showAsked_2 rfl rfl
theorem dX6_showAsked_85 : decode cX6_showAsked 85 = .ok (.iload_n 3, 1) := yd_op_29 (i := 15) yd_by_cX6_showAsked_2 rfl rfl
theorem dX6_showAsked_86 : decode cX6_showAsked 86 = .ok (.aload_n 0, 1) := yd_op_42 (i := 16) yd_by_cX6_showAsked_2 rfl rfl
theorem dX6_showAsked_87 : decode cX6_showAsked 87 = .ok (.getfield 54, 3) := yd_op_180 (i := 17) (a := 0) (b := 54) yd_by_cX6_showAsked_2 rfl rfl
theorem dX6_showAsked_90 : decode cX6_showAsked 90 = .ok (.getfield 62, 3) := yd_op_180 (i := 20) (a := 0) (b := 62) yd_by_cX6_showAsked_2 rfl rfl
theorem dX6_showAsked_93 : decode cX6_showAsked 93 = .ok (.if_icmp .ge 44, 3) := yd_op_162 (i := 23) (a := 0) (b := 44) yd_by_cX6_showAsked_2 rfl rfl
theorem dX6_showAsked_96 : decode cX6_showAsked 96 = .ok (.aload_n 0, 1) := yd_op_42 (i := 26) yd_by_cX6_showAsked_2 rfl rfl
theorem dX6_showAsked_97 : decode cX6_showAsked 97 = .ok (.getfield 12, 3) := yd_op_180 (i := 27) (a := 0) (b := 12) yd_by_cX6_showAsked_2 rfl rfl
theorem dX6_showAsked_100 : decode cX6_showAsked 100 = .ok (.getfield 133, 3) := yd_op_180 (i := 30) (a := 0) (b := 133) yd_by_cX6_showAsked_2 rfl rfl
theorem dX6_showAsked_103 : decode cX6_showAsked 103 = .ok (.iload_n 3, 1) := yd_op_29 (i := 33) yd_by_cX6_showAsked_2 rfl rfl
theorem dX6_showAsked_104 : decode cX6_showAsked 104 = .ok (.aload_n 0, 1) := yd_op_42 (i := 34) yd_by_cX6_showAsked_2 rfl rfl
theorem dX6_showAsked_105 : decode cX6_showAsked 105 = .ok (.getfield 58, 3) := yd_op_180 (i := 35) (a := 0) (b := 58) yd_by_cX6_showAsked_2 rfl rfl
theorem dX6_showAsked_108 : decode cX6_showAsked 108 = .ok (.iload_n 1, 1) := yd_op_27 (i := 38) yd_by_cX6_showAsked_2 rfl rfl
theorem dX6_showAsked_109 : decode cX6_showAsked 109 = .ok (.aload_n 0, 1) := yd_op_42 (i := 39) yd_by_cX6_showAsked_2 rfl rfl
set_option maxRecDepth 100000 in
theorem yd_by_cX6_showAsked_3 : ydk cX6_showAsked 110 [180, 0, 58, 180, 0, 75, 29, 46, 42, 180, 0, 58, 180, 0, 80, 29, 46, 182, 0, 83, 79, 132, 3, 1, 167, 255, 207, 177] = true := by decide +kernel
theorem dX6_showAsked_110 : decode cX6_showAsked 110 = .ok (.getfield 58, 3) := yd_op_180 (i := 0) (a := 0) (b := 58) yd_by_cX6_showAsked_3 rfl rfl
theorem dX6_showAsked_113 : decode cX6_showAsked 113 = .ok (.getfield 75, 3) := yd_op_180 (i := 3) (a := 0) (b := 75) yd_by_cX6_showAsked_3 rfl rfl
theorem dX6_showAsked_116 : decode cX6_showAsked 116 = .ok (.iload_n 3, 1) := yd_op_29 (i := 6) yd_by_cX6_showAsked_3 rfl rfl
theorem dX6_showAsked_117 : decode cX6_showAsked 117 = .ok (.iaload, 1) := yd_op_46 (i := 7) yd_by_cX6_showAsked_3 rfl rfl
theorem dX6_showAsked_118 : decode cX6_showAsked 118 = .ok (.aload_n 0, 1) := yd_op_42 (i := 8) yd_by_cX6_showAsked_3 rfl rfl
theorem dX6_showAsked_119 : decode cX6_showAsked 119 = .ok (.getfield 58, 3) := yd_op_180 (i := 9) (a := 0) (b := 58) yd_by_cX6_showAsked_3 rfl rfl
theorem dX6_showAsked_122 : decode cX6_showAsked 122 = .ok (.getfield 80, 3) := yd_op_180 (i := 12) (a := 0) (b := 80) yd_by_cX6_showAsked_3 rfl rfl
theorem dX6_showAsked_125 : decode cX6_showAsked 125 = .ok (.iload_n 3, 1) := yd_op_29 (i := 15) yd_by_cX6_showAsked_3 rfl rfl
theorem dX6_showAsked_126 : decode cX6_showAsked 126 = .ok (.iaload, 1) := yd_op_46 (i := 16) yd_by_cX6_showAsked_3 rfl rfl
theorem dX6_showAsked_127 : decode cX6_showAsked 127 = .ok (.invokevirtual 83, 3) := yd_op_182 (i := 17) (a := 0) (b := 83) yd_by_cX6_showAsked_3 rfl rfl
theorem dX6_showAsked_130 : decode cX6_showAsked 130 = .ok (.iastore, 1) := yd_op_79 (i := 20) yd_by_cX6_showAsked_3 rfl rfl
theorem dX6_showAsked_131 : decode cX6_showAsked 131 = .ok (.iinc 3 1, 3) := yd_op_132 (i := 21) (a := 3) (b := 1) yd_by_cX6_showAsked_3 rfl rfl
theorem dX6_showAsked_134 : decode cX6_showAsked 134 = .ok (.goto (-49), 3) := yd_op_167 (i := 24) (a := 255) (b := 207) yd_by_cX6_showAsked_3 rfl rfl
theorem dX6_showAsked_137 : decode cX6_showAsked 137 = .ok (.return_, 1) := yd_op_177 (i := 27) yd_by_cX6_showAsked_3 rfl rfl
set_option maxRecDepth 100000 in
theorem yd_by_cX6_holders_0 : ydk cX6_holders 0 [3, 60, 42, 182, 0, 136, 3, 61, 28, 42, 180, 0, 54, 180, 0, 62, 162, 0, 49, 42, 180, 0, 58, 180, 0, 139, 28, 122, 4, 126, 154, 0, 29, 42] = true := by decide +kernel
theorem dX6_holders_0 : decode cX6_holders 0 = .ok (.iconst 0, 1) := yd_op_3 (i := 0) yd_by_cX6_holders_0 rfl rfl
theorem dX6_holders_1 : decode cX6_holders 1 = .ok (.istore_n 1, 1) := yd_op_60 (i := 1) yd_by_cX6_holders_0 rfl rfl
theorem dX6_holders_2 : decode cX6_holders 2 = .ok (.aload_n 0, 1) := yd_op_42 (i := 2) yd_by_cX6_holders_0 rfl rfl
theorem dX6_holders_3 : decode cX6_holders 3 = .ok (.invokevirtual 136, 3) := yd_op_182 (i := 3) (a := 0) (b := 136) yd_by_cX6_holders_0 rfl rfl
theorem dX6_holders_6 : decode cX6_holders 6 = .ok (.iconst 0, 1) := yd_op_3 (i := 6) yd_by_cX6_holders_0 rfl rfl
theorem dX6_holders_7 : decode cX6_holders 7 = .ok (.istore_n 2, 1) := yd_op_61 (i := 7) yd_by_cX6_holders_0 rfl rfl
theorem dX6_holders_8 : decode cX6_holders 8 = .ok (.iload_n 2, 1) := yd_op_28 (i := 8) yd_by_cX6_holders_0 rfl rfl
theorem dX6_holders_9 : decode cX6_holders 9 = .ok (.aload_n 0, 1) := yd_op_42 (i := 9) yd_by_cX6_holders_0 rfl rfl
theorem dX6_holders_10 : decode cX6_holders 10 = .ok (.getfield 54, 3) := yd_op_180 (i := 10) (a := 0) (b := 54) yd_by_cX6_holders_0 rfl rfl
theorem dX6_holders_13 : decode cX6_holders 13 = .ok (.getfield 62, 3) := yd_op_180 (i := 13) (a := 0) (b := 62) yd_by_cX6_holders_0 rfl rfl
theorem dX6_holders_16 : decode cX6_holders 16 = .ok (.if_icmp .ge 49, 3) := yd_op_162 (i := 16) (a := 0) (b := 49) yd_by_cX6_holders_0 rfl rfl
theorem dX6_holders_19 : decode cX6_holders 19 = .ok (.aload_n 0, 1) := yd_op_42 (i := 19) yd_by_cX6_holders_0 rfl rfl
theorem dX6_holders_20 : decode cX6_holders 20 = .ok (.getfield 58, 3) := yd_op_180 (i := 20) (a := 0) (b := 58) yd_by_cX6_holders_0 rfl rfl
theorem dX6_holders_23 : decode cX6_holders 23 = .ok (.getfield 139, 3) := yd_op_180 (i := 23) (a := 0) (b := 139) yd_by_cX6_holders_0 rfl rfl
theorem dX6_holders_26 : decode cX6_holders 26 = .ok (.iload_n 2, 1) := yd_op_28 (i := 26) yd_by_cX6_holders_0 rfl rfl
theorem dX6_holders_27 : decode cX6_holders 27 = .ok (.ishr, 1) := yd_op_122 (i := 27) yd_by_cX6_holders_0 rfl rfl
theorem dX6_holders_28 : decode cX6_holders 28 = .ok (.iconst 1, 1) := yd_op_4 (i := 28) yd_by_cX6_holders_0 rfl rfl
theorem dX6_holders_29 : decode cX6_holders 29 = .ok (.iand, 1) := yd_op_126 (i := 29) yd_by_cX6_holders_0 rfl rfl
theorem dX6_holders_30 : decode cX6_holders 30 = .ok (.ifCond .ne 29, 3) := yd_op_154 (i := 30) (a := 0) (b := 29) yd_by_cX6_holders_0 rfl rfl
theorem dX6_holders_33 : decode cX6_holders 33 = .ok (.aload_n 0, 1) := yd_op_42 (i := 33) yd_by_cX6_holders_0 rfl rfl
set_option maxRecDepth 100000 in
theorem yd_by_cX6_holders_1 : ydk cX6_holders 34 [28, 182, 0, 129, 27, 42, 180, 0, 12, 42, 180, 0, 54, 180, 0, 142, 182, 0, 146, 4, 126, 28, 120, 128, 60, 132, 2, 1, 167, 255, 202, 27, 172] = true := by decide +kernel
theorem dX6_holders_34 : decode cX6_holders 34 = .ok (.iload_n 2, 1) := yd_op_28 (i := 0) yd_by_cX6_holders_1 rfl rfl
theorem dX6_holders_35 : decode cX6_holders 35 = .ok (.invokevirtual 129, 3) := yd_op_182 (i := 1) (a := 0) (b := 129) yd_by_cX6_holders_1 rfl rfl
theorem dX6_holders_38 : decode cX6_holders 38 = .ok (.iload_n 1, 1) := yd_op_27 (i := 4) yd_by_cX6_holders_1 rfl rfl
theorem dX6_holders_39 : decode cX6_holders 39 = .ok (.aload_n 0, 1) := yd_op_42 (i := 5) yd_by_cX6_holders_1 rfl rfl
theorem dX6_holders_40 : decode cX6_holders 40 = .ok (.getfield 12, 3) := yd_op_180 (i := 6) (a := 0) (b := 12) yd_by_cX6_holders_1 rfl rfl
theorem dX6_holders_43 : decode cX6_holders 43 = .ok (.aload_n 0, 1) := yd_op_42 (i := 9) yd_by_cX6_holders_1 rfl rfl
theorem dX6_holders_44 : decode cX6_holders 44 = .ok (.getfield 54, 3) := yd_op_180 (i := 10) (a := 0) (b := 54) yd_by_cX6_holders_1 rfl rfl
theorem dX6_holders_47 : decode cX6_holders 47 = .ok (.getfield 142, 3) := yd_op_180 (i := 13) (a := 0) (b := 142) yd_by_cX6_holders_1 rfl rfl
theorem dX6_holders_50 : decode cX6_holders 50 = .ok (.invokevirtual 146, 3) := yd_op_182 (i := 16) (a := 0) (b := 146) yd_by_cX6_holders_1 rfl rfl
theorem dX6_holders_53 : decode cX6_holders 53 = .ok (.iconst 1, 1) := yd_op_4 (i := 19) yd_by_cX6_holders_1 rfl rfl
theorem dX6_holders_54 : decode cX6_holders 54 = .ok (.iand, 1) := yd_op_126 (i := 20) yd_by_cX6_holders_1 rfl rfl
theorem dX6_holders_55 : decode cX6_holders 55 = .ok (.iload_n 2, 1) := yd_op_28 (i := 21) yd_by_cX6_holders_1 rfl rfl
theorem dX6_holders_56 : decode cX6_holders 56 = .ok (.ishl, 1) := yd_op_120 (i := 22) yd_by_cX6_holders_1 rfl rfl
theorem dX6_holders_57 : decode cX6_holders 57 = .ok (.ior, 1) := yd_op_128 (i := 23) yd_by_cX6_holders_1 rfl rfl
theorem dX6_holders_58 : decode cX6_holders 58 = .ok (.istore_n 1, 1) := yd_op_60 (i := 24) yd_by_cX6_holders_1 rfl rfl
theorem dX6_holders_59 : decode cX6_holders 59 = .ok (.iinc 2 1, 3) := yd_op_132 (i := 25) (a := 2) (b := 1) yd_by_cX6_holders_1 rfl rfl
theorem dX6_holders_62 : decode cX6_holders 62 = .ok (.goto (-54), 3) := yd_op_167 (i := 28) (a := 255) (b := 202) yd_by_cX6_holders_1 rfl rfl
theorem dX6_holders_65 : decode cX6_holders 65 = .ok (.iload_n 1, 1) := yd_op_27 (i := 31) yd_by_cX6_holders_1 rfl rfl
theorem dX6_holders_66 : decode cX6_holders 66 = .ok (.ireturn, 1) := yd_op_172 (i := 32) yd_by_cX6_holders_1 rfl rfl
set_option maxRecDepth 100000 in
theorem yd_by_cX6_balance_0 : ydk cX6_balance 0 [42, 182, 0, 150, 154, 0, 7, 42, 182, 0, 154, 42, 27, 182, 0, 157, 3, 61, 28, 42, 180, 0, 54, 182, 0, 160, 162, 0, 36, 42, 180, 0, 31, 28, 42, 180, 0, 25] = true := by decide +kernel
theorem dX6_balance_0 : decode cX6_balance 0 = .ok (.aload_n 0, 1) := yd_op_42 (i := 0) yd_by_cX6_balance_0 rfl rfl
theorem dX6_balance_1 : decode cX6_balance 1 = .ok (.invokevirtual 150, 3) := yd_op_182 (i := 1) (a := 0) (b := 150) yd_by_cX6_balance_0 rfl rfl
theorem dX6_balance_4 : decode cX6_balance 4 = .ok (.ifCond .ne 7, 3) := yd_op_154 (i := 4) (a := 0) (b := 7) yd_by_cX6_balance_0 rfl rfl
theorem dX6_balance_7 : decode cX6_balance 7 = .ok (.aload_n 0, 1) := yd_op_42 (i := 7) yd_by_cX6_balance_0 rfl rfl
theorem dX6_balance_8 : decode cX6_balance 8 = .ok (.invokevirtual 154, 3) := yd_op_182 (i := 8) (a := 0) (b := 154) yd_by_cX6_balance_0 rfl rfl
theorem dX6_balance_11 : decode cX6_balance 11 = .ok (.aload_n 0, 1) := yd_op_42 (i := 11) yd_by_cX6_balance_0 rfl rfl
theorem dX6_balance_12 : decode cX6_balance 12 = .ok (.iload_n 1, 1) := yd_op_27 (i := 12) yd_by_cX6_balance_0 rfl rfl
theorem dX6_balance_13 : decode cX6_balance 13 = .ok (.invokevirtual 157, 3) := yd_op_182 (i := 13) (a := 0) (b := 157) yd_by_cX6_balance_0 rfl rfl
theorem dX6_balance_16 : decode cX6_balance 16 = .ok (.iconst 0, 1) := yd_op_3 (i := 16) yd_by_cX6_balance_0 rfl rfl
theorem dX6_balance_17 : decode cX6_balance 17 = .ok (.istore_n 2, 1) := yd_op_61 (i := 17) yd_by_cX6_balance_0 rfl rfl
theorem dX6_balance_18 : decode cX6_balance 18 = .ok (.iload_n 2, 1) := yd_op_28 (i := 18) yd_by_cX6_balance_0 rfl rfl
theorem dX6_balance_19 : decode cX6_balance 19 = .ok (.aload_n 0, 1) := yd_op_42 (i := 19) yd_by_cX6_balance_0 rfl rfl
theorem dX6_balance_20 : decode cX6_balance 20 = .ok (.getfield 54, 3) := yd_op_180 (i := 20) (a := 0) (b := 54) yd_by_cX6_balance_0 rfl rfl
theorem dX6_balance_23 : decode cX6_balance 23 = .ok (.invokevirtual 160, 3) := yd_op_182 (i := 23) (a := 0) (b := 160) yd_by_cX6_balance_0 rfl rfl
theorem dX6_balance_26 : decode cX6_balance 26 = .ok (.if_icmp .ge 36, 3) := yd_op_162 (i := 26) (a := 0) (b := 36) yd_by_cX6_balance_0 rfl rfl
theorem dX6_balance_29 : decode cX6_balance 29 = .ok (.aload_n 0, 1) := yd_op_42 (i := 29) yd_by_cX6_balance_0 rfl rfl
theorem dX6_balance_30 : decode cX6_balance 30 = .ok (.getfield 31, 3) := yd_op_180 (i := 30) (a := 0) (b := 31) yd_by_cX6_balance_0 rfl rfl
theorem dX6_balance_33 : decode cX6_balance 33 = .ok (.iload_n 2, 1) := yd_op_28 (i := 33) yd_by_cX6_balance_0 rfl rfl
theorem dX6_balance_34 : decode cX6_balance 34 = .ok (.aload_n 0, 1) := yd_op_42 (i := 34) yd_by_cX6_balance_0 rfl rfl
theorem dX6_balance_35 : decode cX6_balance 35 = .ok (.getfield 25, 3) := yd_op_180 (i := 35) (a := 0) (b := 25) yd_by_cX6_balance_0 rfl rfl
set_option maxRecDepth 100000 in
theorem yd_by_cX6_balance_1 : ydk cX6_balance 38 [28, 46, 42, 180, 0, 54, 180, 0, 164, 96, 42, 180, 0, 28, 28, 46, 100, 79, 132, 2, 1, 167, 255, 215, 177] = true := by decide +kernel
theorem dX6_balance_38 : decode cX6_balance 38 = .ok (.iload_n 2, 1) := yd_op_28 (i := 0) yd_by_cX6_balance_1 rfl rfl
theorem dX6_balance_39 : decode cX6_balance 39 = .ok (.iaload, 1) := yd_op_46 (i := 1) yd_by_cX6_balance_1 rfl rfl
theorem dX6_balance_40 : decode cX6_balance 40 = .ok (.aload_n 0, 1) := yd_op_42 (i := 2) yd_by_cX6_balance_1 rfl rfl
theorem dX6_balance_41 : decode cX6_balance 41 = .ok (.getfield 54, 3) := yd_op_180 (i := 3) (a := 0) (b := 54) yd_by_cX6_balance_1 rfl rfl
theorem dX6_balance_44 : decode cX6_balance 44 = .ok (.getfield 164, 3) := yd_op_180 (i := 6) (a := 0) (b := 164) yd_by_cX6_balance_1 rfl rfl
theorem dX6_balance_47 : decode cX6_balance 47 = .ok (.iadd, 1) := yd_op_96 (i := 9) yd_by_cX6_balance_1 rfl rfl
theorem dX6_balance_48 : decode cX6_balance 48 = .ok (.aload_n 0, 1) := yd_op_42 (i := 10) yd_by_cX6_balance_1 rfl rfl
theorem dX6_balance_49 : decode cX6_balance 49 = .ok (.getfield 28, 3) := yd_op_180 (i := 11) (a := 0) (b := 28) yd_by_cX6_balance_1 rfl rfl
theorem dX6_balance_52 : decode cX6_balance 52 = .ok (.iload_n 2, 1) := yd_op_28 (i := 14) yd_by_cX6_balance_1 rfl rfl
theorem dX6_balance_53 : decode cX6_balance 53 = .ok (.iaload, 1) := yd_op_46 (i := 15) yd_by_cX6_balance_1 rfl rfl
theorem dX6_balance_54 : decode cX6_balance 54 = .ok (.isub, 1) := yd_op_100 (i := 16) yd_by_cX6_balance_1 rfl rfl
theorem dX6_balance_55 : decode cX6_balance 55 = .ok (.iastore, 1) := yd_op_79 (i := 17) yd_by_cX6_balance_1 rfl rfl
theorem dX6_balance_56 : decode cX6_balance 56 = .ok (.iinc 2 1, 3) := yd_op_132 (i := 18) (a := 2) (b := 1) yd_by_cX6_balance_1 rfl rfl
theorem dX6_balance_59 : decode cX6_balance 59 = .ok (.goto (-41), 3) := yd_op_167 (i := 21) (a := 255) (b := 215) yd_by_cX6_balance_1 rfl rfl
theorem dX6_balance_62 : decode cX6_balance 62 = .ok (.return_, 1) := yd_op_177 (i := 24) yd_by_cX6_balance_1 rfl rfl
set_option maxRecDepth 100000 in
theorem yd_by_cX6_hasLoads_0 : ydk cX6_hasLoads 0 [42, 180, 0, 41, 42, 180, 0, 58, 180, 0, 114, 159, 0, 21, 42, 180, 0, 41, 2, 159, 0, 17, 42, 180, 0, 54, 180, 0, 167, 154, 0, 7, 4, 167, 0, 4, 3, 60, 27, 153, 0, 22] = true := by decide +kernel
theorem dX6_hasLoads_0 : decode cX6_hasLoads 0 = .ok (.aload_n 0, 1) := yd_op_42 (i := 0) yd_by_cX6_hasLoads_0 rfl rfl
theorem dX6_hasLoads_1 : decode cX6_hasLoads 1 = .ok (.getfield 41, 3) := yd_op_180 (i := 1) (a := 0) (b := 41) yd_by_cX6_hasLoads_0 rfl rfl
theorem dX6_hasLoads_4 : decode cX6_hasLoads 4 = .ok (.aload_n 0, 1) := yd_op_42 (i := 4) yd_by_cX6_hasLoads_0 rfl rfl
theorem dX6_hasLoads_5 : decode cX6_hasLoads 5 = .ok (.getfield 58, 3) := yd_op_180 (i := 5) (a := 0) (b := 58) yd_by_cX6_hasLoads_0 rfl rfl
theorem dX6_hasLoads_8 : decode cX6_hasLoads 8 = .ok (.getfield 114, 3) := yd_op_180 (i := 8) (a := 0) (b := 114) yd_by_cX6_hasLoads_0 rfl rfl
theorem dX6_hasLoads_11 : decode cX6_hasLoads 11 = .ok (.if_icmp .eq 21, 3) := yd_op_159 (i := 11) (a := 0) (b := 21) yd_by_cX6_hasLoads_0 rfl rfl
theorem dX6_hasLoads_14 : decode cX6_hasLoads 14 = .ok (.aload_n 0, 1) := yd_op_42 (i := 14) yd_by_cX6_hasLoads_0 rfl rfl
theorem dX6_hasLoads_15 : decode cX6_hasLoads 15 = .ok (.getfield 41, 3) := yd_op_180 (i := 15) (a := 0) (b := 41) yd_by_cX6_hasLoads_0 rfl rfl
theorem dX6_hasLoads_18 : decode cX6_hasLoads 18 = .ok (.iconst (-1), 1) := yd_op_2 (i := 18) yd_by_cX6_hasLoads_0 rfl rfl
theorem dX6_hasLoads_19 : decode cX6_hasLoads 19 = .ok (.if_icmp .eq 17, 3) := yd_op_159 (i := 19) (a := 0) (b := 17) yd_by_cX6_hasLoads_0 rfl rfl
theorem dX6_hasLoads_22 : decode cX6_hasLoads 22 = .ok (.aload_n 0, 1) := yd_op_42 (i := 22) yd_by_cX6_hasLoads_0 rfl rfl
theorem dX6_hasLoads_23 : decode cX6_hasLoads 23 = .ok (.getfield 54, 3) := yd_op_180 (i := 23) (a := 0) (b := 54) yd_by_cX6_hasLoads_0 rfl rfl
theorem dX6_hasLoads_26 : decode cX6_hasLoads 26 = .ok (.getfield 167, 3) := yd_op_180 (i := 26) (a := 0) (b := 167) yd_by_cX6_hasLoads_0 rfl rfl
theorem dX6_hasLoads_29 : decode cX6_hasLoads 29 = .ok (.ifCond .ne 7, 3) := yd_op_154 (i := 29) (a := 0) (b := 7) yd_by_cX6_hasLoads_0 rfl rfl
theorem dX6_hasLoads_32 : decode cX6_hasLoads 32 = .ok (.iconst 1, 1) := yd_op_4 (i := 32) yd_by_cX6_hasLoads_0 rfl rfl
theorem dX6_hasLoads_33 : decode cX6_hasLoads 33 = .ok (.goto 4, 3) := yd_op_167 (i := 33) (a := 0) (b := 4) yd_by_cX6_hasLoads_0 rfl rfl
theorem dX6_hasLoads_36 : decode cX6_hasLoads 36 = .ok (.iconst 0, 1) := yd_op_3 (i := 36) yd_by_cX6_hasLoads_0 rfl rfl
theorem dX6_hasLoads_37 : decode cX6_hasLoads 37 = .ok (.istore_n 1, 1) := yd_op_60 (i := 37) yd_by_cX6_hasLoads_0 rfl rfl
theorem dX6_hasLoads_38 : decode cX6_hasLoads 38 = .ok (.iload_n 1, 1) := yd_op_27 (i := 38) yd_by_cX6_hasLoads_0 rfl rfl
theorem dX6_hasLoads_39 : decode cX6_hasLoads 39 = .ok (.ifCond .eq 22, 3) := yd_op_153 (i := 39) (a := 0) (b := 22) yd_by_cX6_hasLoads_0 rfl rfl
set_option maxRecDepth 100000 in
theorem yd_by_cX6_hasLoads_1 : ydk cX6_hasLoads 42 [42, 180, 0, 44, 42, 180, 0, 58, 180, 0, 117, 148, 154, 0, 7, 4, 167, 0, 4, 3, 172] = true := by decide +kernel
theorem dX6_hasLoads_42 : decode cX6_hasLoads 42 = .ok (.aload_n 0, 1) := yd_op_42 (i := 0) yd_by_cX6_hasLoads_1 rfl rfl
theorem dX6_hasLoads_43 : decode cX6_hasLoads 43 = .ok (.getfield 44, 3) := yd_op_180 (i := 1) (a := 0) (b := 44) yd_by_cX6_hasLoads_1 rfl rfl
theorem dX6_hasLoads_46 : decode cX6_hasLoads 46 = .ok (.aload_n 0, 1) := yd_op_42 (i := 4) yd_by_cX6_hasLoads_1 rfl rfl
theorem dX6_hasLoads_47 : decode cX6_hasLoads 47 = .ok (.getfield 58, 3) := yd_op_180 (i := 5) (a := 0) (b := 58) yd_by_cX6_hasLoads_1 rfl rfl
theorem dX6_hasLoads_50 : decode cX6_hasLoads 50 = .ok (.getfield 117, 3) := yd_op_180 (i := 8) (a := 0) (b := 117) yd_by_cX6_hasLoads_1 rfl rfl
theorem dX6_hasLoads_53 : decode cX6_hasLoads 53 = .ok (.lcmp, 1) := yd_op_148 (i := 11) yd_by_cX6_hasLoads_1 rfl rfl
theorem dX6_hasLoads_54 : decode cX6_hasLoads 54 = .ok (.ifCond .ne 7, 3) := yd_op_154 (i := 12) (a := 0) (b := 7) yd_by_cX6_hasLoads_1 rfl rfl
theorem dX6_hasLoads_57 : decode cX6_hasLoads 57 = .ok (.iconst 1, 1) := yd_op_4 (i := 15) yd_by_cX6_hasLoads_1 rfl rfl
theorem dX6_hasLoads_58 : decode cX6_hasLoads 58 = .ok (.goto 4, 3) := yd_op_167 (i := 16) (a := 0) (b := 4) yd_by_cX6_hasLoads_1 rfl rfl
theorem dX6_hasLoads_61 : decode cX6_hasLoads 61 = .ok (.iconst 0, 1) := yd_op_3 (i := 19) yd_by_cX6_hasLoads_1 rfl rfl
theorem dX6_hasLoads_62 : decode cX6_hasLoads 62 = .ok (.ireturn, 1) := yd_op_172 (i := 20) yd_by_cX6_hasLoads_1 rfl rfl
set_option maxRecDepth 100000 in
theorem yd_by_cX6_measureLoads_0 : ydk cX6_measureLoads 0 [42, 42, 180, 0, 58, 180, 0, 114, 181, 0, 41, 42, 42, 180, 0, 58, 180, 0, 117, 181, 0, 44, 3, 60, 27, 42, 180, 0, 54, 182, 0, 160, 162, 0, 24, 42, 180, 0, 28, 27] = true := by decide +kernel
theorem dX6_measureLoads_0 : decode cX6_measureLoads 0 = .ok (.aload_n 0, 1) := yd_op_42 (i := 0) yd_by_cX6_measureLoads_0 rfl rfl
theorem dX6_measureLoads_1 : decode cX6_measureLoads 1 = .ok (.aload_n 0, 1) := yd_op_42 (i := 1) yd_by_cX6_measureLoads_0 rfl rfl
theorem dX6_measureLoads_2 : decode cX6_measureLoads 2 = .ok (.getfield 58, 3) := yd_op_180 (i := 2) (a := 0) (b := 58) yd_by_cX6_measureLoads_0 rfl rfl
theorem dX6_measureLoads_5 : decode cX6_measureLoads 5 = .ok (.getfield 114, 3) := yd_op_180 (i := 5) (a := 0) (b := 114) yd_by_cX6_measureLoads_0 rfl rfl
theorem dX6_measureLoads_8 : decode cX6_measureLoads 8 = .ok (.putfield 41, 3) := yd_op_181 (i := 8) (a := 0) (b := 41) yd_by_cX6_measureLoads_0 rfl rfl
theorem dX6_measureLoads_11 : decode cX6_measureLoads 11 = .ok (.aload_n 0, 1) := yd_op_42 (i := 11) yd_by_cX6_measureLoads_0 rfl rfl
theorem dX6_measureLoads_12 : decode cX6_measureLoads 12 = .ok (.aload_n 0, 1) := yd_op_42 (i := 12) yd_by_cX6_measureLoads_0 rfl rfl
theorem dX6_measureLoads_13 : decode cX6_measureLoads 13 = .ok (.getfield 58, 3) := yd_op_180 (i := 13) (a := 0) (b := 58) yd_by_cX6_measureLoads_0 rfl rfl
theorem dX6_measureLoads_16 : decode cX6_measureLoads 16 = .ok (.getfield 117, 3) := yd_op_180 (i := 16) (a := 0) (b := 117) yd_by_cX6_measureLoads_0 rfl rfl
theorem dX6_measureLoads_19 : decode cX6_measureLoads 19 = .ok (.putfield 44, 3) := yd_op_181 (i := 19) (a := 0) (b := 44) yd_by_cX6_measureLoads_0 rfl rfl
theorem dX6_measureLoads_22 : decode cX6_measureLoads 22 = .ok (.iconst 0, 1) := yd_op_3 (i := 22) yd_by_cX6_measureLoads_0 rfl rfl
theorem dX6_measureLoads_23 : decode cX6_measureLoads 23 = .ok (.istore_n 1, 1) := yd_op_60 (i := 23) yd_by_cX6_measureLoads_0 rfl rfl
theorem dX6_measureLoads_24 : decode cX6_measureLoads 24 = .ok (.iload_n 1, 1) := yd_op_27 (i := 24) yd_by_cX6_measureLoads_0 rfl rfl
theorem dX6_measureLoads_25 : decode cX6_measureLoads 25 = .ok (.aload_n 0, 1) := yd_op_42 (i := 25) yd_by_cX6_measureLoads_0 rfl rfl
theorem dX6_measureLoads_26 : decode cX6_measureLoads 26 = .ok (.getfield 54, 3) := yd_op_180 (i := 26) (a := 0) (b := 54) yd_by_cX6_measureLoads_0 rfl rfl
theorem dX6_measureLoads_29 : decode cX6_measureLoads 29 = .ok (.invokevirtual 160, 3) := yd_op_182 (i := 29) (a := 0) (b := 160) yd_by_cX6_measureLoads_0 rfl rfl
theorem dX6_measureLoads_32 : decode cX6_measureLoads 32 = .ok (.if_icmp .ge 24, 3) := yd_op_162 (i := 32) (a := 0) (b := 24) yd_by_cX6_measureLoads_0 rfl rfl
theorem dX6_measureLoads_35 : decode cX6_measureLoads 35 = .ok (.aload_n 0, 1) := yd_op_42 (i := 35) yd_by_cX6_measureLoads_0 rfl rfl
theorem dX6_measureLoads_36 : decode cX6_measureLoads 36 = .ok (.getfield 28, 3) := yd_op_180 (i := 36) (a := 0) (b := 28) yd_by_cX6_measureLoads_0 rfl rfl
theorem dX6_measureLoads_39 : decode cX6_measureLoads 39 = .ok (.iload_n 1, 1) := yd_op_27 (i := 39) yd_by_cX6_measureLoads_0 rfl rfl
set_option maxRecDepth 100000 in
theorem yd_by_cX6_measureLoads_1 : ydk cX6_measureLoads 40 [42, 180, 0, 54, 180, 0, 171, 27, 46, 79, 132, 1, 1, 167, 255, 227, 42, 182, 0, 136, 2, 60, 3, 61, 3, 62, 29, 42, 180, 0, 54, 180, 0, 87] = true := by decide +kernel
theorem dX6_measureLoads_40 : decode cX6_measureLoads 40 = .ok (.aload_n 0, 1) := yd_op_42 (i := 0) yd_by_cX6_measureLoads_1 rfl rfl
theorem dX6_measureLoads_41 : decode cX6_measureLoads 41 = .ok (.getfield 54, 3) := yd_op_180 (i := 1) (a := 0) (b := 54) yd_by_cX6_measureLoads_1 rfl rfl
theorem dX6_measureLoads_44 : decode cX6_measureLoads 44 = .ok (.getfield 171, 3) := yd_op_180 (i := 4) (a := 0) (b := 171) yd_by_cX6_measureLoads_1 rfl rfl
theorem dX6_measureLoads_47 : decode cX6_measureLoads 47 = .ok (.iload_n 1, 1) := yd_op_27 (i := 7) yd_by_cX6_measureLoads_1 rfl rfl
theorem dX6_measureLoads_48 : decode cX6_measureLoads 48 = .ok (.iaload, 1) := yd_op_46 (i := 8) yd_by_cX6_measureLoads_1 rfl rfl
theorem dX6_measureLoads_49 : decode cX6_measureLoads 49 = .ok (.iastore, 1) := yd_op_79 (i := 9) yd_by_cX6_measureLoads_1 rfl rfl
theorem dX6_measureLoads_50 : decode cX6_measureLoads 50 = .ok (.iinc 1 1, 3) := yd_op_132 (i := 10) (a := 1) (b := 1) yd_by_cX6_measureLoads_1 rfl rfl
theorem dX6_measureLoads_53 : decode cX6_measureLoads 53 = .ok (.goto (-29), 3) := yd_op_167 (i := 13) (a := 255) (b := 227) yd_by_cX6_measureLoads_1 rfl rfl
theorem dX6_measureLoads_56 : decode cX6_measureLoads 56 = .ok (.aload_n 0, 1) := yd_op_42 (i := 16) yd_by_cX6_measureLoads_1 rfl rfl
theorem dX6_measureLoads_57 : decode cX6_measureLoads 57 = .ok (.invokevirtual 136, 3) := yd_op_182 (i := 17) (a := 0) (b := 136) yd_by_cX6_measureLoads_1 rfl rfl
theorem dX6_measureLoads_60 : decode cX6_measureLoads 60 = .ok (.iconst (-1), 1) := yd_op_2 (i := 20) yd_by_cX6_measureLoads_1 rfl rfl
theorem dX6_measureLoads_61 : decode cX6_measureLoads 61 = .ok (.istore_n 1, 1) := yd_op_60 (i := 21) yd_by_cX6_measureLoads_1 rfl rfl
theorem dX6_measureLoads_62 : decode cX6_measureLoads 62 = .ok (.iconst 0, 1) := yd_op_3 (i := 22) yd_by_cX6_measureLoads_1 rfl rfl
theorem dX6_measureLoads_63 : decode cX6_measureLoads 63 = .ok (.istore_n 2, 1) := yd_op_61 (i := 23) yd_by_cX6_measureLoads_1 rfl rfl
theorem dX6_measureLoads_64 : decode cX6_measureLoads 64 = .ok (.iconst 0, 1) := yd_op_3 (i := 24) yd_by_cX6_measureLoads_1 rfl rfl
theorem dX6_measureLoads_65 : decode cX6_measureLoads 65 = .ok (.istore_n 3, 1) := yd_op_62 (i := 25) yd_by_cX6_measureLoads_1 rfl rfl
theorem dX6_measureLoads_66 : decode cX6_measureLoads 66 = .ok (.iload_n 3, 1) := yd_op_29 (i := 26) yd_by_cX6_measureLoads_1 rfl rfl
theorem dX6_measureLoads_67 : decode cX6_measureLoads 67 = .ok (.aload_n 0, 1) := yd_op_42 (i := 27) yd_by_cX6_measureLoads_1 rfl rfl
theorem dX6_measureLoads_68 : decode cX6_measureLoads 68 = .ok (.getfield 54, 3) := yd_op_180 (i := 28) (a := 0) (b := 54) yd_by_cX6_measureLoads_1 rfl rfl
theorem dX6_measureLoads_71 : decode cX6_measureLoads 71 = .ok (.getfield 87, 3) := yd_op_180 (i := 31) (a := 0) (b := 87) yd_by_cX6_measureLoads_1 rfl rfl
set_option maxRecDepth 100000 in
theorem yd_by_cX6_measureLoads_2 : ydk cX6_measureLoads 74 [162, 0, 125, 42, 180, 0, 58, 180, 0, 117, 9, 148, 153, 0, 113, 3, 54, 4, 21, 4, 42, 180, 0, 54, 180, 0, 90, 162, 0, 92, 42, 180, 0, 54, 21, 4, 29, 182, 0, 93, 54, 5] = true := by decide +kernel
theorem dX6_measureLoads_74 : decode cX6_measureLoads 74 = .ok (.if_icmp .ge 125, 3) := yd_op_162 (i := 0) (a := 0) (b := 125) yd_by_cX6_measureLoads_2 rfl rfl
theorem dX6_measureLoads_77 : decode cX6_measureLoads 77 = .ok (.aload_n 0, 1) := yd_op_42 (i := 3) yd_by_cX6_measureLoads_2 rfl rfl
theorem dX6_measureLoads_78 : decode cX6_measureLoads 78 = .ok (.getfield 58, 3) := yd_op_180 (i := 4) (a := 0) (b := 58) yd_by_cX6_measureLoads_2 rfl rfl
theorem dX6_measureLoads_81 : decode cX6_measureLoads 81 = .ok (.getfield 117, 3) := yd_op_180 (i := 7) (a := 0) (b := 117) yd_by_cX6_measureLoads_2 rfl rfl
theorem dX6_measureLoads_84 : decode cX6_measureLoads 84 = .ok (.lconst 0, 1) := yd_op_9 (i := 10) yd_by_cX6_measureLoads_2 rfl rfl
theorem dX6_measureLoads_85 : decode cX6_measureLoads 85 = .ok (.lcmp, 1) := yd_op_148 (i := 11) yd_by_cX6_measureLoads_2 rfl rfl
theorem dX6_measureLoads_86 : decode cX6_measureLoads 86 = .ok (.ifCond .eq 113, 3) := yd_op_153 (i := 12) (a := 0) (b := 113) yd_by_cX6_measureLoads_2 rfl rfl
theorem dX6_measureLoads_89 : decode cX6_measureLoads 89 = .ok (.iconst 0, 1) := yd_op_3 (i := 15) yd_by_cX6_measureLoads_2 rfl rfl
theorem dX6_measureLoads_90 : decode cX6_measureLoads 90 = .ok (.istore 4, 2) := yd_op_54 (i := 16) (a := 4) yd_by_cX6_measureLoads_2 rfl rfl
theorem dX6_measureLoads_92 : decode cX6_measureLoads 92 = .ok (.iload 4, 2) := yd_op_21 (i := 18) (a := 4) yd_by_cX6_measureLoads_2 rfl rfl
theorem dX6_measureLoads_94 : decode cX6_measureLoads 94 = .ok (.aload_n 0, 1) := yd_op_42 (i := 20) yd_by_cX6_measureLoads_2 rfl rfl
theorem dX6_measureLoads_95 : decode cX6_measureLoads 95 = .ok (.getfield 54, 3) := yd_op_180 (i := 21) (a := 0) (b := 54) yd_by_cX6_measureLoads_2 rfl rfl
theorem dX6_measureLoads_98 : decode cX6_measureLoads 98 = .ok (.getfield 90, 3) := yd_op_180 (i := 24) (a := 0) (b := 90) yd_by_cX6_measureLoads_2 rfl rfl
theorem dX6_measureLoads_101 : decode cX6_measureLoads 101 = .ok (.if_icmp .ge 92, 3) := yd_op_162 (i := 27) (a := 0) (b := 92) yd_by_cX6_measureLoads_2 rfl rfl
theorem dX6_measureLoads_104 : decode cX6_measureLoads 104 = .ok (.aload_n 0, 1) := yd_op_42 (i := 30) yd_by_cX6_measureLoads_2 rfl rfl
theorem dX6_measureLoads_105 : decode cX6_measureLoads 105 = .ok (.getfield 54, 3) := yd_op_180 (i := 31) (a := 0) (b := 54) yd_by_cX6_measureLoads_2 rfl rfl
theorem dX6_measureLoads_108 : decode cX6_measureLoads 108 = .ok (.iload 4, 2) := yd_op_21 (i := 34) (a := 4) yd_by_cX6_measureLoads_2 rfl rfl
theorem dX6_measureLoads_110 : decode cX6_measureLoads 110 = .ok (.iload_n 3, 1) := yd_op_29 (i := 36) yd_by_cX6_measureLoads_2 rfl rfl
theorem dX6_measureLoads_111 : decode cX6_measureLoads 111 = .ok (.invokevirtual 93, 3) := yd_op_182 (i := 37) (a := 0) (b := 93) yd_by_cX6_measureLoads_2 rfl rfl
theorem dX6_measureLoads_114 : decode cX6_measureLoads 114 = .ok (.istore 5, 2) := yd_op_54 (i := 40) (a := 5) yd_by_cX6_measureLoads_2 rfl rfl
set_option maxRecDepth 100000 in
theorem yd_by_cX6_measureLoads_3 : ydk cX6_measureLoads 116 [42, 180, 0, 58, 21, 5, 182, 0, 174, 153, 0, 62, 42, 180, 0, 54, 180, 0, 171, 21, 5, 46, 27, 159, 0, 40, 42, 180, 0, 54, 180, 0, 171, 21, 5, 46, 60, 42, 180, 0, 12] = true := by decide +kernel
theorem dX6_measureLoads_116 : decode cX6_measureLoads 116 = .ok (.aload_n 0, 1) := yd_op_42 (i := 0) yd_by_cX6_measureLoads_3 rfl rfl
theorem dX6_measureLoads_117 : decode cX6_measureLoads 117 = .ok (.getfield 58, 3) := yd_op_180 (i := 1) (a := 0) (b := 58) yd_by_cX6_measureLoads_3 rfl rfl
theorem dX6_measureLoads_120 : decode cX6_measureLoads 120 = .ok (.iload 5, 2) := yd_op_21 (i := 4) (a := 5) yd_by_cX6_measureLoads_3 rfl rfl
theorem dX6_measureLoads_122 : decode cX6_measureLoads 122 = .ok (.invokevirtual 174, 3) := yd_op_182 (i := 6) (a := 0) (b := 174) yd_by_cX6_measureLoads_3 rfl rfl
theorem dX6_measureLoads_125 : decode cX6_measureLoads 125 = .ok (.ifCond .eq 62, 3) := yd_op_153 (i := 9) (a := 0) (b := 62) yd_by_cX6_measureLoads_3 rfl rfl
theorem dX6_measureLoads_128 : decode cX6_measureLoads 128 = .ok (.aload_n 0, 1) := yd_op_42 (i := 12) yd_by_cX6_measureLoads_3 rfl rfl
theorem dX6_measureLoads_129 : decode cX6_measureLoads 129 = .ok (.getfield 54, 3) := yd_op_180 (i := 13) (a := 0) (b := 54) yd_by_cX6_measureLoads_3 rfl rfl
theorem dX6_measureLoads_132 : decode cX6_measureLoads 132 = .ok (.getfield 171, 3) := yd_op_180 (i := 16) (a := 0) (b := 171) yd_by_cX6_measureLoads_3 rfl rfl
theorem dX6_measureLoads_135 : decode cX6_measureLoads 135 = .ok (.iload 5, 2) := yd_op_21 (i := 19) (a := 5) yd_by_cX6_measureLoads_3 rfl rfl
theorem dX6_measureLoads_137 : decode cX6_measureLoads 137 = .ok (.iaload, 1) := yd_op_46 (i := 21) yd_by_cX6_measureLoads_3 rfl rfl
theorem dX6_measureLoads_138 : decode cX6_measureLoads 138 = .ok (.iload_n 1, 1) := yd_op_27 (i := 22) yd_by_cX6_measureLoads_3 rfl rfl
theorem dX6_measureLoads_139 : decode cX6_measureLoads 139 = .ok (.if_icmp .eq 40, 3) := yd_op_159 (i := 23) (a := 0) (b := 40) yd_by_cX6_measureLoads_3 rfl rfl
theorem dX6_measureLoads_142 : decode cX6_measureLoads 142 = .ok (.aload_n 0, 1) := yd_op_42 (i := 26) yd_by_cX6_measureLoads_3 rfl rfl
theorem dX6_measureLoads_143 : decode cX6_measureLoads 143 = .ok (.getfield 54, 3) := yd_op_180 (i := 27) (a := 0) (b := 54) yd_by_cX6_measureLoads_3 rfl rfl
theorem dX6_measureLoads_146 : decode cX6_measureLoads 146 = .ok (.getfield 171, 3) := yd_op_180 (i := 30) (a := 0) (b := 171) yd_by_cX6_measureLoads_3 rfl rfl
theorem dX6_measureLoads_149 : decode cX6_measureLoads 149 = .ok (.iload 5, 2) := yd_op_21 (i := 33) (a := 5) yd_by_cX6_measureLoads_3 rfl rfl
theorem dX6_measureLoads_151 : decode cX6_measureLoads 151 = .ok (.iaload, 1) := yd_op_46 (i := 35) yd_by_cX6_measureLoads_3 rfl rfl
theorem dX6_measureLoads_152 : decode cX6_measureLoads 152 = .ok (.istore_n 1, 1) := yd_op_60 (i := 36) yd_by_cX6_measureLoads_3 rfl rfl
theorem dX6_measureLoads_153 : decode cX6_measureLoads 153 = .ok (.aload_n 0, 1) := yd_op_42 (i := 37) yd_by_cX6_measureLoads_3 rfl rfl
theorem dX6_measureLoads_154 : decode cX6_measureLoads 154 = .ok (.getfield 12, 3) := yd_op_180 (i := 38) (a := 0) (b := 12) yd_by_cX6_measureLoads_3 rfl rfl
set_option maxRecDepth 100000 in
theorem yd_by_cX6_measureLoads_4 : ydk cX6_measureLoads 157 [180, 0, 111, 16, 14, 27, 79, 42, 180, 0, 12, 42, 180, 0, 54, 180, 0, 178, 182, 0, 146, 61, 42, 21, 4, 29, 28, 182, 0, 181, 132, 4, 1, 167, 255, 158, 132, 3, 1, 167, 255, 126] = true := by decide +kernel
theorem dX6_measureLoads_157 : decode cX6_measureLoads 157 = .ok (.getfield 111, 3) := yd_op_180 (i := 0) (a := 0) (b := 111) yd_by_cX6_measureLoads_4 rfl rfl
theorem dX6_measureLoads_160 : decode cX6_measureLoads 160 = .ok (.bipush 14, 2) := yd_op_16 (i := 3) (a := 14) yd_by_cX6_measureLoads_4 rfl rfl
theorem dX6_measureLoads_162 : decode cX6_measureLoads 162 = .ok (.iload_n 1, 1) := yd_op_27 (i := 5) yd_by_cX6_measureLoads_4 rfl rfl
theorem dX6_measureLoads_163 : decode cX6_measureLoads 163 = .ok (.iastore, 1) := yd_op_79 (i := 6) yd_by_cX6_measureLoads_4 rfl rfl
theorem dX6_measureLoads_164 : decode cX6_measureLoads 164 = .ok (.aload_n 0, 1) := yd_op_42 (i := 7) yd_by_cX6_measureLoads_4 rfl rfl
theorem dX6_measureLoads_165 : decode cX6_measureLoads 165 = .ok (.getfield 12, 3) := yd_op_180 (i := 8) (a := 0) (b := 12) yd_by_cX6_measureLoads_4 rfl rfl
theorem dX6_measureLoads_168 : decode cX6_measureLoads 168 = .ok (.aload_n 0, 1) := yd_op_42 (i := 11) yd_by_cX6_measureLoads_4 rfl rfl
theorem dX6_measureLoads_169 : decode cX6_measureLoads 169 = .ok (.getfield 54, 3) := yd_op_180 (i := 12) (a := 0) (b := 54) yd_by_cX6_measureLoads_4 rfl rfl
theorem dX6_measureLoads_172 : decode cX6_measureLoads 172 = .ok (.getfield 178, 3) := yd_op_180 (i := 15) (a := 0) (b := 178) yd_by_cX6_measureLoads_4 rfl rfl
theorem dX6_measureLoads_175 : decode cX6_measureLoads 175 = .ok (.invokevirtual 146, 3) := yd_op_182 (i := 18) (a := 0) (b := 146) yd_by_cX6_measureLoads_4 rfl rfl
theorem dX6_measureLoads_178 : decode cX6_measureLoads 178 = .ok (.istore_n 2, 1) := yd_op_61 (i := 21) yd_by_cX6_measureLoads_4 rfl rfl
theorem dX6_measureLoads_179 : decode cX6_measureLoads 179 = .ok (.aload_n 0, 1) := yd_op_42 (i := 22) yd_by_cX6_measureLoads_4 rfl rfl
theorem dX6_measureLoads_180 : decode cX6_measureLoads 180 = .ok (.iload 4, 2) := yd_op_21 (i := 23) (a := 4) yd_by_cX6_measureLoads_4 rfl rfl
theorem dX6_measureLoads_182 : decode cX6_measureLoads 182 = .ok (.iload_n 3, 1) := yd_op_29 (i := 25) yd_by_cX6_measureLoads_4 rfl rfl
theorem dX6_measureLoads_183 : decode cX6_measureLoads 183 = .ok (.iload_n 2, 1) := yd_op_28 (i := 26) yd_by_cX6_measureLoads_4 rfl rfl
theorem dX6_measureLoads_184 : decode cX6_measureLoads 184 = .ok (.invokevirtual 181, 3) := yd_op_182 (i := 27) (a := 0) (b := 181) yd_by_cX6_measureLoads_4 rfl rfl
theorem dX6_measureLoads_187 : decode cX6_measureLoads 187 = .ok (.iinc 4 1, 3) := yd_op_132 (i := 30) (a := 4) (b := 1) yd_by_cX6_measureLoads_4 rfl rfl
theorem dX6_measureLoads_190 : decode cX6_measureLoads 190 = .ok (.goto (-98), 3) := yd_op_167 (i := 33) (a := 255) (b := 158) yd_by_cX6_measureLoads_4 rfl rfl
theorem dX6_measureLoads_193 : decode cX6_measureLoads 193 = .ok (.iinc 3 1, 3) := yd_op_132 (i := 36) (a := 3) (b := 1) yd_by_cX6_measureLoads_4 rfl rfl
theorem dX6_measureLoads_196 : decode cX6_measureLoads 196 = .ok (.goto (-130), 3) := yd_op_167 (i := 39) (a := 255) (b := 126) yd_by_cX6_measureLoads_4 rfl rfl
set_option maxRecDepth 100000 in
theorem yd_by_cX6_measureLoads_5 : ydk cX6_measureLoads 199 [177] = true := by decide +kernel
theorem dX6_measureLoads_199 : decode cX6_measureLoads 199 = .ok (.return_, 1) := yd_op_177 (i := 0) yd_by_cX6_measureLoads_5 rfl rfl
set_option maxRecDepth 100000 in
theorem yd_by_cX6_loadNeighbours_0 : ydk cX6_loadNeighbours 0 [3, 17, 3, 231, 29, 184, 0, 185, 184, 0, 106, 54, 4, 42, 27, 4, 100, 28, 21, 4, 182, 0, 188, 42, 27, 4, 96, 28, 21, 4, 182, 0, 188] = true := by decide +kernel
theorem dX6_loadNeighbours_0 : decode cX6_loadNeighbours 0 = .ok (.iconst 0, 1) := yd_op_3 (i := 0) yd_by_cX6_loadNeighbours_0 rfl rfl
theorem dX6_loadNeighbours_1 : decode cX6_loadNeighbours 1 = .ok (.sipush 999, 3) := yd_op_17 (i := 1) (a := 3) (b := 231) yd_by_cX6_loadNeighbours_0 rfl rfl
theorem dX6_loadNeighbours_4 : decode cX6_loadNeighbours 4 = .ok (.iload_n 3, 1) := yd_op_29 (i := 4) yd_by_cX6_loadNeighbours_0 rfl rfl
theorem dX6_loadNeighbours_5 : decode cX6_loadNeighbours 5 = .ok (.invokestatic 185, 3) := yd_op_184 (i := 5) (a := 0) (b := 185) yd_by_cX6_loadNeighbours_0 rfl rfl
theorem dX6_loadNeighbours_8 : decode cX6_loadNeighbours 8 = .ok (.invokestatic 106, 3) := yd_op_184 (i := 8) (a := 0) (b := 106) yd_by_cX6_loadNeighbours_0 rfl rfl
theorem dX6_loadNeighbours_11 : decode cX6_loadNeighbours 11 = .ok (.istore 4, 2) := yd_op_54 (i := 11) (a := 4) yd_by_cX6_loadNeighbours_0 rfl rfl
theorem dX6_loadNeighbours_13 : decode cX6_loadNeighbours 13 = .ok (.aload_n 0, 1) := yd_op_42 (i := 13) yd_by_cX6_loadNeighbours_0 rfl rfl
theorem dX6_loadNeighbours_14 : decode cX6_loadNeighbours 14 = .ok (.iload_n 1, 1) := yd_op_27 (i := 14) yd_by_cX6_loadNeighbours_0 rfl rfl
theorem dX6_loadNeighbours_15 : decode cX6_loadNeighbours 15 = .ok (.iconst 1, 1) := yd_op_4 (i := 15) yd_by_cX6_loadNeighbours_0 rfl rfl
theorem dX6_loadNeighbours_16 : decode cX6_loadNeighbours 16 = .ok (.isub, 1) := yd_op_100 (i := 16) yd_by_cX6_loadNeighbours_0 rfl rfl
theorem dX6_loadNeighbours_17 : decode cX6_loadNeighbours 17 = .ok (.iload_n 2, 1) := yd_op_28 (i := 17) yd_by_cX6_loadNeighbours_0 rfl rfl
theorem dX6_loadNeighbours_18 : decode cX6_loadNeighbours 18 = .ok (.iload 4, 2) := yd_op_21 (i := 18) (a := 4) yd_by_cX6_loadNeighbours_0 rfl rfl
theorem dX6_loadNeighbours_20 : decode cX6_loadNeighbours 20 = .ok (.invokevirtual 188, 3) := yd_op_182 (i := 20) (a := 0) (b := 188) yd_by_cX6_loadNeighbours_0 rfl rfl
theorem dX6_loadNeighbours_23 : decode cX6_loadNeighbours 23 = .ok (.aload_n 0, 1) := yd_op_42 (i := 23) yd_by_cX6_loadNeighbours_0 rfl rfl
theorem dX6_loadNeighbours_24 : decode cX6_loadNeighbours 24 = .ok (.iload_n 1, 1) := yd_op_27 (i := 24) yd_by_cX6_loadNeighbours_0 rfl rfl
theorem dX6_loadNeighbours_25 : decode cX6_loadNeighbours 25 = .ok (.iconst 1, 1) := yd_op_4 (i := 25) yd_by_cX6_loadNeighbours_0 rfl rfl
theorem dX6_loadNeighbours_26 : decode cX6_loadNeighbours 26 = .ok (.iadd, 1) := yd_op_96 (i := 26) yd_by_cX6_loadNeighbours_0 rfl rfl
theorem dX6_loadNeighbours_27 : decode cX6_loadNeighbours 27 = .ok (.iload_n 2, 1) := yd_op_28 (i := 27) yd_by_cX6_loadNeighbours_0 rfl rfl
theorem dX6_loadNeighbours_28 : decode cX6_loadNeighbours 28 = .ok (.iload 4, 2) := yd_op_21 (i := 28) (a := 4) yd_by_cX6_loadNeighbours_0 rfl rfl
theorem dX6_loadNeighbours_30 : decode cX6_loadNeighbours 30 = .ok (.invokevirtual 188, 3) := yd_op_182 (i := 30) (a := 0) (b := 188) yd_by_cX6_loadNeighbours_0 rfl rfl
set_option maxRecDepth 100000 in
theorem yd_by_cX6_loadNeighbours_1 : ydk cX6_loadNeighbours 33 [42, 27, 28, 4, 100, 21, 4, 182, 0, 188, 42, 27, 28, 4, 96, 21, 4, 182, 0, 188, 177] = true := by decide +kernel
theorem dX6_loadNeighbours_33 : decode cX6_loadNeighbours 33 = .ok (.aload_n 0, 1) := yd_op_42 (i := 0) yd_by_cX6_loadNeighbours_1 rfl rfl
theorem dX6_loadNeighbours_34 : decode cX6_loadNeighbours 34 = .ok (.iload_n 1, 1) := yd_op_27 (i := 1) yd_by_cX6_loadNeighbours_1 rfl rfl
theorem dX6_loadNeighbours_35 : decode cX6_loadNeighbours 35 = .ok (.iload_n 2, 1) := yd_op_28 (i := 2) yd_by_cX6_loadNeighbours_1 rfl rfl
theorem dX6_loadNeighbours_36 : decode cX6_loadNeighbours 36 = .ok (.iconst 1, 1) := yd_op_4 (i := 3) yd_by_cX6_loadNeighbours_1 rfl rfl
theorem dX6_loadNeighbours_37 : decode cX6_loadNeighbours 37 = .ok (.isub, 1) := yd_op_100 (i := 4) yd_by_cX6_loadNeighbours_1 rfl rfl
theorem dX6_loadNeighbours_38 : decode cX6_loadNeighbours 38 = .ok (.iload 4, 2) := yd_op_21 (i := 5) (a := 4) yd_by_cX6_loadNeighbours_1 rfl rfl
theorem dX6_loadNeighbours_40 : decode cX6_loadNeighbours 40 = .ok (.invokevirtual 188, 3) := yd_op_182 (i := 7) (a := 0) (b := 188) yd_by_cX6_loadNeighbours_1 rfl rfl
theorem dX6_loadNeighbours_43 : decode cX6_loadNeighbours 43 = .ok (.aload_n 0, 1) := yd_op_42 (i := 10) yd_by_cX6_loadNeighbours_1 rfl rfl
theorem dX6_loadNeighbours_44 : decode cX6_loadNeighbours 44 = .ok (.iload_n 1, 1) := yd_op_27 (i := 11) yd_by_cX6_loadNeighbours_1 rfl rfl
theorem dX6_loadNeighbours_45 : decode cX6_loadNeighbours 45 = .ok (.iload_n 2, 1) := yd_op_28 (i := 12) yd_by_cX6_loadNeighbours_1 rfl rfl
theorem dX6_loadNeighbours_46 : decode cX6_loadNeighbours 46 = .ok (.iconst 1, 1) := yd_op_4 (i := 13) yd_by_cX6_loadNeighbours_1 rfl rfl
theorem dX6_loadNeighbours_47 : decode cX6_loadNeighbours 47 = .ok (.iadd, 1) := yd_op_96 (i := 14) yd_by_cX6_loadNeighbours_1 rfl rfl
theorem dX6_loadNeighbours_48 : decode cX6_loadNeighbours 48 = .ok (.iload 4, 2) := yd_op_21 (i := 15) (a := 4) yd_by_cX6_loadNeighbours_1 rfl rfl
theorem dX6_loadNeighbours_50 : decode cX6_loadNeighbours 50 = .ok (.invokevirtual 188, 3) := yd_op_182 (i := 17) (a := 0) (b := 188) yd_by_cX6_loadNeighbours_1 rfl rfl
theorem dX6_loadNeighbours_53 : decode cX6_loadNeighbours 53 = .ok (.return_, 1) := yd_op_177 (i := 20) yd_by_cX6_loadNeighbours_1 rfl rfl
set_option maxRecDepth 100000 in
theorem yd_by_cX6_addLoad_0 : ydk cX6_addLoad 0 [42, 180, 0, 54, 27, 28, 182, 0, 191, 153, 0, 21, 42, 180, 0, 28, 42, 180, 0, 54, 27, 28, 182, 0, 93, 92, 46, 29, 96, 79, 177] = true := by decide +kernel
theorem dX6_addLoad_0 : decode cX6_addLoad 0 = .ok (.aload_n 0, 1) := yd_op_42 (i := 0) yd_by_cX6_addLoad_0 rfl rfl
theorem dX6_addLoad_1 : decode cX6_addLoad 1 = .ok (.getfield 54, 3) := yd_op_180 (i := 1) (a := 0) (b := 54) yd_by_cX6_addLoad_0 rfl rfl
theorem dX6_addLoad_4 : decode cX6_addLoad 4 = .ok (.iload_n 1, 1) := yd_op_27 (i := 4) yd_by_cX6_addLoad_0 rfl rfl
theorem dX6_addLoad_5 : decode cX6_addLoad 5 = .ok (.iload_n 2, 1) := yd_op_28 (i := 5) yd_by_cX6_addLoad_0 rfl rfl
theorem dX6_addLoad_6 : decode cX6_addLoad 6 = .ok (.invokevirtual 191, 3) := yd_op_182 (i := 6) (a := 0) (b := 191) yd_by_cX6_addLoad_0 rfl rfl
theorem dX6_addLoad_9 : decode cX6_addLoad 9 = .ok (.ifCond .eq 21, 3) := yd_op_153 (i := 9) (a := 0) (b := 21) yd_by_cX6_addLoad_0 rfl rfl
theorem dX6_addLoad_12 : decode cX6_addLoad 12 = .ok (.aload_n 0, 1) := yd_op_42 (i := 12) yd_by_cX6_addLoad_0 rfl rfl
theorem dX6_addLoad_13 : decode cX6_addLoad 13 = .ok (.getfield 28, 3) := yd_op_180 (i := 13) (a := 0) (b := 28) yd_by_cX6_addLoad_0 rfl rfl
theorem dX6_addLoad_16 : decode cX6_addLoad 16 = .ok (.aload_n 0, 1) := yd_op_42 (i := 16) yd_by_cX6_addLoad_0 rfl rfl
theorem dX6_addLoad_17 : decode cX6_addLoad 17 = .ok (.getfield 54, 3) := yd_op_180 (i := 17) (a := 0) (b := 54) yd_by_cX6_addLoad_0 rfl rfl
theorem dX6_addLoad_20 : decode cX6_addLoad 20 = .ok (.iload_n 1, 1) := yd_op_27 (i := 20) yd_by_cX6_addLoad_0 rfl rfl
theorem dX6_addLoad_21 : decode cX6_addLoad 21 = .ok (.iload_n 2, 1) := yd_op_28 (i := 21) yd_by_cX6_addLoad_0 rfl rfl
theorem dX6_addLoad_22 : decode cX6_addLoad 22 = .ok (.invokevirtual 93, 3) := yd_op_182 (i := 22) (a := 0) (b := 93) yd_by_cX6_addLoad_0 rfl rfl
theorem dX6_addLoad_25 : decode cX6_addLoad 25 = .ok (.dup2, 1) := yd_op_92 (i := 25) yd_by_cX6_addLoad_0 rfl rfl
theorem dX6_addLoad_26 : decode cX6_addLoad 26 = .ok (.iaload, 1) := yd_op_46 (i := 26) yd_by_cX6_addLoad_0 rfl rfl
theorem dX6_addLoad_27 : decode cX6_addLoad 27 = .ok (.iload_n 3, 1) := yd_op_29 (i := 27) yd_by_cX6_addLoad_0 rfl rfl
theorem dX6_addLoad_28 : decode cX6_addLoad 28 = .ok (.iadd, 1) := yd_op_96 (i := 28) yd_by_cX6_addLoad_0 rfl rfl
theorem dX6_addLoad_29 : decode cX6_addLoad 29 = .ok (.iastore, 1) := yd_op_79 (i := 29) yd_by_cX6_addLoad_0 rfl rfl
theorem dX6_addLoad_30 : decode cX6_addLoad 30 = .ok (.return_, 1) := yd_op_177 (i := 30) yd_by_cX6_addLoad_0 rfl rfl
set_option maxRecDepth 100000 in
theorem yd_by_cX6_measureLifted_0 : ydk cX6_measureLifted 0 [27, 42, 180, 0, 38, 160, 0, 4, 177, 42, 27, 181, 0, 38, 3, 61, 28, 42, 180, 0, 54, 182, 0, 160, 162, 0, 16, 42, 180, 0, 25, 28, 3, 79] = true := by decide +kernel
theorem dX6_measureLifted_0 : decode cX6_measureLifted 0 = .ok (.iload_n 1, 1) := yd_op_27 (i := 0) yd_by_cX6_measureLifted_0 rfl rfl
theorem dX6_measureLifted_1 : decode cX6_measureLifted 1 = .ok (.aload_n 0, 1) := yd_op_42 (i := 1) yd_by_cX6_measureLifted_0 rfl rfl
theorem dX6_measureLifted_2 : decode cX6_measureLifted 2 = .ok (.getfield 38, 3) := yd_op_180 (i := 2) (a := 0) (b := 38) yd_by_cX6_measureLifted_0 rfl rfl
theorem dX6_measureLifted_5 : decode cX6_measureLifted 5 = .ok (.if_icmp .ne 4, 3) := yd_op_160 (i := 5) (a := 0) (b := 4) yd_by_cX6_measureLifted_0 rfl rfl
theorem dX6_measureLifted_8 : decode cX6_measureLifted 8 = .ok (.return_, 1) := yd_op_177 (i := 8) yd_by_cX6_measureLifted_0 rfl rfl
theorem dX6_measureLifted_9 : decode cX6_measureLifted 9 = .ok (.aload_n 0, 1) := yd_op_42 (i := 9) yd_by_cX6_measureLifted_0 rfl rfl
theorem dX6_measureLifted_10 : decode cX6_measureLifted 10 = .ok (.iload_n 1, 1) := yd_op_27 (i := 10) yd_by_cX6_measureLifted_0 rfl rfl
theorem dX6_measureLifted_11 : decode cX6_measureLifted 11 = .ok (.putfield 38, 3) := yd_op_181 (i := 11) (a := 0) (b := 38) yd_by_cX6_measureLifted_0 rfl rfl
theorem dX6_measureLifted_14 : decode cX6_measureLifted 14 = .ok (.iconst 0, 1) := yd_op_3 (i := 14) yd_by_cX6_measureLifted_0 rfl rfl
theorem dX6_measureLifted_15 : decode cX6_measureLifted 15 = .ok (.istore_n 2, 1) := yd_op_61 (i := 15) yd_by_cX6_measureLifted_0 rfl rfl
theorem dX6_measureLifted_16 : decode cX6_measureLifted 16 = .ok (.iload_n 2, 1) := yd_op_28 (i := 16) yd_by_cX6_measureLifted_0 rfl rfl
theorem dX6_measureLifted_17 : decode cX6_measureLifted 17 = .ok (.aload_n 0, 1) := yd_op_42 (i := 17) yd_by_cX6_measureLifted_0 rfl rfl
theorem dX6_measureLifted_18 : decode cX6_measureLifted 18 = .ok (.getfield 54, 3) := yd_op_180 (i := 18) (a := 0) (b := 54) yd_by_cX6_measureLifted_0 rfl rfl
theorem dX6_measureLifted_21 : decode cX6_measureLifted 21 = .ok (.invokevirtual 160, 3) := yd_op_182 (i := 21) (a := 0) (b := 160) yd_by_cX6_measureLifted_0 rfl rfl
theorem dX6_measureLifted_24 : decode cX6_measureLifted 24 = .ok (.if_icmp .ge 16, 3) := yd_op_162 (i := 24) (a := 0) (b := 16) yd_by_cX6_measureLifted_0 rfl rfl
theorem dX6_measureLifted_27 : decode cX6_measureLifted 27 = .ok (.aload_n 0, 1) := yd_op_42 (i := 27) yd_by_cX6_measureLifted_0 rfl rfl
theorem dX6_measureLifted_28 : decode cX6_measureLifted 28 = .ok (.getfield 25, 3) := yd_op_180 (i := 28) (a := 0) (b := 25) yd_by_cX6_measureLifted_0 rfl rfl
theorem dX6_measureLifted_31 : decode cX6_measureLifted 31 = .ok (.iload_n 2, 1) := yd_op_28 (i := 31) yd_by_cX6_measureLifted_0 rfl rfl
theorem dX6_measureLifted_32 : decode cX6_measureLifted 32 = .ok (.iconst 0, 1) := yd_op_3 (i := 32) yd_by_cX6_measureLifted_0 rfl rfl
theorem dX6_measureLifted_33 : decode cX6_measureLifted 33 = .ok (.iastore, 1) := yd_op_79 (i := 33) yd_by_cX6_measureLifted_0 rfl rfl
set_option maxRecDepth 100000 in
theorem yd_by_cX6_measureLifted_1 : ydk cX6_measureLifted 34 [132, 2, 1, 167, 255, 235, 3, 61, 28, 42, 180, 0, 54, 180, 0, 62, 162, 0, 56, 27, 28, 122, 4, 126, 153, 0, 42, 3, 62, 29, 42, 180, 0, 54] = true := by decide +kernel
theorem dX6_measureLifted_34 : decode cX6_measureLifted 34 = .ok (.iinc 2 1, 3) := yd_op_132 (i := 0) (a := 2) (b := 1) yd_by_cX6_measureLifted_1 rfl rfl
theorem dX6_measureLifted_37 : decode cX6_measureLifted 37 = .ok (.goto (-21), 3) := yd_op_167 (i := 3) (a := 255) (b := 235) yd_by_cX6_measureLifted_1 rfl rfl
theorem dX6_measureLifted_40 : decode cX6_measureLifted 40 = .ok (.iconst 0, 1) := yd_op_3 (i := 6) yd_by_cX6_measureLifted_1 rfl rfl
theorem dX6_measureLifted_41 : decode cX6_measureLifted 41 = .ok (.istore_n 2, 1) := yd_op_61 (i := 7) yd_by_cX6_measureLifted_1 rfl rfl
theorem dX6_measureLifted_42 : decode cX6_measureLifted 42 = .ok (.iload_n 2, 1) := yd_op_28 (i := 8) yd_by_cX6_measureLifted_1 rfl rfl
theorem dX6_measureLifted_43 : decode cX6_measureLifted 43 = .ok (.aload_n 0, 1) := yd_op_42 (i := 9) yd_by_cX6_measureLifted_1 rfl rfl
theorem dX6_measureLifted_44 : decode cX6_measureLifted 44 = .ok (.getfield 54, 3) := yd_op_180 (i := 10) (a := 0) (b := 54) yd_by_cX6_measureLifted_1 rfl rfl
theorem dX6_measureLifted_47 : decode cX6_measureLifted 47 = .ok (.getfield 62, 3) := yd_op_180 (i := 13) (a := 0) (b := 62) yd_by_cX6_measureLifted_1 rfl rfl
theorem dX6_measureLifted_50 : decode cX6_measureLifted 50 = .ok (.if_icmp .ge 56, 3) := yd_op_162 (i := 16) (a := 0) (b := 56) yd_by_cX6_measureLifted_1 rfl rfl
theorem dX6_measureLifted_53 : decode cX6_measureLifted 53 = .ok (.iload_n 1, 1) := yd_op_27 (i := 19) yd_by_cX6_measureLifted_1 rfl rfl
theorem dX6_measureLifted_54 : decode cX6_measureLifted 54 = .ok (.iload_n 2, 1) := yd_op_28 (i := 20) yd_by_cX6_measureLifted_1 rfl rfl
theorem dX6_measureLifted_55 : decode cX6_measureLifted 55 = .ok (.ishr, 1) := yd_op_122 (i := 21) yd_by_cX6_measureLifted_1 rfl rfl
theorem dX6_measureLifted_56 : decode cX6_measureLifted 56 = .ok (.iconst 1, 1) := yd_op_4 (i := 22) yd_by_cX6_measureLifted_1 rfl rfl
theorem dX6_measureLifted_57 : decode cX6_measureLifted 57 = .ok (.iand, 1) := yd_op_126 (i := 23) yd_by_cX6_measureLifted_1 rfl rfl
theorem dX6_measureLifted_58 : decode cX6_measureLifted 58 = .ok (.ifCond .eq 42, 3) := yd_op_153 (i := 24) (a := 0) (b := 42) yd_by_cX6_measureLifted_1 rfl rfl
theorem dX6_measureLifted_61 : decode cX6_measureLifted 61 = .ok (.iconst 0, 1) := yd_op_3 (i := 27) yd_by_cX6_measureLifted_1 rfl rfl
theorem dX6_measureLifted_62 : decode cX6_measureLifted 62 = .ok (.istore_n 3, 1) := yd_op_62 (i := 28) yd_by_cX6_measureLifted_1 rfl rfl
theorem dX6_measureLifted_63 : decode cX6_measureLifted 63 = .ok (.iload_n 3, 1) := yd_op_29 (i := 29) yd_by_cX6_measureLifted_1 rfl rfl
theorem dX6_measureLifted_64 : decode cX6_measureLifted 64 = .ok (.aload_n 0, 1) := yd_op_42 (i := 30) yd_by_cX6_measureLifted_1 rfl rfl
theorem dX6_measureLifted_65 : decode cX6_measureLifted 65 = .ok (.getfield 54, 3) := yd_op_180 (i := 31) (a := 0) (b := 54) yd_by_cX6_measureLifted_1 rfl rfl
set_option maxRecDepth 100000 in
theorem yd_by_cX6_measureLifted_2 : ydk cX6_measureLifted 68 [182, 0, 160, 162, 0, 29, 42, 180, 0, 25, 29, 92, 46, 42, 180, 0, 18, 28, 16, 36, 104, 29, 96, 46, 96, 79, 132, 3, 1, 167, 255, 222, 132, 2, 1] = true := by decide +kernel
theorem dX6_measureLifted_68 : decode cX6_measureLifted 68 = .ok (.invokevirtual 160, 3) := yd_op_182 (i := 0) (a := 0) (b := 160) yd_by_cX6_measureLifted_2 rfl rfl
theorem dX6_measureLifted_71 : decode cX6_measureLifted 71 = .ok (.if_icmp .ge 29, 3) := yd_op_162 (i := 3) (a := 0) (b := 29) yd_by_cX6_measureLifted_2 rfl rfl
theorem dX6_measureLifted_74 : decode cX6_measureLifted 74 = .ok (.aload_n 0, 1) := yd_op_42 (i := 6) yd_by_cX6_measureLifted_2 rfl rfl
theorem dX6_measureLifted_75 : decode cX6_measureLifted 75 = .ok (.getfield 25, 3) := yd_op_180 (i := 7) (a := 0) (b := 25) yd_by_cX6_measureLifted_2 rfl rfl
theorem dX6_measureLifted_78 : decode cX6_measureLifted 78 = .ok (.iload_n 3, 1) := yd_op_29 (i := 10) yd_by_cX6_measureLifted_2 rfl rfl
theorem dX6_measureLifted_79 : decode cX6_measureLifted 79 = .ok (.dup2, 1) := yd_op_92 (i := 11) yd_by_cX6_measureLifted_2 rfl rfl
theorem dX6_measureLifted_80 : decode cX6_measureLifted 80 = .ok (.iaload, 1) := yd_op_46 (i := 12) yd_by_cX6_measureLifted_2 rfl rfl
theorem dX6_measureLifted_81 : decode cX6_measureLifted 81 = .ok (.aload_n 0, 1) := yd_op_42 (i := 13) yd_by_cX6_measureLifted_2 rfl rfl
theorem dX6_measureLifted_82 : decode cX6_measureLifted 82 = .ok (.getfield 18, 3) := yd_op_180 (i := 14) (a := 0) (b := 18) yd_by_cX6_measureLifted_2 rfl rfl
theorem dX6_measureLifted_85 : decode cX6_measureLifted 85 = .ok (.iload_n 2, 1) := yd_op_28 (i := 17) yd_by_cX6_measureLifted_2 rfl rfl
theorem dX6_measureLifted_86 : decode cX6_measureLifted 86 = .ok (.bipush 36, 2) := yd_op_16 (i := 18) (a := 36) yd_by_cX6_measureLifted_2 rfl rfl
theorem dX6_measureLifted_88 : decode cX6_measureLifted 88 = .ok (.imul, 1) := yd_op_104 (i := 20) yd_by_cX6_measureLifted_2 rfl rfl
theorem dX6_measureLifted_89 : decode cX6_measureLifted 89 = .ok (.iload_n 3, 1) := yd_op_29 (i := 21) yd_by_cX6_measureLifted_2 rfl rfl
theorem dX6_measureLifted_90 : decode cX6_measureLifted 90 = .ok (.iadd, 1) := yd_op_96 (i := 22) yd_by_cX6_measureLifted_2 rfl rfl
theorem dX6_measureLifted_91 : decode cX6_measureLifted 91 = .ok (.iaload, 1) := yd_op_46 (i := 23) yd_by_cX6_measureLifted_2 rfl rfl
theorem dX6_measureLifted_92 : decode cX6_measureLifted 92 = .ok (.iadd, 1) := yd_op_96 (i := 24) yd_by_cX6_measureLifted_2 rfl rfl
theorem dX6_measureLifted_93 : decode cX6_measureLifted 93 = .ok (.iastore, 1) := yd_op_79 (i := 25) yd_by_cX6_measureLifted_2 rfl rfl
theorem dX6_measureLifted_94 : decode cX6_measureLifted 94 = .ok (.iinc 3 1, 3) := yd_op_132 (i := 26) (a := 3) (b := 1) yd_by_cX6_measureLifted_2 rfl rfl
theorem dX6_measureLifted_97 : decode cX6_measureLifted 97 = .ok (.goto (-34), 3) := yd_op_167 (i := 29) (a := 255) (b := 222) yd_by_cX6_measureLifted_2 rfl rfl
theorem dX6_measureLifted_100 : decode cX6_measureLifted 100 = .ok (.iinc 2 1, 3) := yd_op_132 (i := 32) (a := 2) (b := 1) yd_by_cX6_measureLifted_2 rfl rfl
set_option maxRecDepth 100000 in
theorem yd_by_cX6_measureLifted_3 : ydk cX6_measureLifted 103 [167, 255, 195, 177] = true := by decide +kernel
theorem dX6_measureLifted_103 : decode cX6_measureLifted 103 = .ok (.goto (-61), 3) := yd_op_167 (i := 0) (a := 255) (b := 195) yd_by_cX6_measureLifted_3 rfl rfl
theorem dX6_measureLifted_106 : decode cX6_measureLifted 106 = .ok (.return_, 1) := yd_op_177 (i := 3) yd_by_cX6_measureLifted_3 rfl rfl
set_option maxRecDepth 100000 in
theorem yd_by_cX6_passHour_0 : ydk cX6_passHour 0 [42, 182, 0, 195, 61, 42, 28, 182, 0, 198, 27, 155, 0, 25, 27, 16, 36, 162, 0, 19, 42, 180, 0, 31, 27, 92, 46, 42, 180, 0, 54, 180, 0, 201, 100] = true := by decide +kernel
theorem dX6_passHour_0 : decode cX6_passHour 0 = .ok (.aload_n 0, 1) := yd_op_42 (i := 0) yd_by_cX6_passHour_0 rfl rfl
theorem dX6_passHour_1 : decode cX6_passHour 1 = .ok (.invokevirtual 195, 3) := yd_op_182 (i := 1) (a := 0) (b := 195) yd_by_cX6_passHour_0 rfl rfl
theorem dX6_passHour_4 : decode cX6_passHour 4 = .ok (.istore_n 2, 1) := yd_op_61 (i := 4) yd_by_cX6_passHour_0 rfl rfl
theorem dX6_passHour_5 : decode cX6_passHour 5 = .ok (.aload_n 0, 1) := yd_op_42 (i := 5) yd_by_cX6_passHour_0 rfl rfl
theorem dX6_passHour_6 : decode cX6_passHour 6 = .ok (.iload_n 2, 1) := yd_op_28 (i := 6) yd_by_cX6_passHour_0 rfl rfl
theorem dX6_passHour_7 : decode cX6_passHour 7 = .ok (.invokevirtual 198, 3) := yd_op_182 (i := 7) (a := 0) (b := 198) yd_by_cX6_passHour_0 rfl rfl
theorem dX6_passHour_10 : decode cX6_passHour 10 = .ok (.iload_n 1, 1) := yd_op_27 (i := 10) yd_by_cX6_passHour_0 rfl rfl
theorem dX6_passHour_11 : decode cX6_passHour 11 = .ok (.ifCond .lt 25, 3) := yd_op_155 (i := 11) (a := 0) (b := 25) yd_by_cX6_passHour_0 rfl rfl
theorem dX6_passHour_14 : decode cX6_passHour 14 = .ok (.iload_n 1, 1) := yd_op_27 (i := 14) yd_by_cX6_passHour_0 rfl rfl
theorem dX6_passHour_15 : decode cX6_passHour 15 = .ok (.bipush 36, 2) := yd_op_16 (i := 15) (a := 36) yd_by_cX6_passHour_0 rfl rfl
theorem dX6_passHour_17 : decode cX6_passHour 17 = .ok (.if_icmp .ge 19, 3) := yd_op_162 (i := 17) (a := 0) (b := 19) yd_by_cX6_passHour_0 rfl rfl
theorem dX6_passHour_20 : decode cX6_passHour 20 = .ok (.aload_n 0, 1) := yd_op_42 (i := 20) yd_by_cX6_passHour_0 rfl rfl
theorem dX6_passHour_21 : decode cX6_passHour 21 = .ok (.getfield 31, 3) := yd_op_180 (i := 21) (a := 0) (b := 31) yd_by_cX6_passHour_0 rfl rfl
theorem dX6_passHour_24 : decode cX6_passHour 24 = .ok (.iload_n 1, 1) := yd_op_27 (i := 24) yd_by_cX6_passHour_0 rfl rfl
theorem dX6_passHour_25 : decode cX6_passHour 25 = .ok (.dup2, 1) := yd_op_92 (i := 25) yd_by_cX6_passHour_0 rfl rfl
theorem dX6_passHour_26 : decode cX6_passHour 26 = .ok (.iaload, 1) := yd_op_46 (i := 26) yd_by_cX6_passHour_0 rfl rfl
theorem dX6_passHour_27 : decode cX6_passHour 27 = .ok (.aload_n 0, 1) := yd_op_42 (i := 27) yd_by_cX6_passHour_0 rfl rfl
theorem dX6_passHour_28 : decode cX6_passHour 28 = .ok (.getfield 54, 3) := yd_op_180 (i := 28) (a := 0) (b := 54) yd_by_cX6_passHour_0 rfl rfl
theorem dX6_passHour_31 : decode cX6_passHour 31 = .ok (.getfield 201, 3) := yd_op_180 (i := 31) (a := 0) (b := 201) yd_by_cX6_passHour_0 rfl rfl
theorem dX6_passHour_34 : decode cX6_passHour 34 = .ok (.isub, 1) := yd_op_100 (i := 34) yd_by_cX6_passHour_0 rfl rfl
set_option maxRecDepth 100000 in
theorem yd_by_cX6_passHour_1 : ydk cX6_passHour 35 [79, 42, 182, 0, 204, 66, 42, 180, 0, 58, 89, 180, 0, 117, 33, 129, 181, 0, 117, 42, 28, 182, 0, 208, 42, 180, 0, 58, 42, 180, 0, 58, 180, 0, 114, 4] = true := by decide +kernel
theorem dX6_passHour_35 : decode cX6_passHour 35 = .ok (.iastore, 1) := yd_op_79 (i := 0) yd_by_cX6_passHour_1 rfl rfl
theorem dX6_passHour_36 : decode cX6_passHour 36 = .ok (.aload_n 0, 1) := yd_op_42 (i := 1) yd_by_cX6_passHour_1 rfl rfl
theorem dX6_passHour_37 : decode cX6_passHour 37 = .ok (.invokevirtual 204, 3) := yd_op_182 (i := 2) (a := 0) (b := 204) yd_by_cX6_passHour_1 rfl rfl
theorem dX6_passHour_40 : decode cX6_passHour 40 = .ok (.lstore_n 3, 1) := yd_op_66 (i := 5) yd_by_cX6_passHour_1 rfl rfl
theorem dX6_passHour_41 : decode cX6_passHour 41 = .ok (.aload_n 0, 1) := yd_op_42 (i := 6) yd_by_cX6_passHour_1 rfl rfl
theorem dX6_passHour_42 : decode cX6_passHour 42 = .ok (.getfield 58, 3) := yd_op_180 (i := 7) (a := 0) (b := 58) yd_by_cX6_passHour_1 rfl rfl
theorem dX6_passHour_45 : decode cX6_passHour 45 = .ok (.dup, 1) := yd_op_89 (i := 10) yd_by_cX6_passHour_1 rfl rfl
theorem dX6_passHour_46 : decode cX6_passHour 46 = .ok (.getfield 117, 3) := yd_op_180 (i := 11) (a := 0) (b := 117) yd_by_cX6_passHour_1 rfl rfl
theorem dX6_passHour_49 : decode cX6_passHour 49 = .ok (.lload_n 3, 1) := yd_op_33 (i := 14) yd_by_cX6_passHour_1 rfl rfl
theorem dX6_passHour_50 : decode cX6_passHour 50 = .ok (.lor, 1) := yd_op_129 (i := 15) yd_by_cX6_passHour_1 rfl rfl
theorem dX6_passHour_51 : decode cX6_passHour 51 = .ok (.putfield 117, 3) := yd_op_181 (i := 16) (a := 0) (b := 117) yd_by_cX6_passHour_1 rfl rfl
theorem dX6_passHour_54 : decode cX6_passHour 54 = .ok (.aload_n 0, 1) := yd_op_42 (i := 19) yd_by_cX6_passHour_1 rfl rfl
theorem dX6_passHour_55 : decode cX6_passHour 55 = .ok (.iload_n 2, 1) := yd_op_28 (i := 20) yd_by_cX6_passHour_1 rfl rfl
theorem dX6_passHour_56 : decode cX6_passHour 56 = .ok (.invokevirtual 208, 3) := yd_op_182 (i := 21) (a := 0) (b := 208) yd_by_cX6_passHour_1 rfl rfl
theorem dX6_passHour_59 : decode cX6_passHour 59 = .ok (.aload_n 0, 1) := yd_op_42 (i := 24) yd_by_cX6_passHour_1 rfl rfl
theorem dX6_passHour_60 : decode cX6_passHour 60 = .ok (.getfield 58, 3) := yd_op_180 (i := 25) (a := 0) (b := 58) yd_by_cX6_passHour_1 rfl rfl
theorem dX6_passHour_63 : decode cX6_passHour 63 = .ok (.aload_n 0, 1) := yd_op_42 (i := 28) yd_by_cX6_passHour_1 rfl rfl
theorem dX6_passHour_64 : decode cX6_passHour 64 = .ok (.getfield 58, 3) := yd_op_180 (i := 29) (a := 0) (b := 58) yd_by_cX6_passHour_1 rfl rfl
theorem dX6_passHour_67 : decode cX6_passHour 67 = .ok (.getfield 114, 3) := yd_op_180 (i := 32) (a := 0) (b := 114) yd_by_cX6_passHour_1 rfl rfl
theorem dX6_passHour_70 : decode cX6_passHour 70 = .ok (.iconst 1, 1) := yd_op_4 (i := 35) yd_by_cX6_passHour_1 rfl rfl
set_option maxRecDepth 100000 in
theorem yd_by_cX6_passHour_2 : ydk cX6_passHour 71 [96, 17, 3, 231, 184, 0, 185, 181, 0, 114, 33, 173] = true := by decide +kernel
theorem dX6_passHour_71 : decode cX6_passHour 71 = .ok (.iadd, 1) := yd_op_96 (i := 0) yd_by_cX6_passHour_2 rfl rfl
theorem dX6_passHour_72 : decode cX6_passHour 72 = .ok (.sipush 999, 3) := yd_op_17 (i := 1) (a := 3) (b := 231) yd_by_cX6_passHour_2 rfl rfl
theorem dX6_passHour_75 : decode cX6_passHour 75 = .ok (.invokestatic 185, 3) := yd_op_184 (i := 4) (a := 0) (b := 185) yd_by_cX6_passHour_2 rfl rfl
theorem dX6_passHour_78 : decode cX6_passHour 78 = .ok (.putfield 114, 3) := yd_op_181 (i := 7) (a := 0) (b := 114) yd_by_cX6_passHour_2 rfl rfl
theorem dX6_passHour_81 : decode cX6_passHour 81 = .ok (.lload_n 3, 1) := yd_op_33 (i := 10) yd_by_cX6_passHour_2 rfl rfl
theorem dX6_passHour_82 : decode cX6_passHour 82 = .ok (.lreturn, 1) := yd_op_173 (i := 11) yd_by_cX6_passHour_2 rfl rfl
set_option maxRecDepth 100000 in
theorem yd_by_cX6_cracking_0 : ydk cX6_cracking 0 [9, 64, 3, 62, 29, 42, 180, 0, 54, 182, 0, 160, 162, 0, 35, 42, 180, 0, 31, 29, 46, 156, 0, 20, 42, 180, 0, 58, 29, 182, 0, 174, 154, 0, 9, 31] = true := by decide +kernel
theorem dX6_cracking_0 : decode cX6_cracking 0 = .ok (.lconst 0, 1) := yd_op_9 (i := 0) yd_by_cX6_cracking_0 rfl rfl
theorem dX6_cracking_1 : decode cX6_cracking 1 = .ok (.lstore_n 1, 1) := yd_op_64 (i := 1) yd_by_cX6_cracking_0 rfl rfl
theorem dX6_cracking_2 : decode cX6_cracking 2 = .ok (.iconst 0, 1) := yd_op_3 (i := 2) yd_by_cX6_cracking_0 rfl rfl
theorem dX6_cracking_3 : decode cX6_cracking 3 = .ok (.istore_n 3, 1) := yd_op_62 (i := 3) yd_by_cX6_cracking_0 rfl rfl
theorem dX6_cracking_4 : decode cX6_cracking 4 = .ok (.iload_n 3, 1) := yd_op_29 (i := 4) yd_by_cX6_cracking_0 rfl rfl
theorem dX6_cracking_5 : decode cX6_cracking 5 = .ok (.aload_n 0, 1) := yd_op_42 (i := 5) yd_by_cX6_cracking_0 rfl rfl
theorem dX6_cracking_6 : decode cX6_cracking 6 = .ok (.getfield 54, 3) := yd_op_180 (i := 6) (a := 0) (b := 54) yd_by_cX6_cracking_0 rfl rfl
theorem dX6_cracking_9 : decode cX6_cracking 9 = .ok (.invokevirtual 160, 3) := yd_op_182 (i := 9) (a := 0) (b := 160) yd_by_cX6_cracking_0 rfl rfl
theorem dX6_cracking_12 : decode cX6_cracking 12 = .ok (.if_icmp .ge 35, 3) := yd_op_162 (i := 12) (a := 0) (b := 35) yd_by_cX6_cracking_0 rfl rfl
theorem dX6_cracking_15 : decode cX6_cracking 15 = .ok (.aload_n 0, 1) := yd_op_42 (i := 15) yd_by_cX6_cracking_0 rfl rfl
theorem dX6_cracking_16 : decode cX6_cracking 16 = .ok (.getfield 31, 3) := yd_op_180 (i := 16) (a := 0) (b := 31) yd_by_cX6_cracking_0 rfl rfl
theorem dX6_cracking_19 : decode cX6_cracking 19 = .ok (.iload_n 3, 1) := yd_op_29 (i := 19) yd_by_cX6_cracking_0 rfl rfl
theorem dX6_cracking_20 : decode cX6_cracking 20 = .ok (.iaload, 1) := yd_op_46 (i := 20) yd_by_cX6_cracking_0 rfl rfl
theorem dX6_cracking_21 : decode cX6_cracking 21 = .ok (.ifCond .ge 20, 3) := yd_op_156 (i := 21) (a := 0) (b := 20) yd_by_cX6_cracking_0 rfl rfl
theorem dX6_cracking_24 : decode cX6_cracking 24 = .ok (.aload_n 0, 1) := yd_op_42 (i := 24) yd_by_cX6_cracking_0 rfl rfl
theorem dX6_cracking_25 : decode cX6_cracking 25 = .ok (.getfield 58, 3) := yd_op_180 (i := 25) (a := 0) (b := 58) yd_by_cX6_cracking_0 rfl rfl
theorem dX6_cracking_28 : decode cX6_cracking 28 = .ok (.iload_n 3, 1) := yd_op_29 (i := 28) yd_by_cX6_cracking_0 rfl rfl
theorem dX6_cracking_29 : decode cX6_cracking 29 = .ok (.invokevirtual 174, 3) := yd_op_182 (i := 29) (a := 0) (b := 174) yd_by_cX6_cracking_0 rfl rfl
theorem dX6_cracking_32 : decode cX6_cracking 32 = .ok (.ifCond .ne 9, 3) := yd_op_154 (i := 32) (a := 0) (b := 9) yd_by_cX6_cracking_0 rfl rfl
theorem dX6_cracking_35 : decode cX6_cracking 35 = .ok (.lload_n 1, 1) := yd_op_31 (i := 35) yd_by_cX6_cracking_0 rfl rfl
set_option maxRecDepth 100000 in
theorem yd_by_cX6_cracking_1 : ydk cX6_cracking 36 [10, 29, 121, 129, 64, 132, 3, 1, 167, 255, 216, 31, 173] = true := by decide +kernel
theorem dX6_cracking_36 : decode cX6_cracking 36 = .ok (.lconst 1, 1) := yd_op_10 (i := 0) yd_by_cX6_cracking_1 rfl rfl
theorem dX6_cracking_37 : decode cX6_cracking 37 = .ok (.iload_n 3, 1) := yd_op_29 (i := 1) yd_by_cX6_cracking_1 rfl rfl
theorem dX6_cracking_38 : decode cX6_cracking 38 = .ok (.lshl, 1) := yd_op_121 (i := 2) yd_by_cX6_cracking_1 rfl rfl
theorem dX6_cracking_39 : decode cX6_cracking 39 = .ok (.lor, 1) := yd_op_129 (i := 3) yd_by_cX6_cracking_1 rfl rfl
theorem dX6_cracking_40 : decode cX6_cracking 40 = .ok (.lstore_n 1, 1) := yd_op_64 (i := 4) yd_by_cX6_cracking_1 rfl rfl
theorem dX6_cracking_41 : decode cX6_cracking 41 = .ok (.iinc 3 1, 3) := yd_op_132 (i := 5) (a := 3) (b := 1) yd_by_cX6_cracking_1 rfl rfl
theorem dX6_cracking_44 : decode cX6_cracking 44 = .ok (.goto (-40), 3) := yd_op_167 (i := 8) (a := 255) (b := 216) yd_by_cX6_cracking_1 rfl rfl
theorem dX6_cracking_47 : decode cX6_cracking 47 = .ok (.lload_n 1, 1) := yd_op_31 (i := 11) yd_by_cX6_cracking_1 rfl rfl
theorem dX6_cracking_48 : decode cX6_cracking 48 = .ok (.lreturn, 1) := yd_op_173 (i := 12) yd_by_cX6_cracking_1 rfl rfl
set_option maxRecDepth 100000 in
theorem yd_by_cX6_tire_0 : ydk cX6_tire 0 [3, 61, 28, 42, 180, 0, 54, 180, 0, 62, 162, 0, 69, 27, 28, 122, 4, 126, 153, 0, 31, 42, 180, 0, 58, 180, 0, 126, 28, 42, 180, 0, 58, 180, 0, 126] = true := by decide +kernel
theorem dX6_tire_0 : decode cX6_tire 0 = .ok (.iconst 0, 1) := yd_op_3 (i := 0) yd_by_cX6_tire_0 rfl rfl
theorem dX6_tire_1 : decode cX6_tire 1 = .ok (.istore_n 2, 1) := yd_op_61 (i := 1) yd_by_cX6_tire_0 rfl rfl
theorem dX6_tire_2 : decode cX6_tire 2 = .ok (.iload_n 2, 1) := yd_op_28 (i := 2) yd_by_cX6_tire_0 rfl rfl
theorem dX6_tire_3 : decode cX6_tire 3 = .ok (.aload_n 0, 1) := yd_op_42 (i := 3) yd_by_cX6_tire_0 rfl rfl
theorem dX6_tire_4 : decode cX6_tire 4 = .ok (.getfield 54, 3) := yd_op_180 (i := 4) (a := 0) (b := 54) yd_by_cX6_tire_0 rfl rfl
theorem dX6_tire_7 : decode cX6_tire 7 = .ok (.getfield 62, 3) := yd_op_180 (i := 7) (a := 0) (b := 62) yd_by_cX6_tire_0 rfl rfl
theorem dX6_tire_10 : decode cX6_tire 10 = .ok (.if_icmp .ge 69, 3) := yd_op_162 (i := 10) (a := 0) (b := 69) yd_by_cX6_tire_0 rfl rfl
theorem dX6_tire_13 : decode cX6_tire 13 = .ok (.iload_n 1, 1) := yd_op_27 (i := 13) yd_by_cX6_tire_0 rfl rfl
theorem dX6_tire_14 : decode cX6_tire 14 = .ok (.iload_n 2, 1) := yd_op_28 (i := 14) yd_by_cX6_tire_0 rfl rfl
theorem dX6_tire_15 : decode cX6_tire 15 = .ok (.ishr, 1) := yd_op_122 (i := 15) yd_by_cX6_tire_0 rfl rfl
theorem dX6_tire_16 : decode cX6_tire 16 = .ok (.iconst 1, 1) := yd_op_4 (i := 16) yd_by_cX6_tire_0 rfl rfl
theorem dX6_tire_17 : decode cX6_tire 17 = .ok (.iand, 1) := yd_op_126 (i := 17) yd_by_cX6_tire_0 rfl rfl
theorem dX6_tire_18 : decode cX6_tire 18 = .ok (.ifCond .eq 31, 3) := yd_op_153 (i := 18) (a := 0) (b := 31) yd_by_cX6_tire_0 rfl rfl
theorem dX6_tire_21 : decode cX6_tire 21 = .ok (.aload_n 0, 1) := yd_op_42 (i := 21) yd_by_cX6_tire_0 rfl rfl
theorem dX6_tire_22 : decode cX6_tire 22 = .ok (.getfield 58, 3) := yd_op_180 (i := 22) (a := 0) (b := 58) yd_by_cX6_tire_0 rfl rfl
theorem dX6_tire_25 : decode cX6_tire 25 = .ok (.getfield 126, 3) := yd_op_180 (i := 25) (a := 0) (b := 126) yd_by_cX6_tire_0 rfl rfl
theorem dX6_tire_28 : decode cX6_tire 28 = .ok (.iload_n 2, 1) := yd_op_28 (i := 28) yd_by_cX6_tire_0 rfl rfl
theorem dX6_tire_29 : decode cX6_tire 29 = .ok (.aload_n 0, 1) := yd_op_42 (i := 29) yd_by_cX6_tire_0 rfl rfl
theorem dX6_tire_30 : decode cX6_tire 30 = .ok (.getfield 58, 3) := yd_op_180 (i := 30) (a := 0) (b := 58) yd_by_cX6_tire_0 rfl rfl
theorem dX6_tire_33 : decode cX6_tire 33 = .ok (.getfield 126, 3) := yd_op_180 (i := 33) (a := 0) (b := 126) yd_by_cX6_tire_0 rfl rfl
set_option maxRecDepth 100000 in
theorem yd_by_cX6_tire_1 : ydk cX6_tire 36 [28, 46, 4, 96, 16, 99, 184, 0, 185, 79, 167, 0, 27, 42, 180, 0, 58, 180, 0, 126, 28, 42, 180, 0, 58, 180, 0, 126, 28, 46, 4, 100, 3] = true := by decide +kernel
theorem dX6_tire_36 : decode cX6_tire 36 = .ok (.iload_n 2, 1) := yd_op_28 (i := 0) yd_by_cX6_tire_1 rfl rfl
theorem dX6_tire_37 : decode cX6_tire 37 = .ok (.iaload, 1) := yd_op_46 (i := 1) yd_by_cX6_tire_1 rfl rfl
theorem dX6_tire_38 : decode cX6_tire 38 = .ok (.iconst 1, 1) := yd_op_4 (i := 2) yd_by_cX6_tire_1 rfl rfl
theorem dX6_tire_39 : decode cX6_tire 39 = .ok (.iadd, 1) := yd_op_96 (i := 3) yd_by_cX6_tire_1 rfl rfl
theorem dX6_tire_40 : decode cX6_tire 40 = .ok (.bipush 99, 2) := yd_op_16 (i := 4) (a := 99) yd_by_cX6_tire_1 rfl rfl
theorem dX6_tire_42 : decode cX6_tire 42 = .ok (.invokestatic 185, 3) := yd_op_184 (i := 6) (a := 0) (b := 185) yd_by_cX6_tire_1 rfl rfl
theorem dX6_tire_45 : decode cX6_tire 45 = .ok (.iastore, 1) := yd_op_79 (i := 9) yd_by_cX6_tire_1 rfl rfl
theorem dX6_tire_46 : decode cX6_tire 46 = .ok (.goto 27, 3) := yd_op_167 (i := 10) (a := 0) (b := 27) yd_by_cX6_tire_1 rfl rfl
theorem dX6_tire_49 : decode cX6_tire 49 = .ok (.aload_n 0, 1) := yd_op_42 (i := 13) yd_by_cX6_tire_1 rfl rfl
theorem dX6_tire_50 : decode cX6_tire 50 = .ok (.getfield 58, 3) := yd_op_180 (i := 14) (a := 0) (b := 58) yd_by_cX6_tire_1 rfl rfl
theorem dX6_tire_53 : decode cX6_tire 53 = .ok (.getfield 126, 3) := yd_op_180 (i := 17) (a := 0) (b := 126) yd_by_cX6_tire_1 rfl rfl
theorem dX6_tire_56 : decode cX6_tire 56 = .ok (.iload_n 2, 1) := yd_op_28 (i := 20) yd_by_cX6_tire_1 rfl rfl
theorem dX6_tire_57 : decode cX6_tire 57 = .ok (.aload_n 0, 1) := yd_op_42 (i := 21) yd_by_cX6_tire_1 rfl rfl
theorem dX6_tire_58 : decode cX6_tire 58 = .ok (.getfield 58, 3) := yd_op_180 (i := 22) (a := 0) (b := 58) yd_by_cX6_tire_1 rfl rfl
theorem dX6_tire_61 : decode cX6_tire 61 = .ok (.getfield 126, 3) := yd_op_180 (i := 25) (a := 0) (b := 126) yd_by_cX6_tire_1 rfl rfl
theorem dX6_tire_64 : decode cX6_tire 64 = .ok (.iload_n 2, 1) := yd_op_28 (i := 28) yd_by_cX6_tire_1 rfl rfl
theorem dX6_tire_65 : decode cX6_tire 65 = .ok (.iaload, 1) := yd_op_46 (i := 29) yd_by_cX6_tire_1 rfl rfl
theorem dX6_tire_66 : decode cX6_tire 66 = .ok (.iconst 1, 1) := yd_op_4 (i := 30) yd_by_cX6_tire_1 rfl rfl
theorem dX6_tire_67 : decode cX6_tire 67 = .ok (.isub, 1) := yd_op_100 (i := 31) yd_by_cX6_tire_1 rfl rfl
theorem dX6_tire_68 : decode cX6_tire 68 = .ok (.iconst 0, 1) := yd_op_3 (i := 32) yd_by_cX6_tire_1 rfl rfl
set_option maxRecDepth 100000 in
theorem yd_by_cX6_tire_2 : ydk cX6_tire 69 [184, 0, 106, 79, 132, 2, 1, 167, 255, 182, 177] = true := by decide +kernel
theorem dX6_tire_69 : decode cX6_tire 69 = .ok (.invokestatic 106, 3) := yd_op_184 (i := 0) (a := 0) (b := 106) yd_by_cX6_tire_2 rfl rfl
theorem dX6_tire_72 : decode cX6_tire 72 = .ok (.iastore, 1) := yd_op_79 (i := 3) yd_by_cX6_tire_2 rfl rfl
theorem dX6_tire_73 : decode cX6_tire 73 = .ok (.iinc 2 1, 3) := yd_op_132 (i := 4) (a := 2) (b := 1) yd_by_cX6_tire_2 rfl rfl
theorem dX6_tire_76 : decode cX6_tire 76 = .ok (.goto (-74), 3) := yd_op_167 (i := 7) (a := 255) (b := 182) yd_by_cX6_tire_2 rfl rfl
theorem dX6_tire_79 : decode cX6_tire 79 = .ok (.return_, 1) := yd_op_177 (i := 10) yd_by_cX6_tire_2 rfl rfl
set_option maxRecDepth 100000 in
theorem yd_by_cX6_freeOf_0 : ydk cX6_freeOf 0 [3, 61, 3, 62, 29, 42, 180, 0, 54, 180, 0, 62, 162, 0, 31, 27, 29, 122, 4, 126, 153, 0, 17, 42, 29, 182, 0, 211, 154, 0, 9, 28] = true := by decide +kernel
theorem dX6_freeOf_0 : decode cX6_freeOf 0 = .ok (.iconst 0, 1) := yd_op_3 (i := 0) yd_by_cX6_freeOf_0 rfl rfl
theorem dX6_freeOf_1 : decode cX6_freeOf 1 = .ok (.istore_n 2, 1) := yd_op_61 (i := 1) yd_by_cX6_freeOf_0 rfl rfl
theorem dX6_freeOf_2 : decode cX6_freeOf 2 = .ok (.iconst 0, 1) := yd_op_3 (i := 2) yd_by_cX6_freeOf_0 rfl rfl
theorem dX6_freeOf_3 : decode cX6_freeOf 3 = .ok (.istore_n 3, 1) := yd_op_62 (i := 3) yd_by_cX6_freeOf_0 rfl rfl
theorem dX6_freeOf_4 : decode cX6_freeOf 4 = .ok (.iload_n 3, 1) := yd_op_29 (i := 4) yd_by_cX6_freeOf_0 rfl rfl
theorem dX6_freeOf_5 : decode cX6_freeOf 5 = .ok (.aload_n 0, 1) := yd_op_42 (i := 5) yd_by_cX6_freeOf_0 rfl rfl
theorem dX6_freeOf_6 : decode cX6_freeOf 6 = .ok (.getfield 54, 3) := yd_op_180 (i := 6) (a := 0) (b := 54) yd_by_cX6_freeOf_0 rfl rfl
theorem dX6_freeOf_9 : decode cX6_freeOf 9 = .ok (.getfield 62, 3) := yd_op_180 (i := 9) (a := 0) (b := 62) yd_by_cX6_freeOf_0 rfl rfl
theorem dX6_freeOf_12 : decode cX6_freeOf 12 = .ok (.if_icmp .ge 31, 3) := yd_op_162 (i := 12) (a := 0) (b := 31) yd_by_cX6_freeOf_0 rfl rfl
theorem dX6_freeOf_15 : decode cX6_freeOf 15 = .ok (.iload_n 1, 1) := yd_op_27 (i := 15) yd_by_cX6_freeOf_0 rfl rfl
theorem dX6_freeOf_16 : decode cX6_freeOf 16 = .ok (.iload_n 3, 1) := yd_op_29 (i := 16) yd_by_cX6_freeOf_0 rfl rfl
theorem dX6_freeOf_17 : decode cX6_freeOf 17 = .ok (.ishr, 1) := yd_op_122 (i := 17) yd_by_cX6_freeOf_0 rfl rfl
theorem dX6_freeOf_18 : decode cX6_freeOf 18 = .ok (.iconst 1, 1) := yd_op_4 (i := 18) yd_by_cX6_freeOf_0 rfl rfl
theorem dX6_freeOf_19 : decode cX6_freeOf 19 = .ok (.iand, 1) := yd_op_126 (i := 19) yd_by_cX6_freeOf_0 rfl rfl
theorem dX6_freeOf_20 : decode cX6_freeOf 20 = .ok (.ifCond .eq 17, 3) := yd_op_153 (i := 20) (a := 0) (b := 17) yd_by_cX6_freeOf_0 rfl rfl
theorem dX6_freeOf_23 : decode cX6_freeOf 23 = .ok (.aload_n 0, 1) := yd_op_42 (i := 23) yd_by_cX6_freeOf_0 rfl rfl
theorem dX6_freeOf_24 : decode cX6_freeOf 24 = .ok (.iload_n 3, 1) := yd_op_29 (i := 24) yd_by_cX6_freeOf_0 rfl rfl
theorem dX6_freeOf_25 : decode cX6_freeOf 25 = .ok (.invokevirtual 211, 3) := yd_op_182 (i := 25) (a := 0) (b := 211) yd_by_cX6_freeOf_0 rfl rfl
theorem dX6_freeOf_28 : decode cX6_freeOf 28 = .ok (.ifCond .ne 9, 3) := yd_op_154 (i := 28) (a := 0) (b := 9) yd_by_cX6_freeOf_0 rfl rfl
theorem dX6_freeOf_31 : decode cX6_freeOf 31 = .ok (.iload_n 2, 1) := yd_op_28 (i := 31) yd_by_cX6_freeOf_0 rfl rfl
set_option maxRecDepth 100000 in
theorem yd_by_cX6_freeOf_1 : ydk cX6_freeOf 32 [4, 29, 120, 128, 61, 132, 3, 1, 167, 255, 220, 28, 172] = true := by decide +kernel
theorem dX6_freeOf_32 : decode cX6_freeOf 32 = .ok (.iconst 1, 1) := yd_op_4 (i := 0) yd_by_cX6_freeOf_1 rfl rfl
theorem dX6_freeOf_33 : decode cX6_freeOf 33 = .ok (.iload_n 3, 1) := yd_op_29 (i := 1) yd_by_cX6_freeOf_1 rfl rfl
theorem dX6_freeOf_34 : decode cX6_freeOf 34 = .ok (.ishl, 1) := yd_op_120 (i := 2) yd_by_cX6_freeOf_1 rfl rfl
theorem dX6_freeOf_35 : decode cX6_freeOf 35 = .ok (.ior, 1) := yd_op_128 (i := 3) yd_by_cX6_freeOf_1 rfl rfl
theorem dX6_freeOf_36 : decode cX6_freeOf 36 = .ok (.istore_n 2, 1) := yd_op_61 (i := 4) yd_by_cX6_freeOf_1 rfl rfl
theorem dX6_freeOf_37 : decode cX6_freeOf 37 = .ok (.iinc 3 1, 3) := yd_op_132 (i := 5) (a := 3) (b := 1) yd_by_cX6_freeOf_1 rfl rfl
theorem dX6_freeOf_40 : decode cX6_freeOf 40 = .ok (.goto (-36), 3) := yd_op_167 (i := 8) (a := 255) (b := 220) yd_by_cX6_freeOf_1 rfl rfl
theorem dX6_freeOf_43 : decode cX6_freeOf 43 = .ok (.iload_n 2, 1) := yd_op_28 (i := 11) yd_by_cX6_freeOf_1 rfl rfl
theorem dX6_freeOf_44 : decode cX6_freeOf 44 = .ok (.ireturn, 1) := yd_op_172 (i := 12) yd_by_cX6_freeOf_1 rfl rfl
set_option maxRecDepth 100000 in
theorem yd_by_cX6_isMissed_0 : ydk cX6_isMissed 0 [3, 61, 28, 42, 180, 0, 54, 182, 0, 160, 162, 0, 51, 42, 180, 0, 58, 28, 182, 0, 174, 154, 0, 34, 42, 180, 0, 31, 28, 46, 155, 0, 25, 42, 180, 0, 31, 28] = true := by decide +kernel
theorem dX6_isMissed_0 : decode cX6_isMissed 0 = .ok (.iconst 0, 1) := yd_op_3 (i := 0) yd_by_cX6_isMissed_0 rfl rfl
theorem dX6_isMissed_1 : decode cX6_isMissed 1 = .ok (.istore_n 2, 1) := yd_op_61 (i := 1) yd_by_cX6_isMissed_0 rfl rfl
theorem dX6_isMissed_2 : decode cX6_isMissed 2 = .ok (.iload_n 2, 1) := yd_op_28 (i := 2) yd_by_cX6_isMissed_0 rfl rfl
theorem dX6_isMissed_3 : decode cX6_isMissed 3 = .ok (.aload_n 0, 1) := yd_op_42 (i := 3) yd_by_cX6_isMissed_0 rfl rfl
theorem dX6_isMissed_4 : decode cX6_isMissed 4 = .ok (.getfield 54, 3) := yd_op_180 (i := 4) (a := 0) (b := 54) yd_by_cX6_isMissed_0 rfl rfl
theorem dX6_isMissed_7 : decode cX6_isMissed 7 = .ok (.invokevirtual 160, 3) := yd_op_182 (i := 7) (a := 0) (b := 160) yd_by_cX6_isMissed_0 rfl rfl
theorem dX6_isMissed_10 : decode cX6_isMissed 10 = .ok (.if_icmp .ge 51, 3) := yd_op_162 (i := 10) (a := 0) (b := 51) yd_by_cX6_isMissed_0 rfl rfl
theorem dX6_isMissed_13 : decode cX6_isMissed 13 = .ok (.aload_n 0, 1) := yd_op_42 (i := 13) yd_by_cX6_isMissed_0 rfl rfl
theorem dX6_isMissed_14 : decode cX6_isMissed 14 = .ok (.getfield 58, 3) := yd_op_180 (i := 14) (a := 0) (b := 58) yd_by_cX6_isMissed_0 rfl rfl
theorem dX6_isMissed_17 : decode cX6_isMissed 17 = .ok (.iload_n 2, 1) := yd_op_28 (i := 17) yd_by_cX6_isMissed_0 rfl rfl
theorem dX6_isMissed_18 : decode cX6_isMissed 18 = .ok (.invokevirtual 174, 3) := yd_op_182 (i := 18) (a := 0) (b := 174) yd_by_cX6_isMissed_0 rfl rfl
theorem dX6_isMissed_21 : decode cX6_isMissed 21 = .ok (.ifCond .ne 34, 3) := yd_op_154 (i := 21) (a := 0) (b := 34) yd_by_cX6_isMissed_0 rfl rfl
theorem dX6_isMissed_24 : decode cX6_isMissed 24 = .ok (.aload_n 0, 1) := yd_op_42 (i := 24) yd_by_cX6_isMissed_0 rfl rfl
theorem dX6_isMissed_25 : decode cX6_isMissed 25 = .ok (.getfield 31, 3) := yd_op_180 (i := 25) (a := 0) (b := 31) yd_by_cX6_isMissed_0 rfl rfl
theorem dX6_isMissed_28 : decode cX6_isMissed 28 = .ok (.iload_n 2, 1) := yd_op_28 (i := 28) yd_by_cX6_isMissed_0 rfl rfl
theorem dX6_isMissed_29 : decode cX6_isMissed 29 = .ok (.iaload, 1) := yd_op_46 (i := 29) yd_by_cX6_isMissed_0 rfl rfl
theorem dX6_isMissed_30 : decode cX6_isMissed 30 = .ok (.ifCond .lt 25, 3) := yd_op_155 (i := 30) (a := 0) (b := 25) yd_by_cX6_isMissed_0 rfl rfl
theorem dX6_isMissed_33 : decode cX6_isMissed 33 = .ok (.aload_n 0, 1) := yd_op_42 (i := 33) yd_by_cX6_isMissed_0 rfl rfl
theorem dX6_isMissed_34 : decode cX6_isMissed 34 = .ok (.getfield 31, 3) := yd_op_180 (i := 34) (a := 0) (b := 31) yd_by_cX6_isMissed_0 rfl rfl
theorem dX6_isMissed_37 : decode cX6_isMissed 37 = .ok (.iload_n 2, 1) := yd_op_28 (i := 37) yd_by_cX6_isMissed_0 rfl rfl
set_option maxRecDepth 100000 in
theorem yd_by_cX6_isMissed_1 : ydk cX6_isMissed 38 [46, 42, 180, 0, 18, 27, 16, 36, 104, 28, 96, 46, 162, 0, 5, 4, 172, 132, 2, 1, 167, 255, 200, 3, 172] = true := by decide +kernel
theorem dX6_isMissed_38 : decode cX6_isMissed 38 = .ok (.iaload, 1) := yd_op_46 (i := 0) yd_by_cX6_isMissed_1 rfl rfl
theorem dX6_isMissed_39 : decode cX6_isMissed 39 = .ok (.aload_n 0, 1) := yd_op_42 (i := 1) yd_by_cX6_isMissed_1 rfl rfl
theorem dX6_isMissed_40 : decode cX6_isMissed 40 = .ok (.getfield 18, 3) := yd_op_180 (i := 2) (a := 0) (b := 18) yd_by_cX6_isMissed_1 rfl rfl
theorem dX6_isMissed_43 : decode cX6_isMissed 43 = .ok (.iload_n 1, 1) := yd_op_27 (i := 5) yd_by_cX6_isMissed_1 rfl rfl
theorem dX6_isMissed_44 : decode cX6_isMissed 44 = .ok (.bipush 36, 2) := yd_op_16 (i := 6) (a := 36) yd_by_cX6_isMissed_1 rfl rfl
theorem dX6_isMissed_46 : decode cX6_isMissed 46 = .ok (.imul, 1) := yd_op_104 (i := 8) yd_by_cX6_isMissed_1 rfl rfl
theorem dX6_isMissed_47 : decode cX6_isMissed 47 = .ok (.iload_n 2, 1) := yd_op_28 (i := 9) yd_by_cX6_isMissed_1 rfl rfl
theorem dX6_isMissed_48 : decode cX6_isMissed 48 = .ok (.iadd, 1) := yd_op_96 (i := 10) yd_by_cX6_isMissed_1 rfl rfl
theorem dX6_isMissed_49 : decode cX6_isMissed 49 = .ok (.iaload, 1) := yd_op_46 (i := 11) yd_by_cX6_isMissed_1 rfl rfl
theorem dX6_isMissed_50 : decode cX6_isMissed 50 = .ok (.if_icmp .ge 5, 3) := yd_op_162 (i := 12) (a := 0) (b := 5) yd_by_cX6_isMissed_1 rfl rfl
theorem dX6_isMissed_53 : decode cX6_isMissed 53 = .ok (.iconst 1, 1) := yd_op_4 (i := 15) yd_by_cX6_isMissed_1 rfl rfl
theorem dX6_isMissed_54 : decode cX6_isMissed 54 = .ok (.ireturn, 1) := yd_op_172 (i := 16) yd_by_cX6_isMissed_1 rfl rfl
theorem dX6_isMissed_55 : decode cX6_isMissed 55 = .ok (.iinc 2 1, 3) := yd_op_132 (i := 17) (a := 2) (b := 1) yd_by_cX6_isMissed_1 rfl rfl
theorem dX6_isMissed_58 : decode cX6_isMissed 58 = .ok (.goto (-56), 3) := yd_op_167 (i := 20) (a := 255) (b := 200) yd_by_cX6_isMissed_1 rfl rfl
theorem dX6_isMissed_61 : decode cX6_isMissed 61 = .ok (.iconst 0, 1) := yd_op_3 (i := 23) yd_by_cX6_isMissed_1 rfl rfl
theorem dX6_isMissed_62 : decode cX6_isMissed 62 = .ok (.ireturn, 1) := yd_op_172 (i := 24) yd_by_cX6_isMissed_1 rfl rfl
set_option maxRecDepth 100000 in
theorem yd_by_cX6_weakest_0 : ydk cX6_weakest 0 [2, 60, 3, 61, 28, 42, 180, 0, 54, 182, 0, 160, 162, 0, 42, 42, 180, 0, 58, 28, 182, 0, 174, 154, 0, 25, 27, 2, 159, 0, 18, 42, 180, 0, 31, 28] = true := by decide +kernel
theorem dX6_weakest_0 : decode cX6_weakest 0 = .ok (.iconst (-1), 1) := yd_op_2 (i := 0) yd_by_cX6_weakest_0 rfl rfl
theorem dX6_weakest_1 : decode cX6_weakest 1 = .ok (.istore_n 1, 1) := yd_op_60 (i := 1) yd_by_cX6_weakest_0 rfl rfl
theorem dX6_weakest_2 : decode cX6_weakest 2 = .ok (.iconst 0, 1) := yd_op_3 (i := 2) yd_by_cX6_weakest_0 rfl rfl
theorem dX6_weakest_3 : decode cX6_weakest 3 = .ok (.istore_n 2, 1) := yd_op_61 (i := 3) yd_by_cX6_weakest_0 rfl rfl
theorem dX6_weakest_4 : decode cX6_weakest 4 = .ok (.iload_n 2, 1) := yd_op_28 (i := 4) yd_by_cX6_weakest_0 rfl rfl
theorem dX6_weakest_5 : decode cX6_weakest 5 = .ok (.aload_n 0, 1) := yd_op_42 (i := 5) yd_by_cX6_weakest_0 rfl rfl
theorem dX6_weakest_6 : decode cX6_weakest 6 = .ok (.getfield 54, 3) := yd_op_180 (i := 6) (a := 0) (b := 54) yd_by_cX6_weakest_0 rfl rfl
theorem dX6_weakest_9 : decode cX6_weakest 9 = .ok (.invokevirtual 160, 3) := yd_op_182 (i := 9) (a := 0) (b := 160) yd_by_cX6_weakest_0 rfl rfl
theorem dX6_weakest_12 : decode cX6_weakest 12 = .ok (.if_icmp .ge 42, 3) := yd_op_162 (i := 12) (a := 0) (b := 42) yd_by_cX6_weakest_0 rfl rfl
theorem dX6_weakest_15 : decode cX6_weakest 15 = .ok (.aload_n 0, 1) := yd_op_42 (i := 15) yd_by_cX6_weakest_0 rfl rfl
theorem dX6_weakest_16 : decode cX6_weakest 16 = .ok (.getfield 58, 3) := yd_op_180 (i := 16) (a := 0) (b := 58) yd_by_cX6_weakest_0 rfl rfl
theorem dX6_weakest_19 : decode cX6_weakest 19 = .ok (.iload_n 2, 1) := yd_op_28 (i := 19) yd_by_cX6_weakest_0 rfl rfl
theorem dX6_weakest_20 : decode cX6_weakest 20 = .ok (.invokevirtual 174, 3) := yd_op_182 (i := 20) (a := 0) (b := 174) yd_by_cX6_weakest_0 rfl rfl
theorem dX6_weakest_23 : decode cX6_weakest 23 = .ok (.ifCond .ne 25, 3) := yd_op_154 (i := 23) (a := 0) (b := 25) yd_by_cX6_weakest_0 rfl rfl
theorem dX6_weakest_26 : decode cX6_weakest 26 = .ok (.iload_n 1, 1) := yd_op_27 (i := 26) yd_by_cX6_weakest_0 rfl rfl
theorem dX6_weakest_27 : decode cX6_weakest 27 = .ok (.iconst (-1), 1) := yd_op_2 (i := 27) yd_by_cX6_weakest_0 rfl rfl
theorem dX6_weakest_28 : decode cX6_weakest 28 = .ok (.if_icmp .eq 18, 3) := yd_op_159 (i := 28) (a := 0) (b := 18) yd_by_cX6_weakest_0 rfl rfl
theorem dX6_weakest_31 : decode cX6_weakest 31 = .ok (.aload_n 0, 1) := yd_op_42 (i := 31) yd_by_cX6_weakest_0 rfl rfl
theorem dX6_weakest_32 : decode cX6_weakest 32 = .ok (.getfield 31, 3) := yd_op_180 (i := 32) (a := 0) (b := 31) yd_by_cX6_weakest_0 rfl rfl
theorem dX6_weakest_35 : decode cX6_weakest 35 = .ok (.iload_n 2, 1) := yd_op_28 (i := 35) yd_by_cX6_weakest_0 rfl rfl
set_option maxRecDepth 100000 in
theorem yd_by_cX6_weakest_1 : ydk cX6_weakest 36 [46, 42, 180, 0, 31, 27, 46, 162, 0, 5, 28, 60, 132, 2, 1, 167, 255, 209, 27, 172] = true := by decide +kernel
theorem dX6_weakest_36 : decode cX6_weakest 36 = .ok (.iaload, 1) := yd_op_46 (i := 0) yd_by_cX6_weakest_1 rfl rfl
theorem dX6_weakest_37 : decode cX6_weakest 37 = .ok (.aload_n 0, 1) := yd_op_42 (i := 1) yd_by_cX6_weakest_1 rfl rfl
theorem dX6_weakest_38 : decode cX6_weakest 38 = .ok (.getfield 31, 3) := yd_op_180 (i := 2) (a := 0) (b := 31) yd_by_cX6_weakest_1 rfl rfl
theorem dX6_weakest_41 : decode cX6_weakest 41 = .ok (.iload_n 1, 1) := yd_op_27 (i := 5) yd_by_cX6_weakest_1 rfl rfl
theorem dX6_weakest_42 : decode cX6_weakest 42 = .ok (.iaload, 1) := yd_op_46 (i := 6) yd_by_cX6_weakest_1 rfl rfl
theorem dX6_weakest_43 : decode cX6_weakest 43 = .ok (.if_icmp .ge 5, 3) := yd_op_162 (i := 7) (a := 0) (b := 5) yd_by_cX6_weakest_1 rfl rfl
theorem dX6_weakest_46 : decode cX6_weakest 46 = .ok (.iload_n 2, 1) := yd_op_28 (i := 10) yd_by_cX6_weakest_1 rfl rfl
theorem dX6_weakest_47 : decode cX6_weakest 47 = .ok (.istore_n 1, 1) := yd_op_60 (i := 11) yd_by_cX6_weakest_1 rfl rfl
theorem dX6_weakest_48 : decode cX6_weakest 48 = .ok (.iinc 2 1, 3) := yd_op_132 (i := 12) (a := 2) (b := 1) yd_by_cX6_weakest_1 rfl rfl
theorem dX6_weakest_51 : decode cX6_weakest 51 = .ok (.goto (-47), 3) := yd_op_167 (i := 15) (a := 255) (b := 209) yd_by_cX6_weakest_1 rfl rfl
theorem dX6_weakest_54 : decode cX6_weakest 54 = .ok (.iload_n 1, 1) := yd_op_27 (i := 18) yd_by_cX6_weakest_1 rfl rfl
theorem dX6_weakest_55 : decode cX6_weakest 55 = .ok (.ireturn, 1) := yd_op_172 (i := 19) yd_by_cX6_weakest_1 rfl rfl
set_option maxRecDepth 100000 in
theorem yd_by_cX6_bestPlace_0 : ydk cX6_bestPlace 0 [2, 61, 3, 62, 3, 54, 4, 21, 4, 42, 180, 0, 54, 180, 0, 87, 162, 0, 129, 3, 54, 5, 21, 5, 42, 180, 0, 54, 180, 0, 90, 162, 0, 108, 42, 180, 0, 54] = true := by decide +kernel
theorem dX6_bestPlace_0 : decode cX6_bestPlace 0 = .ok (.iconst (-1), 1) := yd_op_2 (i := 0) yd_by_cX6_bestPlace_0 rfl rfl
theorem dX6_bestPlace_1 : decode cX6_bestPlace 1 = .ok (.istore_n 2, 1) := yd_op_61 (i := 1) yd_by_cX6_bestPlace_0 rfl rfl
theorem dX6_bestPlace_2 : decode cX6_bestPlace 2 = .ok (.iconst 0, 1) := yd_op_3 (i := 2) yd_by_cX6_bestPlace_0 rfl rfl
theorem dX6_bestPlace_3 : decode cX6_bestPlace 3 = .ok (.istore_n 3, 1) := yd_op_62 (i := 3) yd_by_cX6_bestPlace_0 rfl rfl
theorem dX6_bestPlace_4 : decode cX6_bestPlace 4 = .ok (.iconst 0, 1) := yd_op_3 (i := 4) yd_by_cX6_bestPlace_0 rfl rfl
theorem dX6_bestPlace_5 : decode cX6_bestPlace 5 = .ok (.istore 4, 2) := yd_op_54 (i := 5) (a := 4) yd_by_cX6_bestPlace_0 rfl rfl
theorem dX6_bestPlace_7 : decode cX6_bestPlace 7 = .ok (.iload 4, 2) := yd_op_21 (i := 7) (a := 4) yd_by_cX6_bestPlace_0 rfl rfl
theorem dX6_bestPlace_9 : decode cX6_bestPlace 9 = .ok (.aload_n 0, 1) := yd_op_42 (i := 9) yd_by_cX6_bestPlace_0 rfl rfl
theorem dX6_bestPlace_10 : decode cX6_bestPlace 10 = .ok (.getfield 54, 3) := yd_op_180 (i := 10) (a := 0) (b := 54) yd_by_cX6_bestPlace_0 rfl rfl
theorem dX6_bestPlace_13 : decode cX6_bestPlace 13 = .ok (.getfield 87, 3) := yd_op_180 (i := 13) (a := 0) (b := 87) yd_by_cX6_bestPlace_0 rfl rfl
theorem dX6_bestPlace_16 : decode cX6_bestPlace 16 = .ok (.if_icmp .ge 129, 3) := yd_op_162 (i := 16) (a := 0) (b := 129) yd_by_cX6_bestPlace_0 rfl rfl
theorem dX6_bestPlace_19 : decode cX6_bestPlace 19 = .ok (.iconst 0, 1) := yd_op_3 (i := 19) yd_by_cX6_bestPlace_0 rfl rfl
theorem dX6_bestPlace_20 : decode cX6_bestPlace 20 = .ok (.istore 5, 2) := yd_op_54 (i := 20) (a := 5) yd_by_cX6_bestPlace_0 rfl rfl
theorem dX6_bestPlace_22 : decode cX6_bestPlace 22 = .ok (.iload 5, 2) := yd_op_21 (i := 22) (a := 5) yd_by_cX6_bestPlace_0 rfl rfl
theorem dX6_bestPlace_24 : decode cX6_bestPlace 24 = .ok (.aload_n 0, 1) := yd_op_42 (i := 24) yd_by_cX6_bestPlace_0 rfl rfl
theorem dX6_bestPlace_25 : decode cX6_bestPlace 25 = .ok (.getfield 54, 3) := yd_op_180 (i := 25) (a := 0) (b := 54) yd_by_cX6_bestPlace_0 rfl rfl
theorem dX6_bestPlace_28 : decode cX6_bestPlace 28 = .ok (.getfield 90, 3) := yd_op_180 (i := 28) (a := 0) (b := 90) yd_by_cX6_bestPlace_0 rfl rfl
theorem dX6_bestPlace_31 : decode cX6_bestPlace 31 = .ok (.if_icmp .ge 108, 3) := yd_op_162 (i := 31) (a := 0) (b := 108) yd_by_cX6_bestPlace_0 rfl rfl
theorem dX6_bestPlace_34 : decode cX6_bestPlace 34 = .ok (.aload_n 0, 1) := yd_op_42 (i := 34) yd_by_cX6_bestPlace_0 rfl rfl
theorem dX6_bestPlace_35 : decode cX6_bestPlace 35 = .ok (.getfield 54, 3) := yd_op_180 (i := 35) (a := 0) (b := 54) yd_by_cX6_bestPlace_0 rfl rfl
set_option maxRecDepth 100000 in
theorem yd_by_cX6_bestPlace_1 : ydk cX6_bestPlace 38 [21, 5, 21, 4, 182, 0, 93, 54, 6, 42, 180, 0, 58, 42, 180, 0, 54, 21, 6, 182, 0, 214, 54, 7, 21, 7, 2, 159, 0, 9, 21, 7, 27, 160, 0, 62, 42, 27, 21, 5] = true := by decide +kernel
theorem dX6_bestPlace_38 : decode cX6_bestPlace 38 = .ok (.iload 5, 2) := yd_op_21 (i := 0) (a := 5) yd_by_cX6_bestPlace_1 rfl rfl
theorem dX6_bestPlace_40 : decode cX6_bestPlace 40 = .ok (.iload 4, 2) := yd_op_21 (i := 2) (a := 4) yd_by_cX6_bestPlace_1 rfl rfl
theorem dX6_bestPlace_42 : decode cX6_bestPlace 42 = .ok (.invokevirtual 93, 3) := yd_op_182 (i := 4) (a := 0) (b := 93) yd_by_cX6_bestPlace_1 rfl rfl
theorem dX6_bestPlace_45 : decode cX6_bestPlace 45 = .ok (.istore 6, 2) := yd_op_54 (i := 7) (a := 6) yd_by_cX6_bestPlace_1 rfl rfl
theorem dX6_bestPlace_47 : decode cX6_bestPlace 47 = .ok (.aload_n 0, 1) := yd_op_42 (i := 9) yd_by_cX6_bestPlace_1 rfl rfl
theorem dX6_bestPlace_48 : decode cX6_bestPlace 48 = .ok (.getfield 58, 3) := yd_op_180 (i := 10) (a := 0) (b := 58) yd_by_cX6_bestPlace_1 rfl rfl
theorem dX6_bestPlace_51 : decode cX6_bestPlace 51 = .ok (.aload_n 0, 1) := yd_op_42 (i := 13) yd_by_cX6_bestPlace_1 rfl rfl
theorem dX6_bestPlace_52 : decode cX6_bestPlace 52 = .ok (.getfield 54, 3) := yd_op_180 (i := 14) (a := 0) (b := 54) yd_by_cX6_bestPlace_1 rfl rfl
theorem dX6_bestPlace_55 : decode cX6_bestPlace 55 = .ok (.iload 6, 2) := yd_op_21 (i := 17) (a := 6) yd_by_cX6_bestPlace_1 rfl rfl
theorem dX6_bestPlace_57 : decode cX6_bestPlace 57 = .ok (.invokevirtual 214, 3) := yd_op_182 (i := 19) (a := 0) (b := 214) yd_by_cX6_bestPlace_1 rfl rfl
theorem dX6_bestPlace_60 : decode cX6_bestPlace 60 = .ok (.istore 7, 2) := yd_op_54 (i := 22) (a := 7) yd_by_cX6_bestPlace_1 rfl rfl
theorem dX6_bestPlace_62 : decode cX6_bestPlace 62 = .ok (.iload 7, 2) := yd_op_21 (i := 24) (a := 7) yd_by_cX6_bestPlace_1 rfl rfl
theorem dX6_bestPlace_64 : decode cX6_bestPlace 64 = .ok (.iconst (-1), 1) := yd_op_2 (i := 26) yd_by_cX6_bestPlace_1 rfl rfl
theorem dX6_bestPlace_65 : decode cX6_bestPlace 65 = .ok (.if_icmp .eq 9, 3) := yd_op_159 (i := 27) (a := 0) (b := 9) yd_by_cX6_bestPlace_1 rfl rfl
theorem dX6_bestPlace_68 : decode cX6_bestPlace 68 = .ok (.iload 7, 2) := yd_op_21 (i := 30) (a := 7) yd_by_cX6_bestPlace_1 rfl rfl
theorem dX6_bestPlace_70 : decode cX6_bestPlace 70 = .ok (.iload_n 1, 1) := yd_op_27 (i := 32) yd_by_cX6_bestPlace_1 rfl rfl
theorem dX6_bestPlace_71 : decode cX6_bestPlace 71 = .ok (.if_icmp .ne 62, 3) := yd_op_160 (i := 33) (a := 0) (b := 62) yd_by_cX6_bestPlace_1 rfl rfl
theorem dX6_bestPlace_74 : decode cX6_bestPlace 74 = .ok (.aload_n 0, 1) := yd_op_42 (i := 36) yd_by_cX6_bestPlace_1 rfl rfl
theorem dX6_bestPlace_75 : decode cX6_bestPlace 75 = .ok (.iload_n 1, 1) := yd_op_27 (i := 37) yd_by_cX6_bestPlace_1 rfl rfl
theorem dX6_bestPlace_76 : decode cX6_bestPlace 76 = .ok (.iload 5, 2) := yd_op_21 (i := 38) (a := 5) yd_by_cX6_bestPlace_1 rfl rfl
set_option maxRecDepth 100000 in
theorem yd_by_cX6_bestPlace_2 : ydk cX6_bestPlace 78 [21, 4, 182, 0, 218, 28, 2, 159, 0, 33, 42, 180, 0, 48, 28, 16, 6, 122, 161, 0, 22, 42, 180, 0, 48, 28, 16, 6, 122, 160, 0, 26, 42, 180, 0, 51, 29] = true := by decide +kernel
theorem dX6_bestPlace_78 : decode cX6_bestPlace 78 = .ok (.iload 4, 2) := yd_op_21 (i := 0) (a := 4) yd_by_cX6_bestPlace_2 rfl rfl
theorem dX6_bestPlace_80 : decode cX6_bestPlace 80 = .ok (.invokevirtual 218, 3) := yd_op_182 (i := 2) (a := 0) (b := 218) yd_by_cX6_bestPlace_2 rfl rfl
theorem dX6_bestPlace_83 : decode cX6_bestPlace 83 = .ok (.iload_n 2, 1) := yd_op_28 (i := 5) yd_by_cX6_bestPlace_2 rfl rfl
theorem dX6_bestPlace_84 : decode cX6_bestPlace 84 = .ok (.iconst (-1), 1) := yd_op_2 (i := 6) yd_by_cX6_bestPlace_2 rfl rfl
theorem dX6_bestPlace_85 : decode cX6_bestPlace 85 = .ok (.if_icmp .eq 33, 3) := yd_op_159 (i := 7) (a := 0) (b := 33) yd_by_cX6_bestPlace_2 rfl rfl
theorem dX6_bestPlace_88 : decode cX6_bestPlace 88 = .ok (.aload_n 0, 1) := yd_op_42 (i := 10) yd_by_cX6_bestPlace_2 rfl rfl
theorem dX6_bestPlace_89 : decode cX6_bestPlace 89 = .ok (.getfield 48, 3) := yd_op_180 (i := 11) (a := 0) (b := 48) yd_by_cX6_bestPlace_2 rfl rfl
theorem dX6_bestPlace_92 : decode cX6_bestPlace 92 = .ok (.iload_n 2, 1) := yd_op_28 (i := 14) yd_by_cX6_bestPlace_2 rfl rfl
theorem dX6_bestPlace_93 : decode cX6_bestPlace 93 = .ok (.bipush 6, 2) := yd_op_16 (i := 15) (a := 6) yd_by_cX6_bestPlace_2 rfl rfl
theorem dX6_bestPlace_95 : decode cX6_bestPlace 95 = .ok (.ishr, 1) := yd_op_122 (i := 17) yd_by_cX6_bestPlace_2 rfl rfl
theorem dX6_bestPlace_96 : decode cX6_bestPlace 96 = .ok (.if_icmp .lt 22, 3) := yd_op_161 (i := 18) (a := 0) (b := 22) yd_by_cX6_bestPlace_2 rfl rfl
theorem dX6_bestPlace_99 : decode cX6_bestPlace 99 = .ok (.aload_n 0, 1) := yd_op_42 (i := 21) yd_by_cX6_bestPlace_2 rfl rfl
theorem dX6_bestPlace_100 : decode cX6_bestPlace 100 = .ok (.getfield 48, 3) := yd_op_180 (i := 22) (a := 0) (b := 48) yd_by_cX6_bestPlace_2 rfl rfl
theorem dX6_bestPlace_103 : decode cX6_bestPlace 103 = .ok (.iload_n 2, 1) := yd_op_28 (i := 25) yd_by_cX6_bestPlace_2 rfl rfl
theorem dX6_bestPlace_104 : decode cX6_bestPlace 104 = .ok (.bipush 6, 2) := yd_op_16 (i := 26) (a := 6) yd_by_cX6_bestPlace_2 rfl rfl
theorem dX6_bestPlace_106 : decode cX6_bestPlace 106 = .ok (.ishr, 1) := yd_op_122 (i := 28) yd_by_cX6_bestPlace_2 rfl rfl
theorem dX6_bestPlace_107 : decode cX6_bestPlace 107 = .ok (.if_icmp .ne 26, 3) := yd_op_160 (i := 29) (a := 0) (b := 26) yd_by_cX6_bestPlace_2 rfl rfl
theorem dX6_bestPlace_110 : decode cX6_bestPlace 110 = .ok (.aload_n 0, 1) := yd_op_42 (i := 32) yd_by_cX6_bestPlace_2 rfl rfl
theorem dX6_bestPlace_111 : decode cX6_bestPlace 111 = .ok (.getfield 51, 3) := yd_op_180 (i := 33) (a := 0) (b := 51) yd_by_cX6_bestPlace_2 rfl rfl
theorem dX6_bestPlace_114 : decode cX6_bestPlace 114 = .ok (.iload_n 3, 1) := yd_op_29 (i := 36) yd_by_cX6_bestPlace_2 rfl rfl
set_option maxRecDepth 100000 in
theorem yd_by_cX6_bestPlace_3 : ydk cX6_bestPlace 115 [164, 0, 18, 21, 6, 42, 180, 0, 48, 184, 0, 221, 61, 42, 180, 0, 51, 62, 132, 5, 1, 167, 255, 142, 132, 4, 1, 167, 255, 121, 28, 172] = true := by decide +kernel
theorem dX6_bestPlace_115 : decode cX6_bestPlace 115 = .ok (.if_icmp .le 18, 3) := yd_op_164 (i := 0) (a := 0) (b := 18) yd_by_cX6_bestPlace_3 rfl rfl
theorem dX6_bestPlace_118 : decode cX6_bestPlace 118 = .ok (.iload 6, 2) := yd_op_21 (i := 3) (a := 6) yd_by_cX6_bestPlace_3 rfl rfl
theorem dX6_bestPlace_120 : decode cX6_bestPlace 120 = .ok (.aload_n 0, 1) := yd_op_42 (i := 5) yd_by_cX6_bestPlace_3 rfl rfl
theorem dX6_bestPlace_121 : decode cX6_bestPlace 121 = .ok (.getfield 48, 3) := yd_op_180 (i := 6) (a := 0) (b := 48) yd_by_cX6_bestPlace_3 rfl rfl
theorem dX6_bestPlace_124 : decode cX6_bestPlace 124 = .ok (.invokestatic 221, 3) := yd_op_184 (i := 9) (a := 0) (b := 221) yd_by_cX6_bestPlace_3 rfl rfl
theorem dX6_bestPlace_127 : decode cX6_bestPlace 127 = .ok (.istore_n 2, 1) := yd_op_61 (i := 12) yd_by_cX6_bestPlace_3 rfl rfl
theorem dX6_bestPlace_128 : decode cX6_bestPlace 128 = .ok (.aload_n 0, 1) := yd_op_42 (i := 13) yd_by_cX6_bestPlace_3 rfl rfl
theorem dX6_bestPlace_129 : decode cX6_bestPlace 129 = .ok (.getfield 51, 3) := yd_op_180 (i := 14) (a := 0) (b := 51) yd_by_cX6_bestPlace_3 rfl rfl
theorem dX6_bestPlace_132 : decode cX6_bestPlace 132 = .ok (.istore_n 3, 1) := yd_op_62 (i := 17) yd_by_cX6_bestPlace_3 rfl rfl
theorem dX6_bestPlace_133 : decode cX6_bestPlace 133 = .ok (.iinc 5 1, 3) := yd_op_132 (i := 18) (a := 5) (b := 1) yd_by_cX6_bestPlace_3 rfl rfl
theorem dX6_bestPlace_136 : decode cX6_bestPlace 136 = .ok (.goto (-114), 3) := yd_op_167 (i := 21) (a := 255) (b := 142) yd_by_cX6_bestPlace_3 rfl rfl
theorem dX6_bestPlace_139 : decode cX6_bestPlace 139 = .ok (.iinc 4 1, 3) := yd_op_132 (i := 24) (a := 4) (b := 1) yd_by_cX6_bestPlace_3 rfl rfl
theorem dX6_bestPlace_142 : decode cX6_bestPlace 142 = .ok (.goto (-135), 3) := yd_op_167 (i := 27) (a := 255) (b := 121) yd_by_cX6_bestPlace_3 rfl rfl
theorem dX6_bestPlace_145 : decode cX6_bestPlace 145 = .ok (.iload_n 2, 1) := yd_op_28 (i := 30) yd_by_cX6_bestPlace_3 rfl rfl
theorem dX6_bestPlace_146 : decode cX6_bestPlace 146 = .ok (.ireturn, 1) := yd_op_172 (i := 31) yd_by_cX6_bestPlace_3 rfl rfl
set_option maxRecDepth 100000 in
theorem yd_by_cX6_tryPlace_0 : ydk cX6_tryPlace 0 [42, 3, 181, 0, 48, 42, 18, 224, 181, 0, 51, 3, 54, 4, 21, 4, 42, 180, 0, 54, 180, 0, 87, 162, 0, 121, 3, 54, 5, 21, 5, 42, 180, 0, 54, 180, 0, 90, 162, 0, 100] = true := by decide +kernel
theorem dX6_tryPlace_0 : decode cX6_tryPlace 0 = .ok (.aload_n 0, 1) := yd_op_42 (i := 0) yd_by_cX6_tryPlace_0 rfl rfl
theorem dX6_tryPlace_1 : decode cX6_tryPlace 1 = .ok (.iconst 0, 1) := yd_op_3 (i := 1) yd_by_cX6_tryPlace_0 rfl rfl
theorem dX6_tryPlace_2 : decode cX6_tryPlace 2 = .ok (.putfield 48, 3) := yd_op_181 (i := 2) (a := 0) (b := 48) yd_by_cX6_tryPlace_0 rfl rfl
theorem dX6_tryPlace_5 : decode cX6_tryPlace 5 = .ok (.aload_n 0, 1) := yd_op_42 (i := 5) yd_by_cX6_tryPlace_0 rfl rfl
theorem dX6_tryPlace_6 : decode cX6_tryPlace 6 = .ok (.ldc 224, 2) := yd_op_18 (i := 6) (a := 224) yd_by_cX6_tryPlace_0 rfl rfl
theorem dX6_tryPlace_8 : decode cX6_tryPlace 8 = .ok (.putfield 51, 3) := yd_op_181 (i := 8) (a := 0) (b := 51) yd_by_cX6_tryPlace_0 rfl rfl
theorem dX6_tryPlace_11 : decode cX6_tryPlace 11 = .ok (.iconst 0, 1) := yd_op_3 (i := 11) yd_by_cX6_tryPlace_0 rfl rfl
theorem dX6_tryPlace_12 : decode cX6_tryPlace 12 = .ok (.istore 4, 2) := yd_op_54 (i := 12) (a := 4) yd_by_cX6_tryPlace_0 rfl rfl
theorem dX6_tryPlace_14 : decode cX6_tryPlace 14 = .ok (.iload 4, 2) := yd_op_21 (i := 14) (a := 4) yd_by_cX6_tryPlace_0 rfl rfl
theorem dX6_tryPlace_16 : decode cX6_tryPlace 16 = .ok (.aload_n 0, 1) := yd_op_42 (i := 16) yd_by_cX6_tryPlace_0 rfl rfl
theorem dX6_tryPlace_17 : decode cX6_tryPlace 17 = .ok (.getfield 54, 3) := yd_op_180 (i := 17) (a := 0) (b := 54) yd_by_cX6_tryPlace_0 rfl rfl
theorem dX6_tryPlace_20 : decode cX6_tryPlace 20 = .ok (.getfield 87, 3) := yd_op_180 (i := 20) (a := 0) (b := 87) yd_by_cX6_tryPlace_0 rfl rfl
theorem dX6_tryPlace_23 : decode cX6_tryPlace 23 = .ok (.if_icmp .ge 121, 3) := yd_op_162 (i := 23) (a := 0) (b := 121) yd_by_cX6_tryPlace_0 rfl rfl
theorem dX6_tryPlace_26 : decode cX6_tryPlace 26 = .ok (.iconst 0, 1) := yd_op_3 (i := 26) yd_by_cX6_tryPlace_0 rfl rfl
theorem dX6_tryPlace_27 : decode cX6_tryPlace 27 = .ok (.istore 5, 2) := yd_op_54 (i := 27) (a := 5) yd_by_cX6_tryPlace_0 rfl rfl
theorem dX6_tryPlace_29 : decode cX6_tryPlace 29 = .ok (.iload 5, 2) := yd_op_21 (i := 29) (a := 5) yd_by_cX6_tryPlace_0 rfl rfl
theorem dX6_tryPlace_31 : decode cX6_tryPlace 31 = .ok (.aload_n 0, 1) := yd_op_42 (i := 31) yd_by_cX6_tryPlace_0 rfl rfl
theorem dX6_tryPlace_32 : decode cX6_tryPlace 32 = .ok (.getfield 54, 3) := yd_op_180 (i := 32) (a := 0) (b := 54) yd_by_cX6_tryPlace_0 rfl rfl
theorem dX6_tryPlace_35 : decode cX6_tryPlace 35 = .ok (.getfield 90, 3) := yd_op_180 (i := 35) (a := 0) (b := 90) yd_by_cX6_tryPlace_0 rfl rfl
theorem dX6_tryPlace_38 : decode cX6_tryPlace 38 = .ok (.if_icmp .ge 100, 3) := yd_op_162 (i := 38) (a := 0) (b := 100) yd_by_cX6_tryPlace_0 rfl rfl
set_option maxRecDepth 100000 in
theorem yd_by_cX6_tryPlace_1 : ydk cX6_tryPlace 41 [42, 180, 0, 54, 21, 5, 21, 4, 182, 0, 93, 54, 6, 42, 180, 0, 58, 21, 6, 182, 0, 174, 154, 0, 69, 28, 21, 5, 100, 184, 0, 225, 29, 21, 4, 100, 184, 0, 225, 96] = true := by decide +kernel
theorem dX6_tryPlace_41 : decode cX6_tryPlace 41 = .ok (.aload_n 0, 1) := yd_op_42 (i := 0) yd_by_cX6_tryPlace_1 rfl rfl
theorem dX6_tryPlace_42 : decode cX6_tryPlace 42 = .ok (.getfield 54, 3) := yd_op_180 (i := 1) (a := 0) (b := 54) yd_by_cX6_tryPlace_1 rfl rfl
theorem dX6_tryPlace_45 : decode cX6_tryPlace 45 = .ok (.iload 5, 2) := yd_op_21 (i := 4) (a := 5) yd_by_cX6_tryPlace_1 rfl rfl
theorem dX6_tryPlace_47 : decode cX6_tryPlace 47 = .ok (.iload 4, 2) := yd_op_21 (i := 6) (a := 4) yd_by_cX6_tryPlace_1 rfl rfl
theorem dX6_tryPlace_49 : decode cX6_tryPlace 49 = .ok (.invokevirtual 93, 3) := yd_op_182 (i := 8) (a := 0) (b := 93) yd_by_cX6_tryPlace_1 rfl rfl
theorem dX6_tryPlace_52 : decode cX6_tryPlace 52 = .ok (.istore 6, 2) := yd_op_54 (i := 11) (a := 6) yd_by_cX6_tryPlace_1 rfl rfl
theorem dX6_tryPlace_54 : decode cX6_tryPlace 54 = .ok (.aload_n 0, 1) := yd_op_42 (i := 13) yd_by_cX6_tryPlace_1 rfl rfl
theorem dX6_tryPlace_55 : decode cX6_tryPlace 55 = .ok (.getfield 58, 3) := yd_op_180 (i := 14) (a := 0) (b := 58) yd_by_cX6_tryPlace_1 rfl rfl
theorem dX6_tryPlace_58 : decode cX6_tryPlace 58 = .ok (.iload 6, 2) := yd_op_21 (i := 17) (a := 6) yd_by_cX6_tryPlace_1 rfl rfl
theorem dX6_tryPlace_60 : decode cX6_tryPlace 60 = .ok (.invokevirtual 174, 3) := yd_op_182 (i := 19) (a := 0) (b := 174) yd_by_cX6_tryPlace_1 rfl rfl
theorem dX6_tryPlace_63 : decode cX6_tryPlace 63 = .ok (.ifCond .ne 69, 3) := yd_op_154 (i := 22) (a := 0) (b := 69) yd_by_cX6_tryPlace_1 rfl rfl
theorem dX6_tryPlace_66 : decode cX6_tryPlace 66 = .ok (.iload_n 2, 1) := yd_op_28 (i := 25) yd_by_cX6_tryPlace_1 rfl rfl
theorem dX6_tryPlace_67 : decode cX6_tryPlace 67 = .ok (.iload 5, 2) := yd_op_21 (i := 26) (a := 5) yd_by_cX6_tryPlace_1 rfl rfl
theorem dX6_tryPlace_69 : decode cX6_tryPlace 69 = .ok (.isub, 1) := yd_op_100 (i := 28) yd_by_cX6_tryPlace_1 rfl rfl
theorem dX6_tryPlace_70 : decode cX6_tryPlace 70 = .ok (.invokestatic 225, 3) := yd_op_184 (i := 29) (a := 0) (b := 225) yd_by_cX6_tryPlace_1 rfl rfl
theorem dX6_tryPlace_73 : decode cX6_tryPlace 73 = .ok (.iload_n 3, 1) := yd_op_29 (i := 32) yd_by_cX6_tryPlace_1 rfl rfl
theorem dX6_tryPlace_74 : decode cX6_tryPlace 74 = .ok (.iload 4, 2) := yd_op_21 (i := 33) (a := 4) yd_by_cX6_tryPlace_1 rfl rfl
theorem dX6_tryPlace_76 : decode cX6_tryPlace 76 = .ok (.isub, 1) := yd_op_100 (i := 35) yd_by_cX6_tryPlace_1 rfl rfl
theorem dX6_tryPlace_77 : decode cX6_tryPlace 77 = .ok (.invokestatic 225, 3) := yd_op_184 (i := 36) (a := 0) (b := 225) yd_by_cX6_tryPlace_1 rfl rfl
theorem dX6_tryPlace_80 : decode cX6_tryPlace 80 = .ok (.iadd, 1) := yd_op_96 (i := 39) yd_by_cX6_tryPlace_1 rfl rfl
set_option maxRecDepth 100000 in
theorem yd_by_cX6_tryPlace_2 : ydk cX6_tryPlace 81 [54, 7, 42, 180, 0, 31, 21, 6, 46, 42, 27, 21, 7, 182, 0, 97, 96, 54, 8, 42, 89, 180, 0, 48, 21, 8, 156, 0, 7, 4, 167, 0, 4, 3, 96] = true := by decide +kernel
theorem dX6_tryPlace_81 : decode cX6_tryPlace 81 = .ok (.istore 7, 2) := yd_op_54 (i := 0) (a := 7) yd_by_cX6_tryPlace_2 rfl rfl
theorem dX6_tryPlace_83 : decode cX6_tryPlace 83 = .ok (.aload_n 0, 1) := yd_op_42 (i := 2) yd_by_cX6_tryPlace_2 rfl rfl
theorem dX6_tryPlace_84 : decode cX6_tryPlace 84 = .ok (.getfield 31, 3) := yd_op_180 (i := 3) (a := 0) (b := 31) yd_by_cX6_tryPlace_2 rfl rfl
theorem dX6_tryPlace_87 : decode cX6_tryPlace 87 = .ok (.iload 6, 2) := yd_op_21 (i := 6) (a := 6) yd_by_cX6_tryPlace_2 rfl rfl
theorem dX6_tryPlace_89 : decode cX6_tryPlace 89 = .ok (.iaload, 1) := yd_op_46 (i := 8) yd_by_cX6_tryPlace_2 rfl rfl
theorem dX6_tryPlace_90 : decode cX6_tryPlace 90 = .ok (.aload_n 0, 1) := yd_op_42 (i := 9) yd_by_cX6_tryPlace_2 rfl rfl
theorem dX6_tryPlace_91 : decode cX6_tryPlace 91 = .ok (.iload_n 1, 1) := yd_op_27 (i := 10) yd_by_cX6_tryPlace_2 rfl rfl
theorem dX6_tryPlace_92 : decode cX6_tryPlace 92 = .ok (.iload 7, 2) := yd_op_21 (i := 11) (a := 7) yd_by_cX6_tryPlace_2 rfl rfl
theorem dX6_tryPlace_94 : decode cX6_tryPlace 94 = .ok (.invokevirtual 97, 3) := yd_op_182 (i := 13) (a := 0) (b := 97) yd_by_cX6_tryPlace_2 rfl rfl
theorem dX6_tryPlace_97 : decode cX6_tryPlace 97 = .ok (.iadd, 1) := yd_op_96 (i := 16) yd_by_cX6_tryPlace_2 rfl rfl
theorem dX6_tryPlace_98 : decode cX6_tryPlace 98 = .ok (.istore 8, 2) := yd_op_54 (i := 17) (a := 8) yd_by_cX6_tryPlace_2 rfl rfl
theorem dX6_tryPlace_100 : decode cX6_tryPlace 100 = .ok (.aload_n 0, 1) := yd_op_42 (i := 19) yd_by_cX6_tryPlace_2 rfl rfl
theorem dX6_tryPlace_101 : decode cX6_tryPlace 101 = .ok (.dup, 1) := yd_op_89 (i := 20) yd_by_cX6_tryPlace_2 rfl rfl
theorem dX6_tryPlace_102 : decode cX6_tryPlace 102 = .ok (.getfield 48, 3) := yd_op_180 (i := 21) (a := 0) (b := 48) yd_by_cX6_tryPlace_2 rfl rfl
theorem dX6_tryPlace_105 : decode cX6_tryPlace 105 = .ok (.iload 8, 2) := yd_op_21 (i := 24) (a := 8) yd_by_cX6_tryPlace_2 rfl rfl
theorem dX6_tryPlace_107 : decode cX6_tryPlace 107 = .ok (.ifCond .ge 7, 3) := yd_op_156 (i := 26) (a := 0) (b := 7) yd_by_cX6_tryPlace_2 rfl rfl
theorem dX6_tryPlace_110 : decode cX6_tryPlace 110 = .ok (.iconst 1, 1) := yd_op_4 (i := 29) yd_by_cX6_tryPlace_2 rfl rfl
theorem dX6_tryPlace_111 : decode cX6_tryPlace 111 = .ok (.goto 4, 3) := yd_op_167 (i := 30) (a := 0) (b := 4) yd_by_cX6_tryPlace_2 rfl rfl
theorem dX6_tryPlace_114 : decode cX6_tryPlace 114 = .ok (.iconst 0, 1) := yd_op_3 (i := 33) yd_by_cX6_tryPlace_2 rfl rfl
theorem dX6_tryPlace_115 : decode cX6_tryPlace 115 = .ok (.iadd, 1) := yd_op_96 (i := 34) yd_by_cX6_tryPlace_2 rfl rfl
set_option maxRecDepth 100000 in
theorem yd_by_cX6_tryPlace_3 : ydk cX6_tryPlace 116 [181, 0, 48, 42, 42, 180, 0, 51, 21, 8, 184, 0, 185, 181, 0, 51, 132, 5, 1, 167, 255, 150, 132, 4, 1, 167, 255, 129, 177] = true := by decide +kernel
theorem dX6_tryPlace_116 : decode cX6_tryPlace 116 = .ok (.putfield 48, 3) := yd_op_181 (i := 0) (a := 0) (b := 48) yd_by_cX6_tryPlace_3 rfl rfl
theorem dX6_tryPlace_119 : decode cX6_tryPlace 119 = .ok (.aload_n 0, 1) := yd_op_42 (i := 3) yd_by_cX6_tryPlace_3 rfl rfl
theorem dX6_tryPlace_120 : decode cX6_tryPlace 120 = .ok (.aload_n 0, 1) := yd_op_42 (i := 4) yd_by_cX6_tryPlace_3 rfl rfl
theorem dX6_tryPlace_121 : decode cX6_tryPlace 121 = .ok (.getfield 51, 3) := yd_op_180 (i := 5) (a := 0) (b := 51) yd_by_cX6_tryPlace_3 rfl rfl
theorem dX6_tryPlace_124 : decode cX6_tryPlace 124 = .ok (.iload 8, 2) := yd_op_21 (i := 8) (a := 8) yd_by_cX6_tryPlace_3 rfl rfl
theorem dX6_tryPlace_126 : decode cX6_tryPlace 126 = .ok (.invokestatic 185, 3) := yd_op_184 (i := 10) (a := 0) (b := 185) yd_by_cX6_tryPlace_3 rfl rfl
theorem dX6_tryPlace_129 : decode cX6_tryPlace 129 = .ok (.putfield 51, 3) := yd_op_181 (i := 13) (a := 0) (b := 51) yd_by_cX6_tryPlace_3 rfl rfl
theorem dX6_tryPlace_132 : decode cX6_tryPlace 132 = .ok (.iinc 5 1, 3) := yd_op_132 (i := 16) (a := 5) (b := 1) yd_by_cX6_tryPlace_3 rfl rfl
theorem dX6_tryPlace_135 : decode cX6_tryPlace 135 = .ok (.goto (-106), 3) := yd_op_167 (i := 19) (a := 255) (b := 150) yd_by_cX6_tryPlace_3 rfl rfl
theorem dX6_tryPlace_138 : decode cX6_tryPlace 138 = .ok (.iinc 4 1, 3) := yd_op_132 (i := 22) (a := 4) (b := 1) yd_by_cX6_tryPlace_3 rfl rfl
theorem dX6_tryPlace_141 : decode cX6_tryPlace 141 = .ok (.goto (-127), 3) := yd_op_167 (i := 25) (a := 255) (b := 129) yd_by_cX6_tryPlace_3 rfl rfl
theorem dX6_tryPlace_144 : decode cX6_tryPlace 144 = .ok (.return_, 1) := yd_op_177 (i := 28) yd_by_cX6_tryPlace_3 rfl rfl
set_option maxRecDepth 100000 in
theorem yd_by_cX7_init_0 : ydk cX7_init 0 [42, 183, 0, 3, 42, 17, 4, 0, 188, 4, 181, 0, 9, 42, 17, 4, 0, 188, 10, 181, 0, 15, 42, 17, 3, 223, 188, 10, 181, 0, 19, 42, 16, 12, 188, 10, 181, 0, 22, 42, 16, 12] = true := by decide +kernel
theorem dX7_init_0 : decode cX7_init 0 = .ok (.aload_n 0, 1) := yd_op_42 (i := 0) yd_by_cX7_init_0 rfl rfl
theorem dX7_init_1 : decode cX7_init 1 = .ok (.invokespecial 3, 3) := yd_op_183 (i := 1) (a := 0) (b := 3) yd_by_cX7_init_0 rfl rfl
theorem dX7_init_4 : decode cX7_init 4 = .ok (.aload_n 0, 1) := yd_op_42 (i := 4) yd_by_cX7_init_0 rfl rfl
theorem dX7_init_5 : decode cX7_init 5 = .ok (.sipush 1024, 3) := yd_op_17 (i := 5) (a := 4) (b := 0) yd_by_cX7_init_0 rfl rfl
theorem dX7_init_8 : decode cX7_init 8 = .ok (.newarray .boolean, 2) := yd_op_188_4 (i := 8) yd_by_cX7_init_0 rfl rfl
theorem dX7_init_10 : decode cX7_init 10 = .ok (.putfield 9, 3) := yd_op_181 (i := 10) (a := 0) (b := 9) yd_by_cX7_init_0 rfl rfl
theorem dX7_init_13 : decode cX7_init 13 = .ok (.aload_n 0, 1) := yd_op_42 (i := 13) yd_by_cX7_init_0 rfl rfl
theorem dX7_init_14 : decode cX7_init 14 = .ok (.sipush 1024, 3) := yd_op_17 (i := 14) (a := 4) (b := 0) yd_by_cX7_init_0 rfl rfl
theorem dX7_init_17 : decode cX7_init 17 = .ok (.newarray .int, 2) := yd_op_188_10 (i := 17) yd_by_cX7_init_0 rfl rfl
theorem dX7_init_19 : decode cX7_init 19 = .ok (.putfield 15, 3) := yd_op_181 (i := 19) (a := 0) (b := 15) yd_by_cX7_init_0 rfl rfl
theorem dX7_init_22 : decode cX7_init 22 = .ok (.aload_n 0, 1) := yd_op_42 (i := 22) yd_by_cX7_init_0 rfl rfl
theorem dX7_init_23 : decode cX7_init 23 = .ok (.sipush 991, 3) := yd_op_17 (i := 23) (a := 3) (b := 223) yd_by_cX7_init_0 rfl rfl
theorem dX7_init_26 : decode cX7_init 26 = .ok (.newarray .int, 2) := yd_op_188_10 (i := 26) yd_by_cX7_init_0 rfl rfl
theorem dX7_init_28 : decode cX7_init 28 = .ok (.putfield 19, 3) := yd_op_181 (i := 28) (a := 0) (b := 19) yd_by_cX7_init_0 rfl rfl
theorem dX7_init_31 : decode cX7_init 31 = .ok (.aload_n 0, 1) := yd_op_42 (i := 31) yd_by_cX7_init_0 rfl rfl
theorem dX7_init_32 : decode cX7_init 32 = .ok (.bipush 12, 2) := yd_op_16 (i := 32) (a := 12) yd_by_cX7_init_0 rfl rfl
theorem dX7_init_34 : decode cX7_init 34 = .ok (.newarray .int, 2) := yd_op_188_10 (i := 34) yd_by_cX7_init_0 rfl rfl
theorem dX7_init_36 : decode cX7_init 36 = .ok (.putfield 22, 3) := yd_op_181 (i := 36) (a := 0) (b := 22) yd_by_cX7_init_0 rfl rfl
theorem dX7_init_39 : decode cX7_init 39 = .ok (.aload_n 0, 1) := yd_op_42 (i := 39) yd_by_cX7_init_0 rfl rfl
theorem dX7_init_40 : decode cX7_init 40 = .ok (.bipush 12, 2) := yd_op_16 (i := 40) (a := 12) yd_by_cX7_init_0 rfl rfl
set_option maxRecDepth 100000 in
theorem yd_by_cX7_init_1 : ydk cX7_init 42 [188, 10, 181, 0, 25, 42, 3, 181, 0, 28, 42, 3, 181, 0, 32, 177] = true := by decide +kernel
theorem dX7_init_42 : decode cX7_init 42 = .ok (.newarray .int, 2) := yd_op_188_10 (i := 0) yd_by_cX7_init_1 rfl rfl
theorem dX7_init_44 : decode cX7_init 44 = .ok (.putfield 25, 3) := yd_op_181 (i := 2) (a := 0) (b := 25) yd_by_cX7_init_1 rfl rfl
theorem dX7_init_47 : decode cX7_init 47 = .ok (.aload_n 0, 1) := yd_op_42 (i := 5) yd_by_cX7_init_1 rfl rfl
theorem dX7_init_48 : decode cX7_init 48 = .ok (.iconst 0, 1) := yd_op_3 (i := 6) yd_by_cX7_init_1 rfl rfl
theorem dX7_init_49 : decode cX7_init 49 = .ok (.putfield 28, 3) := yd_op_181 (i := 7) (a := 0) (b := 28) yd_by_cX7_init_1 rfl rfl
theorem dX7_init_52 : decode cX7_init 52 = .ok (.aload_n 0, 1) := yd_op_42 (i := 10) yd_by_cX7_init_1 rfl rfl
theorem dX7_init_53 : decode cX7_init 53 = .ok (.iconst 0, 1) := yd_op_3 (i := 11) yd_by_cX7_init_1 rfl rfl
theorem dX7_init_54 : decode cX7_init 54 = .ok (.putfield 32, 3) := yd_op_181 (i := 12) (a := 0) (b := 32) yd_by_cX7_init_1 rfl rfl
theorem dX7_init_57 : decode cX7_init 57 = .ok (.return_, 1) := yd_op_177 (i := 15) yd_by_cX7_init_1 rfl rfl
set_option maxRecDepth 100000 in
theorem yd_by_cX7_takeSounds_0 : ydk cX7_takeSounds 0 [44, 180, 0, 35, 7, 108, 62, 29, 4, 161, 0, 19, 29, 16, 12, 163, 0, 13, 44, 180, 0, 35, 29, 7, 104, 159, 0, 5, 3, 172, 3] = true := by decide +kernel
theorem dX7_takeSounds_0 : decode cX7_takeSounds 0 = .ok (.aload_n 2, 1) := yd_op_44 (i := 0) yd_by_cX7_takeSounds_0 rfl rfl
theorem dX7_takeSounds_1 : decode cX7_takeSounds 1 = .ok (.getfield 35, 3) := yd_op_180 (i := 1) (a := 0) (b := 35) yd_by_cX7_takeSounds_0 rfl rfl
theorem dX7_takeSounds_4 : decode cX7_takeSounds 4 = .ok (.iconst 4, 1) := yd_op_7 (i := 4) yd_by_cX7_takeSounds_0 rfl rfl
theorem dX7_takeSounds_5 : decode cX7_takeSounds 5 = .ok (.idiv, 1) := yd_op_108 (i := 5) yd_by_cX7_takeSounds_0 rfl rfl
theorem dX7_takeSounds_6 : decode cX7_takeSounds 6 = .ok (.istore_n 3, 1) := yd_op_62 (i := 6) yd_by_cX7_takeSounds_0 rfl rfl
theorem dX7_takeSounds_7 : decode cX7_takeSounds 7 = .ok (.iload_n 3, 1) := yd_op_29 (i := 7) yd_by_cX7_takeSounds_0 rfl rfl
theorem dX7_takeSounds_8 : decode cX7_takeSounds 8 = .ok (.iconst 1, 1) := yd_op_4 (i := 8) yd_by_cX7_takeSounds_0 rfl rfl
theorem dX7_takeSounds_9 : decode cX7_takeSounds 9 = .ok (.if_icmp .lt 19, 3) := yd_op_161 (i := 9) (a := 0) (b := 19) yd_by_cX7_takeSounds_0 rfl rfl
theorem dX7_takeSounds_12 : decode cX7_takeSounds 12 = .ok (.iload_n 3, 1) := yd_op_29 (i := 12) yd_by_cX7_takeSounds_0 rfl rfl
theorem dX7_takeSounds_13 : decode cX7_takeSounds 13 = .ok (.bipush 12, 2) := yd_op_16 (i := 13) (a := 12) yd_by_cX7_takeSounds_0 rfl rfl
theorem dX7_takeSounds_15 : decode cX7_takeSounds 15 = .ok (.if_icmp .gt 13, 3) := yd_op_163 (i := 15) (a := 0) (b := 13) yd_by_cX7_takeSounds_0 rfl rfl
theorem dX7_takeSounds_18 : decode cX7_takeSounds 18 = .ok (.aload_n 2, 1) := yd_op_44 (i := 18) yd_by_cX7_takeSounds_0 rfl rfl
theorem dX7_takeSounds_19 : decode cX7_takeSounds 19 = .ok (.getfield 35, 3) := yd_op_180 (i := 19) (a := 0) (b := 35) yd_by_cX7_takeSounds_0 rfl rfl
theorem dX7_takeSounds_22 : decode cX7_takeSounds 22 = .ok (.iload_n 3, 1) := yd_op_29 (i := 22) yd_by_cX7_takeSounds_0 rfl rfl
theorem dX7_takeSounds_23 : decode cX7_takeSounds 23 = .ok (.iconst 4, 1) := yd_op_7 (i := 23) yd_by_cX7_takeSounds_0 rfl rfl
theorem dX7_takeSounds_24 : decode cX7_takeSounds 24 = .ok (.imul, 1) := yd_op_104 (i := 24) yd_by_cX7_takeSounds_0 rfl rfl
theorem dX7_takeSounds_25 : decode cX7_takeSounds 25 = .ok (.if_icmp .eq 5, 3) := yd_op_159 (i := 25) (a := 0) (b := 5) yd_by_cX7_takeSounds_0 rfl rfl
theorem dX7_takeSounds_28 : decode cX7_takeSounds 28 = .ok (.iconst 0, 1) := yd_op_3 (i := 28) yd_by_cX7_takeSounds_0 rfl rfl
theorem dX7_takeSounds_29 : decode cX7_takeSounds 29 = .ok (.ireturn, 1) := yd_op_172 (i := 29) yd_by_cX7_takeSounds_0 rfl rfl
theorem dX7_takeSounds_30 : decode cX7_takeSounds 30 = .ok (.iconst 0, 1) := yd_op_3 (i := 30) yd_by_cX7_takeSounds_0 rfl rfl
set_option maxRecDepth 100000 in
theorem yd_by_cX7_takeSounds_1 : ydk cX7_takeSounds 31 [54, 4, 21, 4, 29, 162, 0, 36, 43, 44, 21, 4, 7, 104, 182, 0, 40, 44, 21, 4, 7, 104, 4, 96, 182, 0, 40, 182, 0, 44, 154, 0, 5, 3] = true := by decide +kernel
theorem dX7_takeSounds_31 : decode cX7_takeSounds 31 = .ok (.istore 4, 2) := yd_op_54 (i := 0) (a := 4) yd_by_cX7_takeSounds_1 rfl rfl
theorem dX7_takeSounds_33 : decode cX7_takeSounds 33 = .ok (.iload 4, 2) := yd_op_21 (i := 2) (a := 4) yd_by_cX7_takeSounds_1 rfl rfl
theorem dX7_takeSounds_35 : decode cX7_takeSounds 35 = .ok (.iload_n 3, 1) := yd_op_29 (i := 4) yd_by_cX7_takeSounds_1 rfl rfl
theorem dX7_takeSounds_36 : decode cX7_takeSounds 36 = .ok (.if_icmp .ge 36, 3) := yd_op_162 (i := 5) (a := 0) (b := 36) yd_by_cX7_takeSounds_1 rfl rfl
theorem dX7_takeSounds_39 : decode cX7_takeSounds 39 = .ok (.aload_n 1, 1) := yd_op_43 (i := 8) yd_by_cX7_takeSounds_1 rfl rfl
theorem dX7_takeSounds_40 : decode cX7_takeSounds 40 = .ok (.aload_n 2, 1) := yd_op_44 (i := 9) yd_by_cX7_takeSounds_1 rfl rfl
theorem dX7_takeSounds_41 : decode cX7_takeSounds 41 = .ok (.iload 4, 2) := yd_op_21 (i := 10) (a := 4) yd_by_cX7_takeSounds_1 rfl rfl
theorem dX7_takeSounds_43 : decode cX7_takeSounds 43 = .ok (.iconst 4, 1) := yd_op_7 (i := 12) yd_by_cX7_takeSounds_1 rfl rfl
theorem dX7_takeSounds_44 : decode cX7_takeSounds 44 = .ok (.imul, 1) := yd_op_104 (i := 13) yd_by_cX7_takeSounds_1 rfl rfl
theorem dX7_takeSounds_45 : decode cX7_takeSounds 45 = .ok (.invokevirtual 40, 3) := yd_op_182 (i := 14) (a := 0) (b := 40) yd_by_cX7_takeSounds_1 rfl rfl
theorem dX7_takeSounds_48 : decode cX7_takeSounds 48 = .ok (.aload_n 2, 1) := yd_op_44 (i := 17) yd_by_cX7_takeSounds_1 rfl rfl
theorem dX7_takeSounds_49 : decode cX7_takeSounds 49 = .ok (.iload 4, 2) := yd_op_21 (i := 18) (a := 4) yd_by_cX7_takeSounds_1 rfl rfl
theorem dX7_takeSounds_51 : decode cX7_takeSounds 51 = .ok (.iconst 4, 1) := yd_op_7 (i := 20) yd_by_cX7_takeSounds_1 rfl rfl
theorem dX7_takeSounds_52 : decode cX7_takeSounds 52 = .ok (.imul, 1) := yd_op_104 (i := 21) yd_by_cX7_takeSounds_1 rfl rfl
theorem dX7_takeSounds_53 : decode cX7_takeSounds 53 = .ok (.iconst 1, 1) := yd_op_4 (i := 22) yd_by_cX7_takeSounds_1 rfl rfl
theorem dX7_takeSounds_54 : decode cX7_takeSounds 54 = .ok (.iadd, 1) := yd_op_96 (i := 23) yd_by_cX7_takeSounds_1 rfl rfl
theorem dX7_takeSounds_55 : decode cX7_takeSounds 55 = .ok (.invokevirtual 40, 3) := yd_op_182 (i := 24) (a := 0) (b := 40) yd_by_cX7_takeSounds_1 rfl rfl
theorem dX7_takeSounds_58 : decode cX7_takeSounds 58 = .ok (.invokevirtual 44, 3) := yd_op_182 (i := 27) (a := 0) (b := 44) yd_by_cX7_takeSounds_1 rfl rfl
theorem dX7_takeSounds_61 : decode cX7_takeSounds 61 = .ok (.ifCond .ne 5, 3) := yd_op_154 (i := 30) (a := 0) (b := 5) yd_by_cX7_takeSounds_1 rfl rfl
theorem dX7_takeSounds_64 : decode cX7_takeSounds 64 = .ok (.iconst 0, 1) := yd_op_3 (i := 33) yd_by_cX7_takeSounds_1 rfl rfl
set_option maxRecDepth 100000 in
theorem yd_by_cX7_takeSounds_2 : ydk cX7_takeSounds 65 [172, 132, 4, 1, 167, 255, 220, 3, 54, 4, 21, 4, 29, 162, 0, 59, 21, 4, 7, 104, 54, 5, 42, 180, 0, 22, 21, 4, 43, 44, 21, 5, 182, 0, 40, 44] = true := by decide +kernel
theorem dX7_takeSounds_65 : decode cX7_takeSounds 65 = .ok (.ireturn, 1) := yd_op_172 (i := 0) yd_by_cX7_takeSounds_2 rfl rfl
theorem dX7_takeSounds_66 : decode cX7_takeSounds 66 = .ok (.iinc 4 1, 3) := yd_op_132 (i := 1) (a := 4) (b := 1) yd_by_cX7_takeSounds_2 rfl rfl
theorem dX7_takeSounds_69 : decode cX7_takeSounds 69 = .ok (.goto (-36), 3) := yd_op_167 (i := 4) (a := 255) (b := 220) yd_by_cX7_takeSounds_2 rfl rfl
theorem dX7_takeSounds_72 : decode cX7_takeSounds 72 = .ok (.iconst 0, 1) := yd_op_3 (i := 7) yd_by_cX7_takeSounds_2 rfl rfl
theorem dX7_takeSounds_73 : decode cX7_takeSounds 73 = .ok (.istore 4, 2) := yd_op_54 (i := 8) (a := 4) yd_by_cX7_takeSounds_2 rfl rfl
theorem dX7_takeSounds_75 : decode cX7_takeSounds 75 = .ok (.iload 4, 2) := yd_op_21 (i := 10) (a := 4) yd_by_cX7_takeSounds_2 rfl rfl
theorem dX7_takeSounds_77 : decode cX7_takeSounds 77 = .ok (.iload_n 3, 1) := yd_op_29 (i := 12) yd_by_cX7_takeSounds_2 rfl rfl
theorem dX7_takeSounds_78 : decode cX7_takeSounds 78 = .ok (.if_icmp .ge 59, 3) := yd_op_162 (i := 13) (a := 0) (b := 59) yd_by_cX7_takeSounds_2 rfl rfl
theorem dX7_takeSounds_81 : decode cX7_takeSounds 81 = .ok (.iload 4, 2) := yd_op_21 (i := 16) (a := 4) yd_by_cX7_takeSounds_2 rfl rfl
theorem dX7_takeSounds_83 : decode cX7_takeSounds 83 = .ok (.iconst 4, 1) := yd_op_7 (i := 18) yd_by_cX7_takeSounds_2 rfl rfl
theorem dX7_takeSounds_84 : decode cX7_takeSounds 84 = .ok (.imul, 1) := yd_op_104 (i := 19) yd_by_cX7_takeSounds_2 rfl rfl
theorem dX7_takeSounds_85 : decode cX7_takeSounds 85 = .ok (.istore 5, 2) := yd_op_54 (i := 20) (a := 5) yd_by_cX7_takeSounds_2 rfl rfl
theorem dX7_takeSounds_87 : decode cX7_takeSounds 87 = .ok (.aload_n 0, 1) := yd_op_42 (i := 22) yd_by_cX7_takeSounds_2 rfl rfl
theorem dX7_takeSounds_88 : decode cX7_takeSounds 88 = .ok (.getfield 22, 3) := yd_op_180 (i := 23) (a := 0) (b := 22) yd_by_cX7_takeSounds_2 rfl rfl
theorem dX7_takeSounds_91 : decode cX7_takeSounds 91 = .ok (.iload 4, 2) := yd_op_21 (i := 26) (a := 4) yd_by_cX7_takeSounds_2 rfl rfl
theorem dX7_takeSounds_93 : decode cX7_takeSounds 93 = .ok (.aload_n 1, 1) := yd_op_43 (i := 28) yd_by_cX7_takeSounds_2 rfl rfl
theorem dX7_takeSounds_94 : decode cX7_takeSounds 94 = .ok (.aload_n 2, 1) := yd_op_44 (i := 29) yd_by_cX7_takeSounds_2 rfl rfl
theorem dX7_takeSounds_95 : decode cX7_takeSounds 95 = .ok (.iload 5, 2) := yd_op_21 (i := 30) (a := 5) yd_by_cX7_takeSounds_2 rfl rfl
theorem dX7_takeSounds_97 : decode cX7_takeSounds 97 = .ok (.invokevirtual 40, 3) := yd_op_182 (i := 32) (a := 0) (b := 40) yd_by_cX7_takeSounds_2 rfl rfl
theorem dX7_takeSounds_100 : decode cX7_takeSounds 100 = .ok (.aload_n 2, 1) := yd_op_44 (i := 35) yd_by_cX7_takeSounds_2 rfl rfl
set_option maxRecDepth 100000 in
theorem yd_by_cX7_takeSounds_3 : ydk cX7_takeSounds 101 [21, 5, 4, 96, 182, 0, 40, 182, 0, 50, 79, 42, 180, 0, 25, 21, 4, 44, 21, 5, 5, 96, 182, 0, 54, 17, 1, 244, 100, 79, 132, 4, 1, 167, 255, 197, 42] = true := by decide +kernel
theorem dX7_takeSounds_101 : decode cX7_takeSounds 101 = .ok (.iload 5, 2) := yd_op_21 (i := 0) (a := 5) yd_by_cX7_takeSounds_3 rfl rfl
theorem dX7_takeSounds_103 : decode cX7_takeSounds 103 = .ok (.iconst 1, 1) := yd_op_4 (i := 2) yd_by_cX7_takeSounds_3 rfl rfl
theorem dX7_takeSounds_104 : decode cX7_takeSounds 104 = .ok (.iadd, 1) := yd_op_96 (i := 3) yd_by_cX7_takeSounds_3 rfl rfl
theorem dX7_takeSounds_105 : decode cX7_takeSounds 105 = .ok (.invokevirtual 40, 3) := yd_op_182 (i := 4) (a := 0) (b := 40) yd_by_cX7_takeSounds_3 rfl rfl
theorem dX7_takeSounds_108 : decode cX7_takeSounds 108 = .ok (.invokevirtual 50, 3) := yd_op_182 (i := 7) (a := 0) (b := 50) yd_by_cX7_takeSounds_3 rfl rfl
theorem dX7_takeSounds_111 : decode cX7_takeSounds 111 = .ok (.iastore, 1) := yd_op_79 (i := 10) yd_by_cX7_takeSounds_3 rfl rfl
theorem dX7_takeSounds_112 : decode cX7_takeSounds 112 = .ok (.aload_n 0, 1) := yd_op_42 (i := 11) yd_by_cX7_takeSounds_3 rfl rfl
theorem dX7_takeSounds_113 : decode cX7_takeSounds 113 = .ok (.getfield 25, 3) := yd_op_180 (i := 12) (a := 0) (b := 25) yd_by_cX7_takeSounds_3 rfl rfl
theorem dX7_takeSounds_116 : decode cX7_takeSounds 116 = .ok (.iload 4, 2) := yd_op_21 (i := 15) (a := 4) yd_by_cX7_takeSounds_3 rfl rfl
theorem dX7_takeSounds_118 : decode cX7_takeSounds 118 = .ok (.aload_n 2, 1) := yd_op_44 (i := 17) yd_by_cX7_takeSounds_3 rfl rfl
theorem dX7_takeSounds_119 : decode cX7_takeSounds 119 = .ok (.iload 5, 2) := yd_op_21 (i := 18) (a := 5) yd_by_cX7_takeSounds_3 rfl rfl
theorem dX7_takeSounds_121 : decode cX7_takeSounds 121 = .ok (.iconst 2, 1) := yd_op_5 (i := 20) yd_by_cX7_takeSounds_3 rfl rfl
theorem dX7_takeSounds_122 : decode cX7_takeSounds 122 = .ok (.iadd, 1) := yd_op_96 (i := 21) yd_by_cX7_takeSounds_3 rfl rfl
theorem dX7_takeSounds_123 : decode cX7_takeSounds 123 = .ok (.invokevirtual 54, 3) := yd_op_182 (i := 22) (a := 0) (b := 54) yd_by_cX7_takeSounds_3 rfl rfl
theorem dX7_takeSounds_126 : decode cX7_takeSounds 126 = .ok (.sipush 500, 3) := yd_op_17 (i := 25) (a := 1) (b := 244) yd_by_cX7_takeSounds_3 rfl rfl
theorem dX7_takeSounds_129 : decode cX7_takeSounds 129 = .ok (.isub, 1) := yd_op_100 (i := 28) yd_by_cX7_takeSounds_3 rfl rfl
theorem dX7_takeSounds_130 : decode cX7_takeSounds 130 = .ok (.iastore, 1) := yd_op_79 (i := 29) yd_by_cX7_takeSounds_3 rfl rfl
theorem dX7_takeSounds_131 : decode cX7_takeSounds 131 = .ok (.iinc 4 1, 3) := yd_op_132 (i := 30) (a := 4) (b := 1) yd_by_cX7_takeSounds_3 rfl rfl
theorem dX7_takeSounds_134 : decode cX7_takeSounds 134 = .ok (.goto (-59), 3) := yd_op_167 (i := 33) (a := 255) (b := 197) yd_by_cX7_takeSounds_3 rfl rfl
theorem dX7_takeSounds_137 : decode cX7_takeSounds 137 = .ok (.aload_n 0, 1) := yd_op_42 (i := 36) yd_by_cX7_takeSounds_3 rfl rfl
set_option maxRecDepth 100000 in
theorem yd_by_cX7_takeSounds_4 : ydk cX7_takeSounds 138 [29, 181, 0, 28, 4, 172] = true := by decide +kernel
theorem dX7_takeSounds_138 : decode cX7_takeSounds 138 = .ok (.iload_n 3, 1) := yd_op_29 (i := 0) yd_by_cX7_takeSounds_4 rfl rfl
theorem dX7_takeSounds_139 : decode cX7_takeSounds 139 = .ok (.putfield 28, 3) := yd_op_181 (i := 1) (a := 0) (b := 28) yd_by_cX7_takeSounds_4 rfl rfl
theorem dX7_takeSounds_142 : decode cX7_takeSounds 142 = .ok (.iconst 1, 1) := yd_op_4 (i := 4) yd_by_cX7_takeSounds_4 rfl rfl
theorem dX7_takeSounds_143 : decode cX7_takeSounds 143 = .ok (.ireturn, 1) := yd_op_172 (i := 5) yd_by_cX7_takeSounds_4 rfl rfl
set_option maxRecDepth 100000 in
theorem yd_by_cX7_keepAwake_0 : ydk cX7_keepAwake 0 [42, 17, 4, 0, 4, 43, 180, 0, 57, 180, 0, 63, 120, 184, 0, 66, 181, 0, 32, 3, 61, 28, 42, 180, 0, 32, 162, 0, 32, 42, 180, 0, 9, 28, 28, 43] = true := by decide +kernel
theorem dX7_keepAwake_0 : decode cX7_keepAwake 0 = .ok (.aload_n 0, 1) := yd_op_42 (i := 0) yd_by_cX7_keepAwake_0 rfl rfl
theorem dX7_keepAwake_1 : decode cX7_keepAwake 1 = .ok (.sipush 1024, 3) := yd_op_17 (i := 1) (a := 4) (b := 0) yd_by_cX7_keepAwake_0 rfl rfl
theorem dX7_keepAwake_4 : decode cX7_keepAwake 4 = .ok (.iconst 1, 1) := yd_op_4 (i := 4) yd_by_cX7_keepAwake_0 rfl rfl
theorem dX7_keepAwake_5 : decode cX7_keepAwake 5 = .ok (.aload_n 1, 1) := yd_op_43 (i := 5) yd_by_cX7_keepAwake_0 rfl rfl
theorem dX7_keepAwake_6 : decode cX7_keepAwake 6 = .ok (.getfield 57, 3) := yd_op_180 (i := 6) (a := 0) (b := 57) yd_by_cX7_keepAwake_0 rfl rfl
theorem dX7_keepAwake_9 : decode cX7_keepAwake 9 = .ok (.getfield 63, 3) := yd_op_180 (i := 9) (a := 0) (b := 63) yd_by_cX7_keepAwake_0 rfl rfl
theorem dX7_keepAwake_12 : decode cX7_keepAwake 12 = .ok (.ishl, 1) := yd_op_120 (i := 12) yd_by_cX7_keepAwake_0 rfl rfl
theorem dX7_keepAwake_13 : decode cX7_keepAwake 13 = .ok (.invokestatic 66, 3) := yd_op_184 (i := 13) (a := 0) (b := 66) yd_by_cX7_keepAwake_0 rfl rfl
theorem dX7_keepAwake_16 : decode cX7_keepAwake 16 = .ok (.putfield 32, 3) := yd_op_181 (i := 16) (a := 0) (b := 32) yd_by_cX7_keepAwake_0 rfl rfl
theorem dX7_keepAwake_19 : decode cX7_keepAwake 19 = .ok (.iconst 0, 1) := yd_op_3 (i := 19) yd_by_cX7_keepAwake_0 rfl rfl
theorem dX7_keepAwake_20 : decode cX7_keepAwake 20 = .ok (.istore_n 2, 1) := yd_op_61 (i := 20) yd_by_cX7_keepAwake_0 rfl rfl
theorem dX7_keepAwake_21 : decode cX7_keepAwake 21 = .ok (.iload_n 2, 1) := yd_op_28 (i := 21) yd_by_cX7_keepAwake_0 rfl rfl
theorem dX7_keepAwake_22 : decode cX7_keepAwake 22 = .ok (.aload_n 0, 1) := yd_op_42 (i := 22) yd_by_cX7_keepAwake_0 rfl rfl
theorem dX7_keepAwake_23 : decode cX7_keepAwake 23 = .ok (.getfield 32, 3) := yd_op_180 (i := 23) (a := 0) (b := 32) yd_by_cX7_keepAwake_0 rfl rfl
theorem dX7_keepAwake_26 : decode cX7_keepAwake 26 = .ok (.if_icmp .ge 32, 3) := yd_op_162 (i := 26) (a := 0) (b := 32) yd_by_cX7_keepAwake_0 rfl rfl
theorem dX7_keepAwake_29 : decode cX7_keepAwake 29 = .ok (.aload_n 0, 1) := yd_op_42 (i := 29) yd_by_cX7_keepAwake_0 rfl rfl
theorem dX7_keepAwake_30 : decode cX7_keepAwake 30 = .ok (.getfield 9, 3) := yd_op_180 (i := 30) (a := 0) (b := 9) yd_by_cX7_keepAwake_0 rfl rfl
theorem dX7_keepAwake_33 : decode cX7_keepAwake 33 = .ok (.iload_n 2, 1) := yd_op_28 (i := 33) yd_by_cX7_keepAwake_0 rfl rfl
theorem dX7_keepAwake_34 : decode cX7_keepAwake 34 = .ok (.iload_n 2, 1) := yd_op_28 (i := 34) yd_by_cX7_keepAwake_0 rfl rfl
theorem dX7_keepAwake_35 : decode cX7_keepAwake 35 = .ok (.aload_n 1, 1) := yd_op_43 (i := 35) yd_by_cX7_keepAwake_0 rfl rfl
set_option maxRecDepth 100000 in
theorem yd_by_cX7_keepAwake_1 : ydk cX7_keepAwake 36 [180, 0, 71, 180, 0, 75, 126, 154, 0, 7, 4, 167, 0, 4, 3, 84, 132, 2, 1, 167, 255, 222, 177] = true := by decide +kernel
theorem dX7_keepAwake_36 : decode cX7_keepAwake 36 = .ok (.getfield 71, 3) := yd_op_180 (i := 0) (a := 0) (b := 71) yd_by_cX7_keepAwake_1 rfl rfl
theorem dX7_keepAwake_39 : decode cX7_keepAwake 39 = .ok (.getfield 75, 3) := yd_op_180 (i := 3) (a := 0) (b := 75) yd_by_cX7_keepAwake_1 rfl rfl
theorem dX7_keepAwake_42 : decode cX7_keepAwake 42 = .ok (.iand, 1) := yd_op_126 (i := 6) yd_by_cX7_keepAwake_1 rfl rfl
theorem dX7_keepAwake_43 : decode cX7_keepAwake 43 = .ok (.ifCond .ne 7, 3) := yd_op_154 (i := 7) (a := 0) (b := 7) yd_by_cX7_keepAwake_1 rfl rfl
theorem dX7_keepAwake_46 : decode cX7_keepAwake 46 = .ok (.iconst 1, 1) := yd_op_4 (i := 10) yd_by_cX7_keepAwake_1 rfl rfl
theorem dX7_keepAwake_47 : decode cX7_keepAwake 47 = .ok (.goto 4, 3) := yd_op_167 (i := 11) (a := 0) (b := 4) yd_by_cX7_keepAwake_1 rfl rfl
theorem dX7_keepAwake_50 : decode cX7_keepAwake 50 = .ok (.iconst 0, 1) := yd_op_3 (i := 14) yd_by_cX7_keepAwake_1 rfl rfl
theorem dX7_keepAwake_51 : decode cX7_keepAwake 51 = .ok (.bastore, 1) := yd_op_84 (i := 15) yd_by_cX7_keepAwake_1 rfl rfl
theorem dX7_keepAwake_52 : decode cX7_keepAwake 52 = .ok (.iinc 2 1, 3) := yd_op_132 (i := 16) (a := 2) (b := 1) yd_by_cX7_keepAwake_1 rfl rfl
theorem dX7_keepAwake_55 : decode cX7_keepAwake 55 = .ok (.goto (-34), 3) := yd_op_167 (i := 19) (a := 255) (b := 222) yd_by_cX7_keepAwake_1 rfl rfl
theorem dX7_keepAwake_58 : decode cX7_keepAwake 58 = .ok (.return_, 1) := yd_op_177 (i := 22) yd_by_cX7_keepAwake_1 rfl rfl
set_option maxRecDepth 100000 in
theorem yd_by_cX7_measureLifted_0 : ydk cX7_measureLifted 0 [42, 180, 0, 15, 3, 3, 79, 3, 62, 29, 43, 180, 0, 57, 180, 0, 63, 162, 0, 74, 4, 29, 120, 54, 4, 43, 180, 0, 80, 29, 16, 36] = true := by decide +kernel
theorem dX7_measureLifted_0 : decode cX7_measureLifted 0 = .ok (.aload_n 0, 1) := yd_op_42 (i := 0) yd_by_cX7_measureLifted_0 rfl rfl
theorem dX7_measureLifted_1 : decode cX7_measureLifted 1 = .ok (.getfield 15, 3) := yd_op_180 (i := 1) (a := 0) (b := 15) yd_by_cX7_measureLifted_0 rfl rfl
theorem dX7_measureLifted_4 : decode cX7_measureLifted 4 = .ok (.iconst 0, 1) := yd_op_3 (i := 4) yd_by_cX7_measureLifted_0 rfl rfl
theorem dX7_measureLifted_5 : decode cX7_measureLifted 5 = .ok (.iconst 0, 1) := yd_op_3 (i := 5) yd_by_cX7_measureLifted_0 rfl rfl
theorem dX7_measureLifted_6 : decode cX7_measureLifted 6 = .ok (.iastore, 1) := yd_op_79 (i := 6) yd_by_cX7_measureLifted_0 rfl rfl
theorem dX7_measureLifted_7 : decode cX7_measureLifted 7 = .ok (.iconst 0, 1) := yd_op_3 (i := 7) yd_by_cX7_measureLifted_0 rfl rfl
theorem dX7_measureLifted_8 : decode cX7_measureLifted 8 = .ok (.istore_n 3, 1) := yd_op_62 (i := 8) yd_by_cX7_measureLifted_0 rfl rfl
theorem dX7_measureLifted_9 : decode cX7_measureLifted 9 = .ok (.iload_n 3, 1) := yd_op_29 (i := 9) yd_by_cX7_measureLifted_0 rfl rfl
theorem dX7_measureLifted_10 : decode cX7_measureLifted 10 = .ok (.aload_n 1, 1) := yd_op_43 (i := 10) yd_by_cX7_measureLifted_0 rfl rfl
theorem dX7_measureLifted_11 : decode cX7_measureLifted 11 = .ok (.getfield 57, 3) := yd_op_180 (i := 11) (a := 0) (b := 57) yd_by_cX7_measureLifted_0 rfl rfl
theorem dX7_measureLifted_14 : decode cX7_measureLifted 14 = .ok (.getfield 63, 3) := yd_op_180 (i := 14) (a := 0) (b := 63) yd_by_cX7_measureLifted_0 rfl rfl
theorem dX7_measureLifted_17 : decode cX7_measureLifted 17 = .ok (.if_icmp .ge 74, 3) := yd_op_162 (i := 17) (a := 0) (b := 74) yd_by_cX7_measureLifted_0 rfl rfl
theorem dX7_measureLifted_20 : decode cX7_measureLifted 20 = .ok (.iconst 1, 1) := yd_op_4 (i := 20) yd_by_cX7_measureLifted_0 rfl rfl
theorem dX7_measureLifted_21 : decode cX7_measureLifted 21 = .ok (.iload_n 3, 1) := yd_op_29 (i := 21) yd_by_cX7_measureLifted_0 rfl rfl
theorem dX7_measureLifted_22 : decode cX7_measureLifted 22 = .ok (.ishl, 1) := yd_op_120 (i := 22) yd_by_cX7_measureLifted_0 rfl rfl
theorem dX7_measureLifted_23 : decode cX7_measureLifted 23 = .ok (.istore 4, 2) := yd_op_54 (i := 23) (a := 4) yd_by_cX7_measureLifted_0 rfl rfl
theorem dX7_measureLifted_25 : decode cX7_measureLifted 25 = .ok (.aload_n 1, 1) := yd_op_43 (i := 25) yd_by_cX7_measureLifted_0 rfl rfl
theorem dX7_measureLifted_26 : decode cX7_measureLifted 26 = .ok (.getfield 80, 3) := yd_op_180 (i := 26) (a := 0) (b := 80) yd_by_cX7_measureLifted_0 rfl rfl
theorem dX7_measureLifted_29 : decode cX7_measureLifted 29 = .ok (.iload_n 3, 1) := yd_op_29 (i := 29) yd_by_cX7_measureLifted_0 rfl rfl
theorem dX7_measureLifted_30 : decode cX7_measureLifted 30 = .ok (.bipush 36, 2) := yd_op_16 (i := 30) (a := 36) yd_by_cX7_measureLifted_0 rfl rfl
set_option maxRecDepth 100000 in
theorem yd_by_cX7_measureLifted_1 : ydk cX7_measureLifted 32 [104, 28, 96, 46, 54, 5, 3, 54, 6, 21, 6, 21, 4, 162, 0, 40, 21, 4, 21, 6, 96, 17, 4, 0, 162, 0, 29, 42, 180, 0, 15, 21, 4, 21, 6, 96] = true := by decide +kernel
theorem dX7_measureLifted_32 : decode cX7_measureLifted 32 = .ok (.imul, 1) := yd_op_104 (i := 0) yd_by_cX7_measureLifted_1 rfl rfl
theorem dX7_measureLifted_33 : decode cX7_measureLifted 33 = .ok (.iload_n 2, 1) := yd_op_28 (i := 1) yd_by_cX7_measureLifted_1 rfl rfl
theorem dX7_measureLifted_34 : decode cX7_measureLifted 34 = .ok (.iadd, 1) := yd_op_96 (i := 2) yd_by_cX7_measureLifted_1 rfl rfl
theorem dX7_measureLifted_35 : decode cX7_measureLifted 35 = .ok (.iaload, 1) := yd_op_46 (i := 3) yd_by_cX7_measureLifted_1 rfl rfl
theorem dX7_measureLifted_36 : decode cX7_measureLifted 36 = .ok (.istore 5, 2) := yd_op_54 (i := 4) (a := 5) yd_by_cX7_measureLifted_1 rfl rfl
theorem dX7_measureLifted_38 : decode cX7_measureLifted 38 = .ok (.iconst 0, 1) := yd_op_3 (i := 6) yd_by_cX7_measureLifted_1 rfl rfl
theorem dX7_measureLifted_39 : decode cX7_measureLifted 39 = .ok (.istore 6, 2) := yd_op_54 (i := 7) (a := 6) yd_by_cX7_measureLifted_1 rfl rfl
theorem dX7_measureLifted_41 : decode cX7_measureLifted 41 = .ok (.iload 6, 2) := yd_op_21 (i := 9) (a := 6) yd_by_cX7_measureLifted_1 rfl rfl
theorem dX7_measureLifted_43 : decode cX7_measureLifted 43 = .ok (.iload 4, 2) := yd_op_21 (i := 11) (a := 4) yd_by_cX7_measureLifted_1 rfl rfl
theorem dX7_measureLifted_45 : decode cX7_measureLifted 45 = .ok (.if_icmp .ge 40, 3) := yd_op_162 (i := 13) (a := 0) (b := 40) yd_by_cX7_measureLifted_1 rfl rfl
theorem dX7_measureLifted_48 : decode cX7_measureLifted 48 = .ok (.iload 4, 2) := yd_op_21 (i := 16) (a := 4) yd_by_cX7_measureLifted_1 rfl rfl
theorem dX7_measureLifted_50 : decode cX7_measureLifted 50 = .ok (.iload 6, 2) := yd_op_21 (i := 18) (a := 6) yd_by_cX7_measureLifted_1 rfl rfl
theorem dX7_measureLifted_52 : decode cX7_measureLifted 52 = .ok (.iadd, 1) := yd_op_96 (i := 20) yd_by_cX7_measureLifted_1 rfl rfl
theorem dX7_measureLifted_53 : decode cX7_measureLifted 53 = .ok (.sipush 1024, 3) := yd_op_17 (i := 21) (a := 4) (b := 0) yd_by_cX7_measureLifted_1 rfl rfl
theorem dX7_measureLifted_56 : decode cX7_measureLifted 56 = .ok (.if_icmp .ge 29, 3) := yd_op_162 (i := 24) (a := 0) (b := 29) yd_by_cX7_measureLifted_1 rfl rfl
theorem dX7_measureLifted_59 : decode cX7_measureLifted 59 = .ok (.aload_n 0, 1) := yd_op_42 (i := 27) yd_by_cX7_measureLifted_1 rfl rfl
theorem dX7_measureLifted_60 : decode cX7_measureLifted 60 = .ok (.getfield 15, 3) := yd_op_180 (i := 28) (a := 0) (b := 15) yd_by_cX7_measureLifted_1 rfl rfl
theorem dX7_measureLifted_63 : decode cX7_measureLifted 63 = .ok (.iload 4, 2) := yd_op_21 (i := 31) (a := 4) yd_by_cX7_measureLifted_1 rfl rfl
theorem dX7_measureLifted_65 : decode cX7_measureLifted 65 = .ok (.iload 6, 2) := yd_op_21 (i := 33) (a := 6) yd_by_cX7_measureLifted_1 rfl rfl
theorem dX7_measureLifted_67 : decode cX7_measureLifted 67 = .ok (.iadd, 1) := yd_op_96 (i := 35) yd_by_cX7_measureLifted_1 rfl rfl
set_option maxRecDepth 100000 in
theorem yd_by_cX7_measureLifted_2 : ydk cX7_measureLifted 68 [42, 180, 0, 15, 21, 6, 46, 21, 5, 96, 79, 132, 6, 1, 167, 255, 215, 132, 3, 1, 167, 255, 177, 177] = true := by decide +kernel
theorem dX7_measureLifted_68 : decode cX7_measureLifted 68 = .ok (.aload_n 0, 1) := yd_op_42 (i := 0) yd_by_cX7_measureLifted_2 rfl rfl
theorem dX7_measureLifted_69 : decode cX7_measureLifted 69 = .ok (.getfield 15, 3) := yd_op_180 (i := 1) (a := 0) (b := 15) yd_by_cX7_measureLifted_2 rfl rfl
theorem dX7_measureLifted_72 : decode cX7_measureLifted 72 = .ok (.iload 6, 2) := yd_op_21 (i := 4) (a := 6) yd_by_cX7_measureLifted_2 rfl rfl
theorem dX7_measureLifted_74 : decode cX7_measureLifted 74 = .ok (.iaload, 1) := yd_op_46 (i := 6) yd_by_cX7_measureLifted_2 rfl rfl
theorem dX7_measureLifted_75 : decode cX7_measureLifted 75 = .ok (.iload 5, 2) := yd_op_21 (i := 7) (a := 5) yd_by_cX7_measureLifted_2 rfl rfl
theorem dX7_measureLifted_77 : decode cX7_measureLifted 77 = .ok (.iadd, 1) := yd_op_96 (i := 9) yd_by_cX7_measureLifted_2 rfl rfl
theorem dX7_measureLifted_78 : decode cX7_measureLifted 78 = .ok (.iastore, 1) := yd_op_79 (i := 10) yd_by_cX7_measureLifted_2 rfl rfl
theorem dX7_measureLifted_79 : decode cX7_measureLifted 79 = .ok (.iinc 6 1, 3) := yd_op_132 (i := 11) (a := 6) (b := 1) yd_by_cX7_measureLifted_2 rfl rfl
theorem dX7_measureLifted_82 : decode cX7_measureLifted 82 = .ok (.goto (-41), 3) := yd_op_167 (i := 14) (a := 255) (b := 215) yd_by_cX7_measureLifted_2 rfl rfl
theorem dX7_measureLifted_85 : decode cX7_measureLifted 85 = .ok (.iinc 3 1, 3) := yd_op_132 (i := 17) (a := 3) (b := 1) yd_by_cX7_measureLifted_2 rfl rfl
theorem dX7_measureLifted_88 : decode cX7_measureLifted 88 = .ok (.goto (-79), 3) := yd_op_167 (i := 20) (a := 255) (b := 177) yd_by_cX7_measureLifted_2 rfl rfl
theorem dX7_measureLifted_91 : decode cX7_measureLifted 91 = .ok (.return_, 1) := yd_op_177 (i := 23) yd_by_cX7_measureLifted_2 rfl rfl
set_option maxRecDepth 100000 in
theorem yd_by_cX7_keepSounded_0 : ydk cX7_keepSounded 0 [42, 43, 182, 0, 83, 3, 61, 28, 42, 180, 0, 28, 162, 0, 97, 42, 180, 0, 22, 28, 46, 62, 42, 180, 0, 25, 28, 46, 43, 180, 0, 57] = true := by decide +kernel
theorem dX7_keepSounded_0 : decode cX7_keepSounded 0 = .ok (.aload_n 0, 1) := yd_op_42 (i := 0) yd_by_cX7_keepSounded_0 rfl rfl
theorem dX7_keepSounded_1 : decode cX7_keepSounded 1 = .ok (.aload_n 1, 1) := yd_op_43 (i := 1) yd_by_cX7_keepSounded_0 rfl rfl
theorem dX7_keepSounded_2 : decode cX7_keepSounded 2 = .ok (.invokevirtual 83, 3) := yd_op_182 (i := 2) (a := 0) (b := 83) yd_by_cX7_keepSounded_0 rfl rfl
theorem dX7_keepSounded_5 : decode cX7_keepSounded 5 = .ok (.iconst 0, 1) := yd_op_3 (i := 5) yd_by_cX7_keepSounded_0 rfl rfl
theorem dX7_keepSounded_6 : decode cX7_keepSounded 6 = .ok (.istore_n 2, 1) := yd_op_61 (i := 6) yd_by_cX7_keepSounded_0 rfl rfl
theorem dX7_keepSounded_7 : decode cX7_keepSounded 7 = .ok (.iload_n 2, 1) := yd_op_28 (i := 7) yd_by_cX7_keepSounded_0 rfl rfl
theorem dX7_keepSounded_8 : decode cX7_keepSounded 8 = .ok (.aload_n 0, 1) := yd_op_42 (i := 8) yd_by_cX7_keepSounded_0 rfl rfl
theorem dX7_keepSounded_9 : decode cX7_keepSounded 9 = .ok (.getfield 28, 3) := yd_op_180 (i := 9) (a := 0) (b := 28) yd_by_cX7_keepSounded_0 rfl rfl
theorem dX7_keepSounded_12 : decode cX7_keepSounded 12 = .ok (.if_icmp .ge 97, 3) := yd_op_162 (i := 12) (a := 0) (b := 97) yd_by_cX7_keepSounded_0 rfl rfl
theorem dX7_keepSounded_15 : decode cX7_keepSounded 15 = .ok (.aload_n 0, 1) := yd_op_42 (i := 15) yd_by_cX7_keepSounded_0 rfl rfl
theorem dX7_keepSounded_16 : decode cX7_keepSounded 16 = .ok (.getfield 22, 3) := yd_op_180 (i := 16) (a := 0) (b := 22) yd_by_cX7_keepSounded_0 rfl rfl
theorem dX7_keepSounded_19 : decode cX7_keepSounded 19 = .ok (.iload_n 2, 1) := yd_op_28 (i := 19) yd_by_cX7_keepSounded_0 rfl rfl
theorem dX7_keepSounded_20 : decode cX7_keepSounded 20 = .ok (.iaload, 1) := yd_op_46 (i := 20) yd_by_cX7_keepSounded_0 rfl rfl
theorem dX7_keepSounded_21 : decode cX7_keepSounded 21 = .ok (.istore_n 3, 1) := yd_op_62 (i := 21) yd_by_cX7_keepSounded_0 rfl rfl
theorem dX7_keepSounded_22 : decode cX7_keepSounded 22 = .ok (.aload_n 0, 1) := yd_op_42 (i := 22) yd_by_cX7_keepSounded_0 rfl rfl
theorem dX7_keepSounded_23 : decode cX7_keepSounded 23 = .ok (.getfield 25, 3) := yd_op_180 (i := 23) (a := 0) (b := 25) yd_by_cX7_keepSounded_0 rfl rfl
theorem dX7_keepSounded_26 : decode cX7_keepSounded 26 = .ok (.iload_n 2, 1) := yd_op_28 (i := 26) yd_by_cX7_keepSounded_0 rfl rfl
theorem dX7_keepSounded_27 : decode cX7_keepSounded 27 = .ok (.iaload, 1) := yd_op_46 (i := 27) yd_by_cX7_keepSounded_0 rfl rfl
theorem dX7_keepSounded_28 : decode cX7_keepSounded 28 = .ok (.aload_n 1, 1) := yd_op_43 (i := 28) yd_by_cX7_keepSounded_0 rfl rfl
theorem dX7_keepSounded_29 : decode cX7_keepSounded 29 = .ok (.getfield 57, 3) := yd_op_180 (i := 29) (a := 0) (b := 57) yd_by_cX7_keepSounded_0 rfl rfl
set_option maxRecDepth 100000 in
theorem yd_by_cX7_keepSounded_1 : ydk cX7_keepSounded 32 [180, 0, 87, 100, 43, 180, 0, 90, 29, 46, 96, 54, 4, 42, 43, 29, 182, 0, 93, 3, 54, 5, 21, 5, 42, 180, 0, 32, 162, 0, 43, 42, 180, 0, 9] = true := by decide +kernel
theorem dX7_keepSounded_32 : decode cX7_keepSounded 32 = .ok (.getfield 87, 3) := yd_op_180 (i := 0) (a := 0) (b := 87) yd_by_cX7_keepSounded_1 rfl rfl
theorem dX7_keepSounded_35 : decode cX7_keepSounded 35 = .ok (.isub, 1) := yd_op_100 (i := 3) yd_by_cX7_keepSounded_1 rfl rfl
theorem dX7_keepSounded_36 : decode cX7_keepSounded 36 = .ok (.aload_n 1, 1) := yd_op_43 (i := 4) yd_by_cX7_keepSounded_1 rfl rfl
theorem dX7_keepSounded_37 : decode cX7_keepSounded 37 = .ok (.getfield 90, 3) := yd_op_180 (i := 5) (a := 0) (b := 90) yd_by_cX7_keepSounded_1 rfl rfl
theorem dX7_keepSounded_40 : decode cX7_keepSounded 40 = .ok (.iload_n 3, 1) := yd_op_29 (i := 8) yd_by_cX7_keepSounded_1 rfl rfl
theorem dX7_keepSounded_41 : decode cX7_keepSounded 41 = .ok (.iaload, 1) := yd_op_46 (i := 9) yd_by_cX7_keepSounded_1 rfl rfl
theorem dX7_keepSounded_42 : decode cX7_keepSounded 42 = .ok (.iadd, 1) := yd_op_96 (i := 10) yd_by_cX7_keepSounded_1 rfl rfl
theorem dX7_keepSounded_43 : decode cX7_keepSounded 43 = .ok (.istore 4, 2) := yd_op_54 (i := 11) (a := 4) yd_by_cX7_keepSounded_1 rfl rfl
theorem dX7_keepSounded_45 : decode cX7_keepSounded 45 = .ok (.aload_n 0, 1) := yd_op_42 (i := 13) yd_by_cX7_keepSounded_1 rfl rfl
theorem dX7_keepSounded_46 : decode cX7_keepSounded 46 = .ok (.aload_n 1, 1) := yd_op_43 (i := 14) yd_by_cX7_keepSounded_1 rfl rfl
theorem dX7_keepSounded_47 : decode cX7_keepSounded 47 = .ok (.iload_n 3, 1) := yd_op_29 (i := 15) yd_by_cX7_keepSounded_1 rfl rfl
theorem dX7_keepSounded_48 : decode cX7_keepSounded 48 = .ok (.invokevirtual 93, 3) := yd_op_182 (i := 16) (a := 0) (b := 93) yd_by_cX7_keepSounded_1 rfl rfl
theorem dX7_keepSounded_51 : decode cX7_keepSounded 51 = .ok (.iconst 0, 1) := yd_op_3 (i := 19) yd_by_cX7_keepSounded_1 rfl rfl
theorem dX7_keepSounded_52 : decode cX7_keepSounded 52 = .ok (.istore 5, 2) := yd_op_54 (i := 20) (a := 5) yd_by_cX7_keepSounded_1 rfl rfl
theorem dX7_keepSounded_54 : decode cX7_keepSounded 54 = .ok (.iload 5, 2) := yd_op_21 (i := 22) (a := 5) yd_by_cX7_keepSounded_1 rfl rfl
theorem dX7_keepSounded_56 : decode cX7_keepSounded 56 = .ok (.aload_n 0, 1) := yd_op_42 (i := 24) yd_by_cX7_keepSounded_1 rfl rfl
theorem dX7_keepSounded_57 : decode cX7_keepSounded 57 = .ok (.getfield 32, 3) := yd_op_180 (i := 25) (a := 0) (b := 32) yd_by_cX7_keepSounded_1 rfl rfl
theorem dX7_keepSounded_60 : decode cX7_keepSounded 60 = .ok (.if_icmp .ge 43, 3) := yd_op_162 (i := 28) (a := 0) (b := 43) yd_by_cX7_keepSounded_1 rfl rfl
theorem dX7_keepSounded_63 : decode cX7_keepSounded 63 = .ok (.aload_n 0, 1) := yd_op_42 (i := 31) yd_by_cX7_keepSounded_1 rfl rfl
theorem dX7_keepSounded_64 : decode cX7_keepSounded 64 = .ok (.getfield 9, 3) := yd_op_180 (i := 32) (a := 0) (b := 9) yd_by_cX7_keepSounded_1 rfl rfl
set_option maxRecDepth 100000 in
theorem yd_by_cX7_keepSounded_2 : ydk cX7_keepSounded 67 [21, 5, 42, 180, 0, 9, 21, 5, 51, 153, 0, 19, 42, 180, 0, 15, 21, 5, 46, 21, 4, 160, 0, 7, 4, 167, 0, 4, 3, 84, 132, 5, 1, 167, 255, 210, 132, 2, 1, 167, 255, 157] = true := by decide +kernel
theorem dX7_keepSounded_67 : decode cX7_keepSounded 67 = .ok (.iload 5, 2) := yd_op_21 (i := 0) (a := 5) yd_by_cX7_keepSounded_2 rfl rfl
theorem dX7_keepSounded_69 : decode cX7_keepSounded 69 = .ok (.aload_n 0, 1) := yd_op_42 (i := 2) yd_by_cX7_keepSounded_2 rfl rfl
theorem dX7_keepSounded_70 : decode cX7_keepSounded 70 = .ok (.getfield 9, 3) := yd_op_180 (i := 3) (a := 0) (b := 9) yd_by_cX7_keepSounded_2 rfl rfl
theorem dX7_keepSounded_73 : decode cX7_keepSounded 73 = .ok (.iload 5, 2) := yd_op_21 (i := 6) (a := 5) yd_by_cX7_keepSounded_2 rfl rfl
theorem dX7_keepSounded_75 : decode cX7_keepSounded 75 = .ok (.baload, 1) := yd_op_51 (i := 8) yd_by_cX7_keepSounded_2 rfl rfl
theorem dX7_keepSounded_76 : decode cX7_keepSounded 76 = .ok (.ifCond .eq 19, 3) := yd_op_153 (i := 9) (a := 0) (b := 19) yd_by_cX7_keepSounded_2 rfl rfl
theorem dX7_keepSounded_79 : decode cX7_keepSounded 79 = .ok (.aload_n 0, 1) := yd_op_42 (i := 12) yd_by_cX7_keepSounded_2 rfl rfl
theorem dX7_keepSounded_80 : decode cX7_keepSounded 80 = .ok (.getfield 15, 3) := yd_op_180 (i := 13) (a := 0) (b := 15) yd_by_cX7_keepSounded_2 rfl rfl
theorem dX7_keepSounded_83 : decode cX7_keepSounded 83 = .ok (.iload 5, 2) := yd_op_21 (i := 16) (a := 5) yd_by_cX7_keepSounded_2 rfl rfl
theorem dX7_keepSounded_85 : decode cX7_keepSounded 85 = .ok (.iaload, 1) := yd_op_46 (i := 18) yd_by_cX7_keepSounded_2 rfl rfl
theorem dX7_keepSounded_86 : decode cX7_keepSounded 86 = .ok (.iload 4, 2) := yd_op_21 (i := 19) (a := 4) yd_by_cX7_keepSounded_2 rfl rfl
theorem dX7_keepSounded_88 : decode cX7_keepSounded 88 = .ok (.if_icmp .ne 7, 3) := yd_op_160 (i := 21) (a := 0) (b := 7) yd_by_cX7_keepSounded_2 rfl rfl
theorem dX7_keepSounded_91 : decode cX7_keepSounded 91 = .ok (.iconst 1, 1) := yd_op_4 (i := 24) yd_by_cX7_keepSounded_2 rfl rfl
theorem dX7_keepSounded_92 : decode cX7_keepSounded 92 = .ok (.goto 4, 3) := yd_op_167 (i := 25) (a := 0) (b := 4) yd_by_cX7_keepSounded_2 rfl rfl
theorem dX7_keepSounded_95 : decode cX7_keepSounded 95 = .ok (.iconst 0, 1) := yd_op_3 (i := 28) yd_by_cX7_keepSounded_2 rfl rfl
theorem dX7_keepSounded_96 : decode cX7_keepSounded 96 = .ok (.bastore, 1) := yd_op_84 (i := 29) yd_by_cX7_keepSounded_2 rfl rfl
theorem dX7_keepSounded_97 : decode cX7_keepSounded 97 = .ok (.iinc 5 1, 3) := yd_op_132 (i := 30) (a := 5) (b := 1) yd_by_cX7_keepSounded_2 rfl rfl
theorem dX7_keepSounded_100 : decode cX7_keepSounded 100 = .ok (.goto (-46), 3) := yd_op_167 (i := 33) (a := 255) (b := 210) yd_by_cX7_keepSounded_2 rfl rfl
theorem dX7_keepSounded_103 : decode cX7_keepSounded 103 = .ok (.iinc 2 1, 3) := yd_op_132 (i := 36) (a := 2) (b := 1) yd_by_cX7_keepSounded_2 rfl rfl
theorem dX7_keepSounded_106 : decode cX7_keepSounded 106 = .ok (.goto (-99), 3) := yd_op_167 (i := 39) (a := 255) (b := 157) yd_by_cX7_keepSounded_2 rfl rfl
set_option maxRecDepth 100000 in
theorem yd_by_cX7_keepSounded_3 : ydk cX7_keepSounded 109 [177] = true := by decide +kernel
theorem dX7_keepSounded_109 : decode cX7_keepSounded 109 = .ok (.return_, 1) := yd_op_177 (i := 0) yd_by_cX7_keepSounded_3 rfl rfl
set_option maxRecDepth 100000 in
theorem yd_by_cX7_howMany_0 : ydk cX7_howMany 0 [3, 60, 3, 61, 28, 42, 180, 0, 32, 162, 0, 21, 42, 180, 0, 9, 28, 51, 153, 0, 6, 132, 1, 1, 132, 2, 1, 167, 255, 233, 27, 172] = true := by decide +kernel
theorem dX7_howMany_0 : decode cX7_howMany 0 = .ok (.iconst 0, 1) := yd_op_3 (i := 0) yd_by_cX7_howMany_0 rfl rfl
theorem dX7_howMany_1 : decode cX7_howMany 1 = .ok (.istore_n 1, 1) := yd_op_60 (i := 1) yd_by_cX7_howMany_0 rfl rfl
theorem dX7_howMany_2 : decode cX7_howMany 2 = .ok (.iconst 0, 1) := yd_op_3 (i := 2) yd_by_cX7_howMany_0 rfl rfl
theorem dX7_howMany_3 : decode cX7_howMany 3 = .ok (.istore_n 2, 1) := yd_op_61 (i := 3) yd_by_cX7_howMany_0 rfl rfl
theorem dX7_howMany_4 : decode cX7_howMany 4 = .ok (.iload_n 2, 1) := yd_op_28 (i := 4) yd_by_cX7_howMany_0 rfl rfl
theorem dX7_howMany_5 : decode cX7_howMany 5 = .ok (.aload_n 0, 1) := yd_op_42 (i := 5) yd_by_cX7_howMany_0 rfl rfl
theorem dX7_howMany_6 : decode cX7_howMany 6 = .ok (.getfield 32, 3) := yd_op_180 (i := 6) (a := 0) (b := 32) yd_by_cX7_howMany_0 rfl rfl
theorem dX7_howMany_9 : decode cX7_howMany 9 = .ok (.if_icmp .ge 21, 3) := yd_op_162 (i := 9) (a := 0) (b := 21) yd_by_cX7_howMany_0 rfl rfl
theorem dX7_howMany_12 : decode cX7_howMany 12 = .ok (.aload_n 0, 1) := yd_op_42 (i := 12) yd_by_cX7_howMany_0 rfl rfl
theorem dX7_howMany_13 : decode cX7_howMany 13 = .ok (.getfield 9, 3) := yd_op_180 (i := 13) (a := 0) (b := 9) yd_by_cX7_howMany_0 rfl rfl
theorem dX7_howMany_16 : decode cX7_howMany 16 = .ok (.iload_n 2, 1) := yd_op_28 (i := 16) yd_by_cX7_howMany_0 rfl rfl
theorem dX7_howMany_17 : decode cX7_howMany 17 = .ok (.baload, 1) := yd_op_51 (i := 17) yd_by_cX7_howMany_0 rfl rfl
theorem dX7_howMany_18 : decode cX7_howMany 18 = .ok (.ifCond .eq 6, 3) := yd_op_153 (i := 18) (a := 0) (b := 6) yd_by_cX7_howMany_0 rfl rfl
theorem dX7_howMany_21 : decode cX7_howMany 21 = .ok (.iinc 1 1, 3) := yd_op_132 (i := 21) (a := 1) (b := 1) yd_by_cX7_howMany_0 rfl rfl
theorem dX7_howMany_24 : decode cX7_howMany 24 = .ok (.iinc 2 1, 3) := yd_op_132 (i := 24) (a := 2) (b := 1) yd_by_cX7_howMany_0 rfl rfl
theorem dX7_howMany_27 : decode cX7_howMany 27 = .ok (.goto (-23), 3) := yd_op_167 (i := 27) (a := 255) (b := 233) yd_by_cX7_howMany_0 rfl rfl
theorem dX7_howMany_30 : decode cX7_howMany 30 = .ok (.iload_n 1, 1) := yd_op_27 (i := 30) yd_by_cX7_howMany_0 rfl rfl
theorem dX7_howMany_31 : decode cX7_howMany 31 = .ok (.ireturn, 1) := yd_op_172 (i := 31) yd_by_cX7_howMany_0 rfl rfl
set_option maxRecDepth 100000 in
theorem yd_by_cX7_inAll_0 : ydk cX7_inAll 0 [2, 60, 3, 61, 28, 42, 180, 0, 32, 162, 0, 22, 42, 180, 0, 9, 28, 51, 153, 0, 7, 27, 28, 126, 60, 132, 2, 1, 167, 255, 232, 27] = true := by decide +kernel
theorem dX7_inAll_0 : decode cX7_inAll 0 = .ok (.iconst (-1), 1) := yd_op_2 (i := 0) yd_by_cX7_inAll_0 rfl rfl
theorem dX7_inAll_1 : decode cX7_inAll 1 = .ok (.istore_n 1, 1) := yd_op_60 (i := 1) yd_by_cX7_inAll_0 rfl rfl
theorem dX7_inAll_2 : decode cX7_inAll 2 = .ok (.iconst 0, 1) := yd_op_3 (i := 2) yd_by_cX7_inAll_0 rfl rfl
theorem dX7_inAll_3 : decode cX7_inAll 3 = .ok (.istore_n 2, 1) := yd_op_61 (i := 3) yd_by_cX7_inAll_0 rfl rfl
theorem dX7_inAll_4 : decode cX7_inAll 4 = .ok (.iload_n 2, 1) := yd_op_28 (i := 4) yd_by_cX7_inAll_0 rfl rfl
theorem dX7_inAll_5 : decode cX7_inAll 5 = .ok (.aload_n 0, 1) := yd_op_42 (i := 5) yd_by_cX7_inAll_0 rfl rfl
theorem dX7_inAll_6 : decode cX7_inAll 6 = .ok (.getfield 32, 3) := yd_op_180 (i := 6) (a := 0) (b := 32) yd_by_cX7_inAll_0 rfl rfl
theorem dX7_inAll_9 : decode cX7_inAll 9 = .ok (.if_icmp .ge 22, 3) := yd_op_162 (i := 9) (a := 0) (b := 22) yd_by_cX7_inAll_0 rfl rfl
theorem dX7_inAll_12 : decode cX7_inAll 12 = .ok (.aload_n 0, 1) := yd_op_42 (i := 12) yd_by_cX7_inAll_0 rfl rfl
theorem dX7_inAll_13 : decode cX7_inAll 13 = .ok (.getfield 9, 3) := yd_op_180 (i := 13) (a := 0) (b := 9) yd_by_cX7_inAll_0 rfl rfl
theorem dX7_inAll_16 : decode cX7_inAll 16 = .ok (.iload_n 2, 1) := yd_op_28 (i := 16) yd_by_cX7_inAll_0 rfl rfl
theorem dX7_inAll_17 : decode cX7_inAll 17 = .ok (.baload, 1) := yd_op_51 (i := 17) yd_by_cX7_inAll_0 rfl rfl
theorem dX7_inAll_18 : decode cX7_inAll 18 = .ok (.ifCond .eq 7, 3) := yd_op_153 (i := 18) (a := 0) (b := 7) yd_by_cX7_inAll_0 rfl rfl
theorem dX7_inAll_21 : decode cX7_inAll 21 = .ok (.iload_n 1, 1) := yd_op_27 (i := 21) yd_by_cX7_inAll_0 rfl rfl
theorem dX7_inAll_22 : decode cX7_inAll 22 = .ok (.iload_n 2, 1) := yd_op_28 (i := 22) yd_by_cX7_inAll_0 rfl rfl
theorem dX7_inAll_23 : decode cX7_inAll 23 = .ok (.iand, 1) := yd_op_126 (i := 23) yd_by_cX7_inAll_0 rfl rfl
theorem dX7_inAll_24 : decode cX7_inAll 24 = .ok (.istore_n 1, 1) := yd_op_60 (i := 24) yd_by_cX7_inAll_0 rfl rfl
theorem dX7_inAll_25 : decode cX7_inAll 25 = .ok (.iinc 2 1, 3) := yd_op_132 (i := 25) (a := 2) (b := 1) yd_by_cX7_inAll_0 rfl rfl
theorem dX7_inAll_28 : decode cX7_inAll 28 = .ok (.goto (-24), 3) := yd_op_167 (i := 28) (a := 255) (b := 232) yd_by_cX7_inAll_0 rfl rfl
theorem dX7_inAll_31 : decode cX7_inAll 31 = .ok (.iload_n 1, 1) := yd_op_27 (i := 31) yd_by_cX7_inAll_0 rfl rfl
set_option maxRecDepth 100000 in
theorem yd_by_cX7_inAll_1 : ydk cX7_inAll 32 [2, 160, 0, 7, 3, 167, 0, 4, 27, 172] = true := by decide +kernel
theorem dX7_inAll_32 : decode cX7_inAll 32 = .ok (.iconst (-1), 1) := yd_op_2 (i := 0) yd_by_cX7_inAll_1 rfl rfl
theorem dX7_inAll_33 : decode cX7_inAll 33 = .ok (.if_icmp .ne 7, 3) := yd_op_160 (i := 1) (a := 0) (b := 7) yd_by_cX7_inAll_1 rfl rfl
theorem dX7_inAll_36 : decode cX7_inAll 36 = .ok (.iconst 0, 1) := yd_op_3 (i := 4) yd_by_cX7_inAll_1 rfl rfl
theorem dX7_inAll_37 : decode cX7_inAll 37 = .ok (.goto 4, 3) := yd_op_167 (i := 5) (a := 0) (b := 4) yd_by_cX7_inAll_1 rfl rfl
theorem dX7_inAll_40 : decode cX7_inAll 40 = .ok (.iload_n 1, 1) := yd_op_27 (i := 8) yd_by_cX7_inAll_1 rfl rfl
theorem dX7_inAll_41 : decode cX7_inAll 41 = .ok (.ireturn, 1) := yd_op_172 (i := 9) yd_by_cX7_inAll_1 rfl rfl
set_option maxRecDepth 100000 in
theorem yd_by_cX7_inSome_0 : ydk cX7_inSome 0 [3, 60, 3, 61, 28, 42, 180, 0, 32, 162, 0, 22, 42, 180, 0, 9, 28, 51, 153, 0, 7, 27, 28, 128, 60, 132, 2, 1, 167, 255, 232, 27] = true := by decide +kernel
theorem dX7_inSome_0 : decode cX7_inSome 0 = .ok (.iconst 0, 1) := yd_op_3 (i := 0) yd_by_cX7_inSome_0 rfl rfl
theorem dX7_inSome_1 : decode cX7_inSome 1 = .ok (.istore_n 1, 1) := yd_op_60 (i := 1) yd_by_cX7_inSome_0 rfl rfl
theorem dX7_inSome_2 : decode cX7_inSome 2 = .ok (.iconst 0, 1) := yd_op_3 (i := 2) yd_by_cX7_inSome_0 rfl rfl
theorem dX7_inSome_3 : decode cX7_inSome 3 = .ok (.istore_n 2, 1) := yd_op_61 (i := 3) yd_by_cX7_inSome_0 rfl rfl
theorem dX7_inSome_4 : decode cX7_inSome 4 = .ok (.iload_n 2, 1) := yd_op_28 (i := 4) yd_by_cX7_inSome_0 rfl rfl
theorem dX7_inSome_5 : decode cX7_inSome 5 = .ok (.aload_n 0, 1) := yd_op_42 (i := 5) yd_by_cX7_inSome_0 rfl rfl
theorem dX7_inSome_6 : decode cX7_inSome 6 = .ok (.getfield 32, 3) := yd_op_180 (i := 6) (a := 0) (b := 32) yd_by_cX7_inSome_0 rfl rfl
theorem dX7_inSome_9 : decode cX7_inSome 9 = .ok (.if_icmp .ge 22, 3) := yd_op_162 (i := 9) (a := 0) (b := 22) yd_by_cX7_inSome_0 rfl rfl
theorem dX7_inSome_12 : decode cX7_inSome 12 = .ok (.aload_n 0, 1) := yd_op_42 (i := 12) yd_by_cX7_inSome_0 rfl rfl
theorem dX7_inSome_13 : decode cX7_inSome 13 = .ok (.getfield 9, 3) := yd_op_180 (i := 13) (a := 0) (b := 9) yd_by_cX7_inSome_0 rfl rfl
theorem dX7_inSome_16 : decode cX7_inSome 16 = .ok (.iload_n 2, 1) := yd_op_28 (i := 16) yd_by_cX7_inSome_0 rfl rfl
theorem dX7_inSome_17 : decode cX7_inSome 17 = .ok (.baload, 1) := yd_op_51 (i := 17) yd_by_cX7_inSome_0 rfl rfl
theorem dX7_inSome_18 : decode cX7_inSome 18 = .ok (.ifCond .eq 7, 3) := yd_op_153 (i := 18) (a := 0) (b := 7) yd_by_cX7_inSome_0 rfl rfl
theorem dX7_inSome_21 : decode cX7_inSome 21 = .ok (.iload_n 1, 1) := yd_op_27 (i := 21) yd_by_cX7_inSome_0 rfl rfl
theorem dX7_inSome_22 : decode cX7_inSome 22 = .ok (.iload_n 2, 1) := yd_op_28 (i := 22) yd_by_cX7_inSome_0 rfl rfl
theorem dX7_inSome_23 : decode cX7_inSome 23 = .ok (.ior, 1) := yd_op_128 (i := 23) yd_by_cX7_inSome_0 rfl rfl
theorem dX7_inSome_24 : decode cX7_inSome 24 = .ok (.istore_n 1, 1) := yd_op_60 (i := 24) yd_by_cX7_inSome_0 rfl rfl
theorem dX7_inSome_25 : decode cX7_inSome 25 = .ok (.iinc 2 1, 3) := yd_op_132 (i := 25) (a := 2) (b := 1) yd_by_cX7_inSome_0 rfl rfl
theorem dX7_inSome_28 : decode cX7_inSome 28 = .ok (.goto (-24), 3) := yd_op_167 (i := 28) (a := 255) (b := 232) yd_by_cX7_inSome_0 rfl rfl
theorem dX7_inSome_31 : decode cX7_inSome 31 = .ok (.iload_n 1, 1) := yd_op_27 (i := 31) yd_by_cX7_inSome_0 rfl rfl
set_option maxRecDepth 100000 in
theorem yd_by_cX7_inSome_1 : ydk cX7_inSome 32 [172] = true := by decide +kernel
theorem dX7_inSome_32 : decode cX7_inSome 32 = .ok (.ireturn, 1) := yd_op_172 (i := 0) yd_by_cX7_inSome_1 rfl rfl
set_option maxRecDepth 100000 in
theorem yd_by_cX7_fewest_0 : ydk cX7_fewest 0 [42, 43, 182, 0, 83, 3, 61, 28, 43, 180, 0, 57, 182, 0, 97, 162, 0, 96, 43, 180, 0, 90, 28, 46, 43, 180, 0, 57, 180, 0, 87, 100, 62, 29] = true := by decide +kernel
theorem dX7_fewest_0 : decode cX7_fewest 0 = .ok (.aload_n 0, 1) := yd_op_42 (i := 0) yd_by_cX7_fewest_0 rfl rfl
theorem dX7_fewest_1 : decode cX7_fewest 1 = .ok (.aload_n 1, 1) := yd_op_43 (i := 1) yd_by_cX7_fewest_0 rfl rfl
theorem dX7_fewest_2 : decode cX7_fewest 2 = .ok (.invokevirtual 83, 3) := yd_op_182 (i := 2) (a := 0) (b := 83) yd_by_cX7_fewest_0 rfl rfl
theorem dX7_fewest_5 : decode cX7_fewest 5 = .ok (.iconst 0, 1) := yd_op_3 (i := 5) yd_by_cX7_fewest_0 rfl rfl
theorem dX7_fewest_6 : decode cX7_fewest 6 = .ok (.istore_n 2, 1) := yd_op_61 (i := 6) yd_by_cX7_fewest_0 rfl rfl
theorem dX7_fewest_7 : decode cX7_fewest 7 = .ok (.iload_n 2, 1) := yd_op_28 (i := 7) yd_by_cX7_fewest_0 rfl rfl
theorem dX7_fewest_8 : decode cX7_fewest 8 = .ok (.aload_n 1, 1) := yd_op_43 (i := 8) yd_by_cX7_fewest_0 rfl rfl
theorem dX7_fewest_9 : decode cX7_fewest 9 = .ok (.getfield 57, 3) := yd_op_180 (i := 9) (a := 0) (b := 57) yd_by_cX7_fewest_0 rfl rfl
theorem dX7_fewest_12 : decode cX7_fewest 12 = .ok (.invokevirtual 97, 3) := yd_op_182 (i := 12) (a := 0) (b := 97) yd_by_cX7_fewest_0 rfl rfl
theorem dX7_fewest_15 : decode cX7_fewest 15 = .ok (.if_icmp .ge 96, 3) := yd_op_162 (i := 15) (a := 0) (b := 96) yd_by_cX7_fewest_0 rfl rfl
theorem dX7_fewest_18 : decode cX7_fewest 18 = .ok (.aload_n 1, 1) := yd_op_43 (i := 18) yd_by_cX7_fewest_0 rfl rfl
theorem dX7_fewest_19 : decode cX7_fewest 19 = .ok (.getfield 90, 3) := yd_op_180 (i := 19) (a := 0) (b := 90) yd_by_cX7_fewest_0 rfl rfl
theorem dX7_fewest_22 : decode cX7_fewest 22 = .ok (.iload_n 2, 1) := yd_op_28 (i := 22) yd_by_cX7_fewest_0 rfl rfl
theorem dX7_fewest_23 : decode cX7_fewest 23 = .ok (.iaload, 1) := yd_op_46 (i := 23) yd_by_cX7_fewest_0 rfl rfl
theorem dX7_fewest_24 : decode cX7_fewest 24 = .ok (.aload_n 1, 1) := yd_op_43 (i := 24) yd_by_cX7_fewest_0 rfl rfl
theorem dX7_fewest_25 : decode cX7_fewest 25 = .ok (.getfield 57, 3) := yd_op_180 (i := 25) (a := 0) (b := 57) yd_by_cX7_fewest_0 rfl rfl
theorem dX7_fewest_28 : decode cX7_fewest 28 = .ok (.getfield 87, 3) := yd_op_180 (i := 28) (a := 0) (b := 87) yd_by_cX7_fewest_0 rfl rfl
theorem dX7_fewest_31 : decode cX7_fewest 31 = .ok (.isub, 1) := yd_op_100 (i := 31) yd_by_cX7_fewest_0 rfl rfl
theorem dX7_fewest_32 : decode cX7_fewest 32 = .ok (.istore_n 3, 1) := yd_op_62 (i := 32) yd_by_cX7_fewest_0 rfl rfl
theorem dX7_fewest_33 : decode cX7_fewest 33 = .ok (.iload_n 3, 1) := yd_op_29 (i := 33) yd_by_cX7_fewest_0 rfl rfl
set_option maxRecDepth 100000 in
theorem yd_by_cX7_fewest_1 : ydk cX7_fewest 34 [158, 0, 71, 43, 180, 0, 71, 28, 182, 0, 101, 154, 0, 60, 42, 43, 28, 182, 0, 93, 3, 54, 4, 21, 4, 42, 180, 0, 32, 162, 0, 42, 42, 180, 0, 9, 21, 4, 42] = true := by decide +kernel
theorem dX7_fewest_34 : decode cX7_fewest 34 = .ok (.ifCond .le 71, 3) := yd_op_158 (i := 0) (a := 0) (b := 71) yd_by_cX7_fewest_1 rfl rfl
theorem dX7_fewest_37 : decode cX7_fewest 37 = .ok (.aload_n 1, 1) := yd_op_43 (i := 3) yd_by_cX7_fewest_1 rfl rfl
theorem dX7_fewest_38 : decode cX7_fewest 38 = .ok (.getfield 71, 3) := yd_op_180 (i := 4) (a := 0) (b := 71) yd_by_cX7_fewest_1 rfl rfl
theorem dX7_fewest_41 : decode cX7_fewest 41 = .ok (.iload_n 2, 1) := yd_op_28 (i := 7) yd_by_cX7_fewest_1 rfl rfl
theorem dX7_fewest_42 : decode cX7_fewest 42 = .ok (.invokevirtual 101, 3) := yd_op_182 (i := 8) (a := 0) (b := 101) yd_by_cX7_fewest_1 rfl rfl
theorem dX7_fewest_45 : decode cX7_fewest 45 = .ok (.ifCond .ne 60, 3) := yd_op_154 (i := 11) (a := 0) (b := 60) yd_by_cX7_fewest_1 rfl rfl
theorem dX7_fewest_48 : decode cX7_fewest 48 = .ok (.aload_n 0, 1) := yd_op_42 (i := 14) yd_by_cX7_fewest_1 rfl rfl
theorem dX7_fewest_49 : decode cX7_fewest 49 = .ok (.aload_n 1, 1) := yd_op_43 (i := 15) yd_by_cX7_fewest_1 rfl rfl
theorem dX7_fewest_50 : decode cX7_fewest 50 = .ok (.iload_n 2, 1) := yd_op_28 (i := 16) yd_by_cX7_fewest_1 rfl rfl
theorem dX7_fewest_51 : decode cX7_fewest 51 = .ok (.invokevirtual 93, 3) := yd_op_182 (i := 17) (a := 0) (b := 93) yd_by_cX7_fewest_1 rfl rfl
theorem dX7_fewest_54 : decode cX7_fewest 54 = .ok (.iconst 0, 1) := yd_op_3 (i := 20) yd_by_cX7_fewest_1 rfl rfl
theorem dX7_fewest_55 : decode cX7_fewest 55 = .ok (.istore 4, 2) := yd_op_54 (i := 21) (a := 4) yd_by_cX7_fewest_1 rfl rfl
theorem dX7_fewest_57 : decode cX7_fewest 57 = .ok (.iload 4, 2) := yd_op_21 (i := 23) (a := 4) yd_by_cX7_fewest_1 rfl rfl
theorem dX7_fewest_59 : decode cX7_fewest 59 = .ok (.aload_n 0, 1) := yd_op_42 (i := 25) yd_by_cX7_fewest_1 rfl rfl
theorem dX7_fewest_60 : decode cX7_fewest 60 = .ok (.getfield 32, 3) := yd_op_180 (i := 26) (a := 0) (b := 32) yd_by_cX7_fewest_1 rfl rfl
theorem dX7_fewest_63 : decode cX7_fewest 63 = .ok (.if_icmp .ge 42, 3) := yd_op_162 (i := 29) (a := 0) (b := 42) yd_by_cX7_fewest_1 rfl rfl
theorem dX7_fewest_66 : decode cX7_fewest 66 = .ok (.aload_n 0, 1) := yd_op_42 (i := 32) yd_by_cX7_fewest_1 rfl rfl
theorem dX7_fewest_67 : decode cX7_fewest 67 = .ok (.getfield 9, 3) := yd_op_180 (i := 33) (a := 0) (b := 9) yd_by_cX7_fewest_1 rfl rfl
theorem dX7_fewest_70 : decode cX7_fewest 70 = .ok (.iload 4, 2) := yd_op_21 (i := 36) (a := 4) yd_by_cX7_fewest_1 rfl rfl
theorem dX7_fewest_72 : decode cX7_fewest 72 = .ok (.aload_n 0, 1) := yd_op_42 (i := 38) yd_by_cX7_fewest_1 rfl rfl
set_option maxRecDepth 100000 in
theorem yd_by_cX7_fewest_2 : ydk cX7_fewest 73 [180, 0, 9, 21, 4, 51, 153, 0, 18, 42, 180, 0, 15, 21, 4, 46, 29, 161, 0, 7, 4, 167, 0, 4, 3, 84, 132, 4, 1, 167, 255, 211, 132, 2, 1, 167, 255, 155, 2, 61] = true := by decide +kernel
theorem dX7_fewest_73 : decode cX7_fewest 73 = .ok (.getfield 9, 3) := yd_op_180 (i := 0) (a := 0) (b := 9) yd_by_cX7_fewest_2 rfl rfl
theorem dX7_fewest_76 : decode cX7_fewest 76 = .ok (.iload 4, 2) := yd_op_21 (i := 3) (a := 4) yd_by_cX7_fewest_2 rfl rfl
theorem dX7_fewest_78 : decode cX7_fewest 78 = .ok (.baload, 1) := yd_op_51 (i := 5) yd_by_cX7_fewest_2 rfl rfl
theorem dX7_fewest_79 : decode cX7_fewest 79 = .ok (.ifCond .eq 18, 3) := yd_op_153 (i := 6) (a := 0) (b := 18) yd_by_cX7_fewest_2 rfl rfl
theorem dX7_fewest_82 : decode cX7_fewest 82 = .ok (.aload_n 0, 1) := yd_op_42 (i := 9) yd_by_cX7_fewest_2 rfl rfl
theorem dX7_fewest_83 : decode cX7_fewest 83 = .ok (.getfield 15, 3) := yd_op_180 (i := 10) (a := 0) (b := 15) yd_by_cX7_fewest_2 rfl rfl
theorem dX7_fewest_86 : decode cX7_fewest 86 = .ok (.iload 4, 2) := yd_op_21 (i := 13) (a := 4) yd_by_cX7_fewest_2 rfl rfl
theorem dX7_fewest_88 : decode cX7_fewest 88 = .ok (.iaload, 1) := yd_op_46 (i := 15) yd_by_cX7_fewest_2 rfl rfl
theorem dX7_fewest_89 : decode cX7_fewest 89 = .ok (.iload_n 3, 1) := yd_op_29 (i := 16) yd_by_cX7_fewest_2 rfl rfl
theorem dX7_fewest_90 : decode cX7_fewest 90 = .ok (.if_icmp .lt 7, 3) := yd_op_161 (i := 17) (a := 0) (b := 7) yd_by_cX7_fewest_2 rfl rfl
theorem dX7_fewest_93 : decode cX7_fewest 93 = .ok (.iconst 1, 1) := yd_op_4 (i := 20) yd_by_cX7_fewest_2 rfl rfl
theorem dX7_fewest_94 : decode cX7_fewest 94 = .ok (.goto 4, 3) := yd_op_167 (i := 21) (a := 0) (b := 4) yd_by_cX7_fewest_2 rfl rfl
theorem dX7_fewest_97 : decode cX7_fewest 97 = .ok (.iconst 0, 1) := yd_op_3 (i := 24) yd_by_cX7_fewest_2 rfl rfl
theorem dX7_fewest_98 : decode cX7_fewest 98 = .ok (.bastore, 1) := yd_op_84 (i := 25) yd_by_cX7_fewest_2 rfl rfl
theorem dX7_fewest_99 : decode cX7_fewest 99 = .ok (.iinc 4 1, 3) := yd_op_132 (i := 26) (a := 4) (b := 1) yd_by_cX7_fewest_2 rfl rfl
theorem dX7_fewest_102 : decode cX7_fewest 102 = .ok (.goto (-45), 3) := yd_op_167 (i := 29) (a := 255) (b := 211) yd_by_cX7_fewest_2 rfl rfl
theorem dX7_fewest_105 : decode cX7_fewest 105 = .ok (.iinc 2 1, 3) := yd_op_132 (i := 32) (a := 2) (b := 1) yd_by_cX7_fewest_2 rfl rfl
theorem dX7_fewest_108 : decode cX7_fewest 108 = .ok (.goto (-101), 3) := yd_op_167 (i := 35) (a := 255) (b := 155) yd_by_cX7_fewest_2 rfl rfl
theorem dX7_fewest_111 : decode cX7_fewest 111 = .ok (.iconst (-1), 1) := yd_op_2 (i := 38) yd_by_cX7_fewest_2 rfl rfl
theorem dX7_fewest_112 : decode cX7_fewest 112 = .ok (.istore_n 2, 1) := yd_op_61 (i := 39) yd_by_cX7_fewest_2 rfl rfl
set_option maxRecDepth 100000 in
theorem yd_by_cX7_fewest_3 : ydk cX7_fewest 113 [3, 62, 29, 42, 180, 0, 32, 162, 0, 36, 42, 180, 0, 9, 29, 51, 153, 0, 21, 28, 2, 159, 0, 14, 29, 184, 0, 105, 28, 184, 0, 105, 162, 0, 5, 29] = true := by decide +kernel
theorem dX7_fewest_113 : decode cX7_fewest 113 = .ok (.iconst 0, 1) := yd_op_3 (i := 0) yd_by_cX7_fewest_3 rfl rfl
theorem dX7_fewest_114 : decode cX7_fewest 114 = .ok (.istore_n 3, 1) := yd_op_62 (i := 1) yd_by_cX7_fewest_3 rfl rfl
theorem dX7_fewest_115 : decode cX7_fewest 115 = .ok (.iload_n 3, 1) := yd_op_29 (i := 2) yd_by_cX7_fewest_3 rfl rfl
theorem dX7_fewest_116 : decode cX7_fewest 116 = .ok (.aload_n 0, 1) := yd_op_42 (i := 3) yd_by_cX7_fewest_3 rfl rfl
theorem dX7_fewest_117 : decode cX7_fewest 117 = .ok (.getfield 32, 3) := yd_op_180 (i := 4) (a := 0) (b := 32) yd_by_cX7_fewest_3 rfl rfl
theorem dX7_fewest_120 : decode cX7_fewest 120 = .ok (.if_icmp .ge 36, 3) := yd_op_162 (i := 7) (a := 0) (b := 36) yd_by_cX7_fewest_3 rfl rfl
theorem dX7_fewest_123 : decode cX7_fewest 123 = .ok (.aload_n 0, 1) := yd_op_42 (i := 10) yd_by_cX7_fewest_3 rfl rfl
theorem dX7_fewest_124 : decode cX7_fewest 124 = .ok (.getfield 9, 3) := yd_op_180 (i := 11) (a := 0) (b := 9) yd_by_cX7_fewest_3 rfl rfl
theorem dX7_fewest_127 : decode cX7_fewest 127 = .ok (.iload_n 3, 1) := yd_op_29 (i := 14) yd_by_cX7_fewest_3 rfl rfl
theorem dX7_fewest_128 : decode cX7_fewest 128 = .ok (.baload, 1) := yd_op_51 (i := 15) yd_by_cX7_fewest_3 rfl rfl
theorem dX7_fewest_129 : decode cX7_fewest 129 = .ok (.ifCond .eq 21, 3) := yd_op_153 (i := 16) (a := 0) (b := 21) yd_by_cX7_fewest_3 rfl rfl
theorem dX7_fewest_132 : decode cX7_fewest 132 = .ok (.iload_n 2, 1) := yd_op_28 (i := 19) yd_by_cX7_fewest_3 rfl rfl
theorem dX7_fewest_133 : decode cX7_fewest 133 = .ok (.iconst (-1), 1) := yd_op_2 (i := 20) yd_by_cX7_fewest_3 rfl rfl
theorem dX7_fewest_134 : decode cX7_fewest 134 = .ok (.if_icmp .eq 14, 3) := yd_op_159 (i := 21) (a := 0) (b := 14) yd_by_cX7_fewest_3 rfl rfl
theorem dX7_fewest_137 : decode cX7_fewest 137 = .ok (.iload_n 3, 1) := yd_op_29 (i := 24) yd_by_cX7_fewest_3 rfl rfl
theorem dX7_fewest_138 : decode cX7_fewest 138 = .ok (.invokestatic 105, 3) := yd_op_184 (i := 25) (a := 0) (b := 105) yd_by_cX7_fewest_3 rfl rfl
theorem dX7_fewest_141 : decode cX7_fewest 141 = .ok (.iload_n 2, 1) := yd_op_28 (i := 28) yd_by_cX7_fewest_3 rfl rfl
theorem dX7_fewest_142 : decode cX7_fewest 142 = .ok (.invokestatic 105, 3) := yd_op_184 (i := 29) (a := 0) (b := 105) yd_by_cX7_fewest_3 rfl rfl
theorem dX7_fewest_145 : decode cX7_fewest 145 = .ok (.if_icmp .ge 5, 3) := yd_op_162 (i := 32) (a := 0) (b := 5) yd_by_cX7_fewest_3 rfl rfl
theorem dX7_fewest_148 : decode cX7_fewest 148 = .ok (.iload_n 3, 1) := yd_op_29 (i := 35) yd_by_cX7_fewest_3 rfl rfl
set_option maxRecDepth 100000 in
theorem yd_by_cX7_fewest_4 : ydk cX7_fewest 149 [61, 132, 3, 1, 167, 255, 218, 28, 172] = true := by decide +kernel
theorem dX7_fewest_149 : decode cX7_fewest 149 = .ok (.istore_n 2, 1) := yd_op_61 (i := 0) yd_by_cX7_fewest_4 rfl rfl
theorem dX7_fewest_150 : decode cX7_fewest 150 = .ok (.iinc 3 1, 3) := yd_op_132 (i := 1) (a := 3) (b := 1) yd_by_cX7_fewest_4 rfl rfl
theorem dX7_fewest_153 : decode cX7_fewest 153 = .ok (.goto (-38), 3) := yd_op_167 (i := 4) (a := 255) (b := 218) yd_by_cX7_fewest_4 rfl rfl
theorem dX7_fewest_156 : decode cX7_fewest 156 = .ok (.iload_n 2, 1) := yd_op_28 (i := 7) yd_by_cX7_fewest_4 rfl rfl
theorem dX7_fewest_157 : decode cX7_fewest 157 = .ok (.ireturn, 1) := yd_op_172 (i := 8) yd_by_cX7_fewest_4 rfl rfl
set_option maxRecDepth 100000 in
theorem yd_by_cX7_bestKnock_0 : ydk cX7_bestKnock 0 [42, 182, 0, 110, 154, 0, 5, 2, 172, 2, 61, 3, 62, 29, 43, 180, 0, 57, 182, 0, 97, 162, 0, 49, 43, 180, 0, 71, 29, 182, 0, 101, 154, 0, 32, 29] = true := by decide +kernel
theorem dX7_bestKnock_0 : decode cX7_bestKnock 0 = .ok (.aload_n 0, 1) := yd_op_42 (i := 0) yd_by_cX7_bestKnock_0 rfl rfl
theorem dX7_bestKnock_1 : decode cX7_bestKnock 1 = .ok (.invokevirtual 110, 3) := yd_op_182 (i := 1) (a := 0) (b := 110) yd_by_cX7_bestKnock_0 rfl rfl
theorem dX7_bestKnock_4 : decode cX7_bestKnock 4 = .ok (.ifCond .ne 5, 3) := yd_op_154 (i := 4) (a := 0) (b := 5) yd_by_cX7_bestKnock_0 rfl rfl
theorem dX7_bestKnock_7 : decode cX7_bestKnock 7 = .ok (.iconst (-1), 1) := yd_op_2 (i := 7) yd_by_cX7_bestKnock_0 rfl rfl
theorem dX7_bestKnock_8 : decode cX7_bestKnock 8 = .ok (.ireturn, 1) := yd_op_172 (i := 8) yd_by_cX7_bestKnock_0 rfl rfl
theorem dX7_bestKnock_9 : decode cX7_bestKnock 9 = .ok (.iconst (-1), 1) := yd_op_2 (i := 9) yd_by_cX7_bestKnock_0 rfl rfl
theorem dX7_bestKnock_10 : decode cX7_bestKnock 10 = .ok (.istore_n 2, 1) := yd_op_61 (i := 10) yd_by_cX7_bestKnock_0 rfl rfl
theorem dX7_bestKnock_11 : decode cX7_bestKnock 11 = .ok (.iconst 0, 1) := yd_op_3 (i := 11) yd_by_cX7_bestKnock_0 rfl rfl
theorem dX7_bestKnock_12 : decode cX7_bestKnock 12 = .ok (.istore_n 3, 1) := yd_op_62 (i := 12) yd_by_cX7_bestKnock_0 rfl rfl
theorem dX7_bestKnock_13 : decode cX7_bestKnock 13 = .ok (.iload_n 3, 1) := yd_op_29 (i := 13) yd_by_cX7_bestKnock_0 rfl rfl
theorem dX7_bestKnock_14 : decode cX7_bestKnock 14 = .ok (.aload_n 1, 1) := yd_op_43 (i := 14) yd_by_cX7_bestKnock_0 rfl rfl
theorem dX7_bestKnock_15 : decode cX7_bestKnock 15 = .ok (.getfield 57, 3) := yd_op_180 (i := 15) (a := 0) (b := 57) yd_by_cX7_bestKnock_0 rfl rfl
theorem dX7_bestKnock_18 : decode cX7_bestKnock 18 = .ok (.invokevirtual 97, 3) := yd_op_182 (i := 18) (a := 0) (b := 97) yd_by_cX7_bestKnock_0 rfl rfl
theorem dX7_bestKnock_21 : decode cX7_bestKnock 21 = .ok (.if_icmp .ge 49, 3) := yd_op_162 (i := 21) (a := 0) (b := 49) yd_by_cX7_bestKnock_0 rfl rfl
theorem dX7_bestKnock_24 : decode cX7_bestKnock 24 = .ok (.aload_n 1, 1) := yd_op_43 (i := 24) yd_by_cX7_bestKnock_0 rfl rfl
theorem dX7_bestKnock_25 : decode cX7_bestKnock 25 = .ok (.getfield 71, 3) := yd_op_180 (i := 25) (a := 0) (b := 71) yd_by_cX7_bestKnock_0 rfl rfl
theorem dX7_bestKnock_28 : decode cX7_bestKnock 28 = .ok (.iload_n 3, 1) := yd_op_29 (i := 28) yd_by_cX7_bestKnock_0 rfl rfl
theorem dX7_bestKnock_29 : decode cX7_bestKnock 29 = .ok (.invokevirtual 101, 3) := yd_op_182 (i := 29) (a := 0) (b := 101) yd_by_cX7_bestKnock_0 rfl rfl
theorem dX7_bestKnock_32 : decode cX7_bestKnock 32 = .ok (.ifCond .ne 32, 3) := yd_op_154 (i := 32) (a := 0) (b := 32) yd_by_cX7_bestKnock_0 rfl rfl
theorem dX7_bestKnock_35 : decode cX7_bestKnock 35 = .ok (.iload_n 3, 1) := yd_op_29 (i := 35) yd_by_cX7_bestKnock_0 rfl rfl
set_option maxRecDepth 100000 in
theorem yd_by_cX7_bestKnock_1 : ydk cX7_bestKnock 36 [42, 43, 29, 182, 0, 113, 184, 0, 117, 54, 4, 28, 2, 160, 0, 8, 21, 4, 167, 0, 9, 28, 21, 4, 184, 0, 66, 61, 132, 3, 1, 167, 255, 202, 28, 172] = true := by decide +kernel
theorem dX7_bestKnock_36 : decode cX7_bestKnock 36 = .ok (.aload_n 0, 1) := yd_op_42 (i := 0) yd_by_cX7_bestKnock_1 rfl rfl
theorem dX7_bestKnock_37 : decode cX7_bestKnock 37 = .ok (.aload_n 1, 1) := yd_op_43 (i := 1) yd_by_cX7_bestKnock_1 rfl rfl
theorem dX7_bestKnock_38 : decode cX7_bestKnock 38 = .ok (.iload_n 3, 1) := yd_op_29 (i := 2) yd_by_cX7_bestKnock_1 rfl rfl
theorem dX7_bestKnock_39 : decode cX7_bestKnock 39 = .ok (.invokevirtual 113, 3) := yd_op_182 (i := 3) (a := 0) (b := 113) yd_by_cX7_bestKnock_1 rfl rfl
theorem dX7_bestKnock_42 : decode cX7_bestKnock 42 = .ok (.invokestatic 117, 3) := yd_op_184 (i := 6) (a := 0) (b := 117) yd_by_cX7_bestKnock_1 rfl rfl
theorem dX7_bestKnock_45 : decode cX7_bestKnock 45 = .ok (.istore 4, 2) := yd_op_54 (i := 9) (a := 4) yd_by_cX7_bestKnock_1 rfl rfl
theorem dX7_bestKnock_47 : decode cX7_bestKnock 47 = .ok (.iload_n 2, 1) := yd_op_28 (i := 11) yd_by_cX7_bestKnock_1 rfl rfl
theorem dX7_bestKnock_48 : decode cX7_bestKnock 48 = .ok (.iconst (-1), 1) := yd_op_2 (i := 12) yd_by_cX7_bestKnock_1 rfl rfl
theorem dX7_bestKnock_49 : decode cX7_bestKnock 49 = .ok (.if_icmp .ne 8, 3) := yd_op_160 (i := 13) (a := 0) (b := 8) yd_by_cX7_bestKnock_1 rfl rfl
theorem dX7_bestKnock_52 : decode cX7_bestKnock 52 = .ok (.iload 4, 2) := yd_op_21 (i := 16) (a := 4) yd_by_cX7_bestKnock_1 rfl rfl
theorem dX7_bestKnock_54 : decode cX7_bestKnock 54 = .ok (.goto 9, 3) := yd_op_167 (i := 18) (a := 0) (b := 9) yd_by_cX7_bestKnock_1 rfl rfl
theorem dX7_bestKnock_57 : decode cX7_bestKnock 57 = .ok (.iload_n 2, 1) := yd_op_28 (i := 21) yd_by_cX7_bestKnock_1 rfl rfl
theorem dX7_bestKnock_58 : decode cX7_bestKnock 58 = .ok (.iload 4, 2) := yd_op_21 (i := 22) (a := 4) yd_by_cX7_bestKnock_1 rfl rfl
theorem dX7_bestKnock_60 : decode cX7_bestKnock 60 = .ok (.invokestatic 66, 3) := yd_op_184 (i := 24) (a := 0) (b := 66) yd_by_cX7_bestKnock_1 rfl rfl
theorem dX7_bestKnock_63 : decode cX7_bestKnock 63 = .ok (.istore_n 2, 1) := yd_op_61 (i := 27) yd_by_cX7_bestKnock_1 rfl rfl
theorem dX7_bestKnock_64 : decode cX7_bestKnock 64 = .ok (.iinc 3 1, 3) := yd_op_132 (i := 28) (a := 3) (b := 1) yd_by_cX7_bestKnock_1 rfl rfl
theorem dX7_bestKnock_67 : decode cX7_bestKnock 67 = .ok (.goto (-54), 3) := yd_op_167 (i := 31) (a := 255) (b := 202) yd_by_cX7_bestKnock_1 rfl rfl
theorem dX7_bestKnock_70 : decode cX7_bestKnock 70 = .ok (.iload_n 2, 1) := yd_op_28 (i := 34) yd_by_cX7_bestKnock_1 rfl rfl
theorem dX7_bestKnock_71 : decode cX7_bestKnock 71 = .ok (.ireturn, 1) := yd_op_172 (i := 35) yd_by_cX7_bestKnock_1 rfl rfl
set_option maxRecDepth 100000 in
theorem yd_by_cX7_mostAlike_0 : ydk cX7_mostAlike 0 [3, 62, 29, 17, 3, 222, 163, 0, 16, 42, 180, 0, 19, 29, 3, 79, 132, 3, 1, 167, 255, 239, 42, 43, 28, 182, 0, 93, 3, 62, 3, 54, 4] = true := by decide +kernel
theorem dX7_mostAlike_0 : decode cX7_mostAlike 0 = .ok (.iconst 0, 1) := yd_op_3 (i := 0) yd_by_cX7_mostAlike_0 rfl rfl
theorem dX7_mostAlike_1 : decode cX7_mostAlike 1 = .ok (.istore_n 3, 1) := yd_op_62 (i := 1) yd_by_cX7_mostAlike_0 rfl rfl
theorem dX7_mostAlike_2 : decode cX7_mostAlike 2 = .ok (.iload_n 3, 1) := yd_op_29 (i := 2) yd_by_cX7_mostAlike_0 rfl rfl
theorem dX7_mostAlike_3 : decode cX7_mostAlike 3 = .ok (.sipush 990, 3) := yd_op_17 (i := 3) (a := 3) (b := 222) yd_by_cX7_mostAlike_0 rfl rfl
theorem dX7_mostAlike_6 : decode cX7_mostAlike 6 = .ok (.if_icmp .gt 16, 3) := yd_op_163 (i := 6) (a := 0) (b := 16) yd_by_cX7_mostAlike_0 rfl rfl
theorem dX7_mostAlike_9 : decode cX7_mostAlike 9 = .ok (.aload_n 0, 1) := yd_op_42 (i := 9) yd_by_cX7_mostAlike_0 rfl rfl
theorem dX7_mostAlike_10 : decode cX7_mostAlike 10 = .ok (.getfield 19, 3) := yd_op_180 (i := 10) (a := 0) (b := 19) yd_by_cX7_mostAlike_0 rfl rfl
theorem dX7_mostAlike_13 : decode cX7_mostAlike 13 = .ok (.iload_n 3, 1) := yd_op_29 (i := 13) yd_by_cX7_mostAlike_0 rfl rfl
theorem dX7_mostAlike_14 : decode cX7_mostAlike 14 = .ok (.iconst 0, 1) := yd_op_3 (i := 14) yd_by_cX7_mostAlike_0 rfl rfl
theorem dX7_mostAlike_15 : decode cX7_mostAlike 15 = .ok (.iastore, 1) := yd_op_79 (i := 15) yd_by_cX7_mostAlike_0 rfl rfl
theorem dX7_mostAlike_16 : decode cX7_mostAlike 16 = .ok (.iinc 3 1, 3) := yd_op_132 (i := 16) (a := 3) (b := 1) yd_by_cX7_mostAlike_0 rfl rfl
theorem dX7_mostAlike_19 : decode cX7_mostAlike 19 = .ok (.goto (-17), 3) := yd_op_167 (i := 19) (a := 255) (b := 239) yd_by_cX7_mostAlike_0 rfl rfl
theorem dX7_mostAlike_22 : decode cX7_mostAlike 22 = .ok (.aload_n 0, 1) := yd_op_42 (i := 22) yd_by_cX7_mostAlike_0 rfl rfl
theorem dX7_mostAlike_23 : decode cX7_mostAlike 23 = .ok (.aload_n 1, 1) := yd_op_43 (i := 23) yd_by_cX7_mostAlike_0 rfl rfl
theorem dX7_mostAlike_24 : decode cX7_mostAlike 24 = .ok (.iload_n 2, 1) := yd_op_28 (i := 24) yd_by_cX7_mostAlike_0 rfl rfl
theorem dX7_mostAlike_25 : decode cX7_mostAlike 25 = .ok (.invokevirtual 93, 3) := yd_op_182 (i := 25) (a := 0) (b := 93) yd_by_cX7_mostAlike_0 rfl rfl
theorem dX7_mostAlike_28 : decode cX7_mostAlike 28 = .ok (.iconst 0, 1) := yd_op_3 (i := 28) yd_by_cX7_mostAlike_0 rfl rfl
theorem dX7_mostAlike_29 : decode cX7_mostAlike 29 = .ok (.istore_n 3, 1) := yd_op_62 (i := 29) yd_by_cX7_mostAlike_0 rfl rfl
theorem dX7_mostAlike_30 : decode cX7_mostAlike 30 = .ok (.iconst 0, 1) := yd_op_3 (i := 30) yd_by_cX7_mostAlike_0 rfl rfl
theorem dX7_mostAlike_31 : decode cX7_mostAlike 31 = .ok (.istore 4, 2) := yd_op_54 (i := 31) (a := 4) yd_by_cX7_mostAlike_0 rfl rfl
set_option maxRecDepth 100000 in
theorem yd_by_cX7_mostAlike_1 : ydk cX7_mostAlike 33 [21, 4, 42, 180, 0, 32, 162, 0, 64, 42, 180, 0, 15, 21, 4, 46, 54, 5, 42, 180, 0, 9, 21, 4, 51, 153, 0, 39, 21, 5, 155, 0, 34, 21, 5, 17, 3, 222, 163, 0, 26, 42] = true := by decide +kernel
theorem dX7_mostAlike_33 : decode cX7_mostAlike 33 = .ok (.iload 4, 2) := yd_op_21 (i := 0) (a := 4) yd_by_cX7_mostAlike_1 rfl rfl
theorem dX7_mostAlike_35 : decode cX7_mostAlike 35 = .ok (.aload_n 0, 1) := yd_op_42 (i := 2) yd_by_cX7_mostAlike_1 rfl rfl
theorem dX7_mostAlike_36 : decode cX7_mostAlike 36 = .ok (.getfield 32, 3) := yd_op_180 (i := 3) (a := 0) (b := 32) yd_by_cX7_mostAlike_1 rfl rfl
theorem dX7_mostAlike_39 : decode cX7_mostAlike 39 = .ok (.if_icmp .ge 64, 3) := yd_op_162 (i := 6) (a := 0) (b := 64) yd_by_cX7_mostAlike_1 rfl rfl
theorem dX7_mostAlike_42 : decode cX7_mostAlike 42 = .ok (.aload_n 0, 1) := yd_op_42 (i := 9) yd_by_cX7_mostAlike_1 rfl rfl
theorem dX7_mostAlike_43 : decode cX7_mostAlike 43 = .ok (.getfield 15, 3) := yd_op_180 (i := 10) (a := 0) (b := 15) yd_by_cX7_mostAlike_1 rfl rfl
theorem dX7_mostAlike_46 : decode cX7_mostAlike 46 = .ok (.iload 4, 2) := yd_op_21 (i := 13) (a := 4) yd_by_cX7_mostAlike_1 rfl rfl
theorem dX7_mostAlike_48 : decode cX7_mostAlike 48 = .ok (.iaload, 1) := yd_op_46 (i := 15) yd_by_cX7_mostAlike_1 rfl rfl
theorem dX7_mostAlike_49 : decode cX7_mostAlike 49 = .ok (.istore 5, 2) := yd_op_54 (i := 16) (a := 5) yd_by_cX7_mostAlike_1 rfl rfl
theorem dX7_mostAlike_51 : decode cX7_mostAlike 51 = .ok (.aload_n 0, 1) := yd_op_42 (i := 18) yd_by_cX7_mostAlike_1 rfl rfl
theorem dX7_mostAlike_52 : decode cX7_mostAlike 52 = .ok (.getfield 9, 3) := yd_op_180 (i := 19) (a := 0) (b := 9) yd_by_cX7_mostAlike_1 rfl rfl
theorem dX7_mostAlike_55 : decode cX7_mostAlike 55 = .ok (.iload 4, 2) := yd_op_21 (i := 22) (a := 4) yd_by_cX7_mostAlike_1 rfl rfl
theorem dX7_mostAlike_57 : decode cX7_mostAlike 57 = .ok (.baload, 1) := yd_op_51 (i := 24) yd_by_cX7_mostAlike_1 rfl rfl
theorem dX7_mostAlike_58 : decode cX7_mostAlike 58 = .ok (.ifCond .eq 39, 3) := yd_op_153 (i := 25) (a := 0) (b := 39) yd_by_cX7_mostAlike_1 rfl rfl
theorem dX7_mostAlike_61 : decode cX7_mostAlike 61 = .ok (.iload 5, 2) := yd_op_21 (i := 28) (a := 5) yd_by_cX7_mostAlike_1 rfl rfl
theorem dX7_mostAlike_63 : decode cX7_mostAlike 63 = .ok (.ifCond .lt 34, 3) := yd_op_155 (i := 30) (a := 0) (b := 34) yd_by_cX7_mostAlike_1 rfl rfl
theorem dX7_mostAlike_66 : decode cX7_mostAlike 66 = .ok (.iload 5, 2) := yd_op_21 (i := 33) (a := 5) yd_by_cX7_mostAlike_1 rfl rfl
theorem dX7_mostAlike_68 : decode cX7_mostAlike 68 = .ok (.sipush 990, 3) := yd_op_17 (i := 35) (a := 3) (b := 222) yd_by_cX7_mostAlike_1 rfl rfl
theorem dX7_mostAlike_71 : decode cX7_mostAlike 71 = .ok (.if_icmp .gt 26, 3) := yd_op_163 (i := 38) (a := 0) (b := 26) yd_by_cX7_mostAlike_1 rfl rfl
theorem dX7_mostAlike_74 : decode cX7_mostAlike 74 = .ok (.aload_n 0, 1) := yd_op_42 (i := 41) yd_by_cX7_mostAlike_1 rfl rfl
set_option maxRecDepth 100000 in
theorem yd_by_cX7_mostAlike_2 : ydk cX7_mostAlike 75 [180, 0, 19, 21, 5, 92, 46, 4, 96, 79, 29, 42, 180, 0, 19, 21, 5, 46, 184, 0, 120, 62, 132, 4, 1, 167, 255, 189, 29, 172] = true := by decide +kernel
theorem dX7_mostAlike_75 : decode cX7_mostAlike 75 = .ok (.getfield 19, 3) := yd_op_180 (i := 0) (a := 0) (b := 19) yd_by_cX7_mostAlike_2 rfl rfl
theorem dX7_mostAlike_78 : decode cX7_mostAlike 78 = .ok (.iload 5, 2) := yd_op_21 (i := 3) (a := 5) yd_by_cX7_mostAlike_2 rfl rfl
theorem dX7_mostAlike_80 : decode cX7_mostAlike 80 = .ok (.dup2, 1) := yd_op_92 (i := 5) yd_by_cX7_mostAlike_2 rfl rfl
theorem dX7_mostAlike_81 : decode cX7_mostAlike 81 = .ok (.iaload, 1) := yd_op_46 (i := 6) yd_by_cX7_mostAlike_2 rfl rfl
theorem dX7_mostAlike_82 : decode cX7_mostAlike 82 = .ok (.iconst 1, 1) := yd_op_4 (i := 7) yd_by_cX7_mostAlike_2 rfl rfl
theorem dX7_mostAlike_83 : decode cX7_mostAlike 83 = .ok (.iadd, 1) := yd_op_96 (i := 8) yd_by_cX7_mostAlike_2 rfl rfl
theorem dX7_mostAlike_84 : decode cX7_mostAlike 84 = .ok (.iastore, 1) := yd_op_79 (i := 9) yd_by_cX7_mostAlike_2 rfl rfl
theorem dX7_mostAlike_85 : decode cX7_mostAlike 85 = .ok (.iload_n 3, 1) := yd_op_29 (i := 10) yd_by_cX7_mostAlike_2 rfl rfl
theorem dX7_mostAlike_86 : decode cX7_mostAlike 86 = .ok (.aload_n 0, 1) := yd_op_42 (i := 11) yd_by_cX7_mostAlike_2 rfl rfl
theorem dX7_mostAlike_87 : decode cX7_mostAlike 87 = .ok (.getfield 19, 3) := yd_op_180 (i := 12) (a := 0) (b := 19) yd_by_cX7_mostAlike_2 rfl rfl
theorem dX7_mostAlike_90 : decode cX7_mostAlike 90 = .ok (.iload 5, 2) := yd_op_21 (i := 15) (a := 5) yd_by_cX7_mostAlike_2 rfl rfl
theorem dX7_mostAlike_92 : decode cX7_mostAlike 92 = .ok (.iaload, 1) := yd_op_46 (i := 17) yd_by_cX7_mostAlike_2 rfl rfl
theorem dX7_mostAlike_93 : decode cX7_mostAlike 93 = .ok (.invokestatic 120, 3) := yd_op_184 (i := 18) (a := 0) (b := 120) yd_by_cX7_mostAlike_2 rfl rfl
theorem dX7_mostAlike_96 : decode cX7_mostAlike 96 = .ok (.istore_n 3, 1) := yd_op_62 (i := 21) yd_by_cX7_mostAlike_2 rfl rfl
theorem dX7_mostAlike_97 : decode cX7_mostAlike 97 = .ok (.iinc 4 1, 3) := yd_op_132 (i := 22) (a := 4) (b := 1) yd_by_cX7_mostAlike_2 rfl rfl
theorem dX7_mostAlike_100 : decode cX7_mostAlike 100 = .ok (.goto (-67), 3) := yd_op_167 (i := 25) (a := 255) (b := 189) yd_by_cX7_mostAlike_2 rfl rfl
theorem dX7_mostAlike_103 : decode cX7_mostAlike 103 = .ok (.iload_n 3, 1) := yd_op_29 (i := 28) yd_by_cX7_mostAlike_2 rfl rfl
theorem dX7_mostAlike_104 : decode cX7_mostAlike 104 = .ok (.ireturn, 1) := yd_op_172 (i := 29) yd_by_cX7_mostAlike_2 rfl rfl
set_option maxRecDepth 100000 in
theorem yd_by_cX8_init_0 : ydk cX8_init 0 [42, 183, 0, 3, 42, 43, 181, 0, 9, 42, 44, 181, 0, 15, 42, 45, 181, 0, 19, 177] = true := by decide +kernel
theorem dX8_init_0 : decode cX8_init 0 = .ok (.aload_n 0, 1) := yd_op_42 (i := 0) yd_by_cX8_init_0 rfl rfl
theorem dX8_init_1 : decode cX8_init 1 = .ok (.invokespecial 3, 3) := yd_op_183 (i := 1) (a := 0) (b := 3) yd_by_cX8_init_0 rfl rfl
theorem dX8_init_4 : decode cX8_init 4 = .ok (.aload_n 0, 1) := yd_op_42 (i := 4) yd_by_cX8_init_0 rfl rfl
theorem dX8_init_5 : decode cX8_init 5 = .ok (.aload_n 1, 1) := yd_op_43 (i := 5) yd_by_cX8_init_0 rfl rfl
theorem dX8_init_6 : decode cX8_init 6 = .ok (.putfield 9, 3) := yd_op_181 (i := 6) (a := 0) (b := 9) yd_by_cX8_init_0 rfl rfl
theorem dX8_init_9 : decode cX8_init 9 = .ok (.aload_n 0, 1) := yd_op_42 (i := 9) yd_by_cX8_init_0 rfl rfl
theorem dX8_init_10 : decode cX8_init 10 = .ok (.aload_n 2, 1) := yd_op_44 (i := 10) yd_by_cX8_init_0 rfl rfl
theorem dX8_init_11 : decode cX8_init 11 = .ok (.putfield 15, 3) := yd_op_181 (i := 11) (a := 0) (b := 15) yd_by_cX8_init_0 rfl rfl
theorem dX8_init_14 : decode cX8_init 14 = .ok (.aload_n 0, 1) := yd_op_42 (i := 14) yd_by_cX8_init_0 rfl rfl
theorem dX8_init_15 : decode cX8_init 15 = .ok (.aload_n 3, 1) := yd_op_45 (i := 15) yd_by_cX8_init_0 rfl rfl
theorem dX8_init_16 : decode cX8_init 16 = .ok (.putfield 19, 3) := yd_op_181 (i := 16) (a := 0) (b := 19) yd_by_cX8_init_0 rfl rfl
theorem dX8_init_19 : decode cX8_init 19 = .ok (.return_, 1) := yd_op_177 (i := 19) yd_by_cX8_init_0 rfl rfl
set_option maxRecDepth 100000 in
theorem yd_by_cX8_readInto_0 : ydk cX8_readInto 0 [42, 43, 181, 0, 19, 43, 182, 0, 23, 42, 180, 0, 9, 44, 182, 0, 28, 3, 62, 29, 16, 80, 162, 0, 43, 42, 180, 0, 9, 182, 0, 34, 153, 0, 33, 29, 154, 0, 10] = true := by decide +kernel
theorem dX8_readInto_0 : decode cX8_readInto 0 = .ok (.aload_n 0, 1) := yd_op_42 (i := 0) yd_by_cX8_readInto_0 rfl rfl
theorem dX8_readInto_1 : decode cX8_readInto 1 = .ok (.aload_n 1, 1) := yd_op_43 (i := 1) yd_by_cX8_readInto_0 rfl rfl
theorem dX8_readInto_2 : decode cX8_readInto 2 = .ok (.putfield 19, 3) := yd_op_181 (i := 2) (a := 0) (b := 19) yd_by_cX8_readInto_0 rfl rfl
theorem dX8_readInto_5 : decode cX8_readInto 5 = .ok (.aload_n 1, 1) := yd_op_43 (i := 5) yd_by_cX8_readInto_0 rfl rfl
theorem dX8_readInto_6 : decode cX8_readInto 6 = .ok (.invokevirtual 23, 3) := yd_op_182 (i := 6) (a := 0) (b := 23) yd_by_cX8_readInto_0 rfl rfl
theorem dX8_readInto_9 : decode cX8_readInto 9 = .ok (.aload_n 0, 1) := yd_op_42 (i := 9) yd_by_cX8_readInto_0 rfl rfl
theorem dX8_readInto_10 : decode cX8_readInto 10 = .ok (.getfield 9, 3) := yd_op_180 (i := 10) (a := 0) (b := 9) yd_by_cX8_readInto_0 rfl rfl
theorem dX8_readInto_13 : decode cX8_readInto 13 = .ok (.aload_n 2, 1) := yd_op_44 (i := 13) yd_by_cX8_readInto_0 rfl rfl
theorem dX8_readInto_14 : decode cX8_readInto 14 = .ok (.invokevirtual 28, 3) := yd_op_182 (i := 14) (a := 0) (b := 28) yd_by_cX8_readInto_0 rfl rfl
theorem dX8_readInto_17 : decode cX8_readInto 17 = .ok (.iconst 0, 1) := yd_op_3 (i := 17) yd_by_cX8_readInto_0 rfl rfl
theorem dX8_readInto_18 : decode cX8_readInto 18 = .ok (.istore_n 3, 1) := yd_op_62 (i := 18) yd_by_cX8_readInto_0 rfl rfl
theorem dX8_readInto_19 : decode cX8_readInto 19 = .ok (.iload_n 3, 1) := yd_op_29 (i := 19) yd_by_cX8_readInto_0 rfl rfl
theorem dX8_readInto_20 : decode cX8_readInto 20 = .ok (.bipush 80, 2) := yd_op_16 (i := 20) (a := 80) yd_by_cX8_readInto_0 rfl rfl
theorem dX8_readInto_22 : decode cX8_readInto 22 = .ok (.if_icmp .ge 43, 3) := yd_op_162 (i := 22) (a := 0) (b := 43) yd_by_cX8_readInto_0 rfl rfl
theorem dX8_readInto_25 : decode cX8_readInto 25 = .ok (.aload_n 0, 1) := yd_op_42 (i := 25) yd_by_cX8_readInto_0 rfl rfl
theorem dX8_readInto_26 : decode cX8_readInto 26 = .ok (.getfield 9, 3) := yd_op_180 (i := 26) (a := 0) (b := 9) yd_by_cX8_readInto_0 rfl rfl
theorem dX8_readInto_29 : decode cX8_readInto 29 = .ok (.invokevirtual 34, 3) := yd_op_182 (i := 29) (a := 0) (b := 34) yd_by_cX8_readInto_0 rfl rfl
theorem dX8_readInto_32 : decode cX8_readInto 32 = .ok (.ifCond .eq 33, 3) := yd_op_153 (i := 32) (a := 0) (b := 33) yd_by_cX8_readInto_0 rfl rfl
theorem dX8_readInto_35 : decode cX8_readInto 35 = .ok (.iload_n 3, 1) := yd_op_29 (i := 35) yd_by_cX8_readInto_0 rfl rfl
theorem dX8_readInto_36 : decode cX8_readInto 36 = .ok (.ifCond .ne 10, 3) := yd_op_154 (i := 36) (a := 0) (b := 10) yd_by_cX8_readInto_0 rfl rfl
set_option maxRecDepth 100000 in
theorem yd_by_cX8_readInto_1 : ydk cX8_readInto 39 [42, 182, 0, 38, 167, 0, 7, 42, 182, 0, 41, 42, 180, 0, 9, 16, 59, 182, 0, 44, 132, 3, 1, 167, 255, 213, 29, 154, 0, 18, 42, 180, 0, 9, 4, 42, 180, 0, 9, 182, 0, 48, 182, 0, 52] = true := by decide +kernel
theorem dX8_readInto_39 : decode cX8_readInto 39 = .ok (.aload_n 0, 1) := yd_op_42 (i := 0) yd_by_cX8_readInto_1 rfl rfl
theorem dX8_readInto_40 : decode cX8_readInto 40 = .ok (.invokevirtual 38, 3) := yd_op_182 (i := 1) (a := 0) (b := 38) yd_by_cX8_readInto_1 rfl rfl
theorem dX8_readInto_43 : decode cX8_readInto 43 = .ok (.goto 7, 3) := yd_op_167 (i := 4) (a := 0) (b := 7) yd_by_cX8_readInto_1 rfl rfl
theorem dX8_readInto_46 : decode cX8_readInto 46 = .ok (.aload_n 0, 1) := yd_op_42 (i := 7) yd_by_cX8_readInto_1 rfl rfl
theorem dX8_readInto_47 : decode cX8_readInto 47 = .ok (.invokevirtual 41, 3) := yd_op_182 (i := 8) (a := 0) (b := 41) yd_by_cX8_readInto_1 rfl rfl
theorem dX8_readInto_50 : decode cX8_readInto 50 = .ok (.aload_n 0, 1) := yd_op_42 (i := 11) yd_by_cX8_readInto_1 rfl rfl
theorem dX8_readInto_51 : decode cX8_readInto 51 = .ok (.getfield 9, 3) := yd_op_180 (i := 12) (a := 0) (b := 9) yd_by_cX8_readInto_1 rfl rfl
theorem dX8_readInto_54 : decode cX8_readInto 54 = .ok (.bipush 59, 2) := yd_op_16 (i := 15) (a := 59) yd_by_cX8_readInto_1 rfl rfl
theorem dX8_readInto_56 : decode cX8_readInto 56 = .ok (.invokevirtual 44, 3) := yd_op_182 (i := 17) (a := 0) (b := 44) yd_by_cX8_readInto_1 rfl rfl
theorem dX8_readInto_59 : decode cX8_readInto 59 = .ok (.iinc 3 1, 3) := yd_op_132 (i := 20) (a := 3) (b := 1) yd_by_cX8_readInto_1 rfl rfl
theorem dX8_readInto_62 : decode cX8_readInto 62 = .ok (.goto (-43), 3) := yd_op_167 (i := 23) (a := 255) (b := 213) yd_by_cX8_readInto_1 rfl rfl
theorem dX8_readInto_65 : decode cX8_readInto 65 = .ok (.iload_n 3, 1) := yd_op_29 (i := 26) yd_by_cX8_readInto_1 rfl rfl
theorem dX8_readInto_66 : decode cX8_readInto 66 = .ok (.ifCond .ne 18, 3) := yd_op_154 (i := 27) (a := 0) (b := 18) yd_by_cX8_readInto_1 rfl rfl
theorem dX8_readInto_69 : decode cX8_readInto 69 = .ok (.aload_n 0, 1) := yd_op_42 (i := 30) yd_by_cX8_readInto_1 rfl rfl
theorem dX8_readInto_70 : decode cX8_readInto 70 = .ok (.getfield 9, 3) := yd_op_180 (i := 31) (a := 0) (b := 9) yd_by_cX8_readInto_1 rfl rfl
theorem dX8_readInto_73 : decode cX8_readInto 73 = .ok (.iconst 1, 1) := yd_op_4 (i := 34) yd_by_cX8_readInto_1 rfl rfl
theorem dX8_readInto_74 : decode cX8_readInto 74 = .ok (.aload_n 0, 1) := yd_op_42 (i := 35) yd_by_cX8_readInto_1 rfl rfl
theorem dX8_readInto_75 : decode cX8_readInto 75 = .ok (.getfield 9, 3) := yd_op_180 (i := 36) (a := 0) (b := 9) yd_by_cX8_readInto_1 rfl rfl
theorem dX8_readInto_78 : decode cX8_readInto 78 = .ok (.invokevirtual 48, 3) := yd_op_182 (i := 39) (a := 0) (b := 48) yd_by_cX8_readInto_1 rfl rfl
theorem dX8_readInto_81 : decode cX8_readInto 81 = .ok (.invokevirtual 52, 3) := yd_op_182 (i := 42) (a := 0) (b := 52) yd_by_cX8_readInto_1 rfl rfl
set_option maxRecDepth 100000 in
theorem yd_by_cX8_readInto_2 : ydk cX8_readInto 84 [42, 180, 0, 9, 182, 0, 34, 153, 0, 18, 42, 180, 0, 9, 8, 42, 180, 0, 9, 182, 0, 48, 182, 0, 52, 29, 172] = true := by decide +kernel
theorem dX8_readInto_84 : decode cX8_readInto 84 = .ok (.aload_n 0, 1) := yd_op_42 (i := 0) yd_by_cX8_readInto_2 rfl rfl
theorem dX8_readInto_85 : decode cX8_readInto 85 = .ok (.getfield 9, 3) := yd_op_180 (i := 1) (a := 0) (b := 9) yd_by_cX8_readInto_2 rfl rfl
theorem dX8_readInto_88 : decode cX8_readInto 88 = .ok (.invokevirtual 34, 3) := yd_op_182 (i := 4) (a := 0) (b := 34) yd_by_cX8_readInto_2 rfl rfl
theorem dX8_readInto_91 : decode cX8_readInto 91 = .ok (.ifCond .eq 18, 3) := yd_op_153 (i := 7) (a := 0) (b := 18) yd_by_cX8_readInto_2 rfl rfl
theorem dX8_readInto_94 : decode cX8_readInto 94 = .ok (.aload_n 0, 1) := yd_op_42 (i := 10) yd_by_cX8_readInto_2 rfl rfl
theorem dX8_readInto_95 : decode cX8_readInto 95 = .ok (.getfield 9, 3) := yd_op_180 (i := 11) (a := 0) (b := 9) yd_by_cX8_readInto_2 rfl rfl
theorem dX8_readInto_98 : decode cX8_readInto 98 = .ok (.iconst 5, 1) := yd_op_8 (i := 14) yd_by_cX8_readInto_2 rfl rfl
theorem dX8_readInto_99 : decode cX8_readInto 99 = .ok (.aload_n 0, 1) := yd_op_42 (i := 15) yd_by_cX8_readInto_2 rfl rfl
theorem dX8_readInto_100 : decode cX8_readInto 100 = .ok (.getfield 9, 3) := yd_op_180 (i := 16) (a := 0) (b := 9) yd_by_cX8_readInto_2 rfl rfl
theorem dX8_readInto_103 : decode cX8_readInto 103 = .ok (.invokevirtual 48, 3) := yd_op_182 (i := 19) (a := 0) (b := 48) yd_by_cX8_readInto_2 rfl rfl
theorem dX8_readInto_106 : decode cX8_readInto 106 = .ok (.invokevirtual 52, 3) := yd_op_182 (i := 22) (a := 0) (b := 52) yd_by_cX8_readInto_2 rfl rfl
theorem dX8_readInto_109 : decode cX8_readInto 109 = .ok (.iload_n 3, 1) := yd_op_29 (i := 25) yd_by_cX8_readInto_2 rfl rfl
theorem dX8_readInto_110 : decode cX8_readInto 110 = .ok (.ireturn, 1) := yd_op_172 (i := 26) yd_by_cX8_readInto_2 rfl rfl
set_option maxRecDepth 100000 in
theorem yd_by_cX8_readPane_0 : ydk cX8_readPane 0 [42, 180, 0, 9, 3, 182, 0, 56, 42, 180, 0, 9, 5, 16, 6, 182, 0, 59, 60, 42, 180, 0, 9, 4, 182, 0, 56, 42, 180, 0, 9, 5, 16, 6, 182, 0, 59, 61] = true := by decide +kernel
theorem dX8_readPane_0 : decode cX8_readPane 0 = .ok (.aload_n 0, 1) := yd_op_42 (i := 0) yd_by_cX8_readPane_0 rfl rfl
theorem dX8_readPane_1 : decode cX8_readPane 1 = .ok (.getfield 9, 3) := yd_op_180 (i := 1) (a := 0) (b := 9) yd_by_cX8_readPane_0 rfl rfl
theorem dX8_readPane_4 : decode cX8_readPane 4 = .ok (.iconst 0, 1) := yd_op_3 (i := 4) yd_by_cX8_readPane_0 rfl rfl
theorem dX8_readPane_5 : decode cX8_readPane 5 = .ok (.invokevirtual 56, 3) := yd_op_182 (i := 5) (a := 0) (b := 56) yd_by_cX8_readPane_0 rfl rfl
theorem dX8_readPane_8 : decode cX8_readPane 8 = .ok (.aload_n 0, 1) := yd_op_42 (i := 8) yd_by_cX8_readPane_0 rfl rfl
theorem dX8_readPane_9 : decode cX8_readPane 9 = .ok (.getfield 9, 3) := yd_op_180 (i := 9) (a := 0) (b := 9) yd_by_cX8_readPane_0 rfl rfl
theorem dX8_readPane_12 : decode cX8_readPane 12 = .ok (.iconst 2, 1) := yd_op_5 (i := 12) yd_by_cX8_readPane_0 rfl rfl
theorem dX8_readPane_13 : decode cX8_readPane 13 = .ok (.bipush 6, 2) := yd_op_16 (i := 13) (a := 6) yd_by_cX8_readPane_0 rfl rfl
theorem dX8_readPane_15 : decode cX8_readPane 15 = .ok (.invokevirtual 59, 3) := yd_op_182 (i := 15) (a := 0) (b := 59) yd_by_cX8_readPane_0 rfl rfl
theorem dX8_readPane_18 : decode cX8_readPane 18 = .ok (.istore_n 1, 1) := yd_op_60 (i := 18) yd_by_cX8_readPane_0 rfl rfl
theorem dX8_readPane_19 : decode cX8_readPane 19 = .ok (.aload_n 0, 1) := yd_op_42 (i := 19) yd_by_cX8_readPane_0 rfl rfl
theorem dX8_readPane_20 : decode cX8_readPane 20 = .ok (.getfield 9, 3) := yd_op_180 (i := 20) (a := 0) (b := 9) yd_by_cX8_readPane_0 rfl rfl
theorem dX8_readPane_23 : decode cX8_readPane 23 = .ok (.iconst 1, 1) := yd_op_4 (i := 23) yd_by_cX8_readPane_0 rfl rfl
theorem dX8_readPane_24 : decode cX8_readPane 24 = .ok (.invokevirtual 56, 3) := yd_op_182 (i := 24) (a := 0) (b := 56) yd_by_cX8_readPane_0 rfl rfl
theorem dX8_readPane_27 : decode cX8_readPane 27 = .ok (.aload_n 0, 1) := yd_op_42 (i := 27) yd_by_cX8_readPane_0 rfl rfl
theorem dX8_readPane_28 : decode cX8_readPane 28 = .ok (.getfield 9, 3) := yd_op_180 (i := 28) (a := 0) (b := 9) yd_by_cX8_readPane_0 rfl rfl
theorem dX8_readPane_31 : decode cX8_readPane 31 = .ok (.iconst 2, 1) := yd_op_5 (i := 31) yd_by_cX8_readPane_0 rfl rfl
theorem dX8_readPane_32 : decode cX8_readPane 32 = .ok (.bipush 6, 2) := yd_op_16 (i := 32) (a := 6) yd_by_cX8_readPane_0 rfl rfl
theorem dX8_readPane_34 : decode cX8_readPane 34 = .ok (.invokevirtual 59, 3) := yd_op_182 (i := 34) (a := 0) (b := 59) yd_by_cX8_readPane_0 rfl rfl
theorem dX8_readPane_37 : decode cX8_readPane 37 = .ok (.istore_n 2, 1) := yd_op_61 (i := 37) yd_by_cX8_readPane_0 rfl rfl
set_option maxRecDepth 100000 in
theorem yd_by_cX8_readPane_1 : ydk cX8_readPane 38 [42, 180, 0, 19, 27, 28, 182, 0, 63, 42, 180, 0, 9, 5, 182, 0, 56, 42, 180, 0, 19, 42, 180, 0, 9, 3, 16, 99, 182, 0, 59, 181, 0, 66, 177] = true := by decide +kernel
theorem dX8_readPane_38 : decode cX8_readPane 38 = .ok (.aload_n 0, 1) := yd_op_42 (i := 0) yd_by_cX8_readPane_1 rfl rfl
theorem dX8_readPane_39 : decode cX8_readPane 39 = .ok (.getfield 19, 3) := yd_op_180 (i := 1) (a := 0) (b := 19) yd_by_cX8_readPane_1 rfl rfl
theorem dX8_readPane_42 : decode cX8_readPane 42 = .ok (.iload_n 1, 1) := yd_op_27 (i := 4) yd_by_cX8_readPane_1 rfl rfl
theorem dX8_readPane_43 : decode cX8_readPane 43 = .ok (.iload_n 2, 1) := yd_op_28 (i := 5) yd_by_cX8_readPane_1 rfl rfl
theorem dX8_readPane_44 : decode cX8_readPane 44 = .ok (.invokevirtual 63, 3) := yd_op_182 (i := 6) (a := 0) (b := 63) yd_by_cX8_readPane_1 rfl rfl
theorem dX8_readPane_47 : decode cX8_readPane 47 = .ok (.aload_n 0, 1) := yd_op_42 (i := 9) yd_by_cX8_readPane_1 rfl rfl
theorem dX8_readPane_48 : decode cX8_readPane 48 = .ok (.getfield 9, 3) := yd_op_180 (i := 10) (a := 0) (b := 9) yd_by_cX8_readPane_1 rfl rfl
theorem dX8_readPane_51 : decode cX8_readPane 51 = .ok (.iconst 2, 1) := yd_op_5 (i := 13) yd_by_cX8_readPane_1 rfl rfl
theorem dX8_readPane_52 : decode cX8_readPane 52 = .ok (.invokevirtual 56, 3) := yd_op_182 (i := 14) (a := 0) (b := 56) yd_by_cX8_readPane_1 rfl rfl
theorem dX8_readPane_55 : decode cX8_readPane 55 = .ok (.aload_n 0, 1) := yd_op_42 (i := 17) yd_by_cX8_readPane_1 rfl rfl
theorem dX8_readPane_56 : decode cX8_readPane 56 = .ok (.getfield 19, 3) := yd_op_180 (i := 18) (a := 0) (b := 19) yd_by_cX8_readPane_1 rfl rfl
theorem dX8_readPane_59 : decode cX8_readPane 59 = .ok (.aload_n 0, 1) := yd_op_42 (i := 21) yd_by_cX8_readPane_1 rfl rfl
theorem dX8_readPane_60 : decode cX8_readPane 60 = .ok (.getfield 9, 3) := yd_op_180 (i := 22) (a := 0) (b := 9) yd_by_cX8_readPane_1 rfl rfl
theorem dX8_readPane_63 : decode cX8_readPane 63 = .ok (.iconst 0, 1) := yd_op_3 (i := 25) yd_by_cX8_readPane_1 rfl rfl
theorem dX8_readPane_64 : decode cX8_readPane 64 = .ok (.bipush 99, 2) := yd_op_16 (i := 26) (a := 99) yd_by_cX8_readPane_1 rfl rfl
theorem dX8_readPane_66 : decode cX8_readPane 66 = .ok (.invokevirtual 59, 3) := yd_op_182 (i := 28) (a := 0) (b := 59) yd_by_cX8_readPane_1 rfl rfl
theorem dX8_readPane_69 : decode cX8_readPane 69 = .ok (.putfield 66, 3) := yd_op_181 (i := 31) (a := 0) (b := 66) yd_by_cX8_readPane_1 rfl rfl
theorem dX8_readPane_72 : decode cX8_readPane 72 = .ok (.return_, 1) := yd_op_177 (i := 34) yd_by_cX8_readPane_1 rfl rfl
theorem dX8_readStatement_7 : decode cX8_readStatement 7 = .ok (.tableswitch 158 3 11 #[49, 56, 158, 158, 63, 70, 77, 104, 131], 49) := by decide +kernel
set_option maxRecDepth 100000 in
theorem yd_by_cX8_readStatement_0 : ydk cX8_readStatement 0 [42, 180, 0, 9, 182, 0, 70, 170, 0, 0, 0, 158, 0, 0, 0, 3, 0, 0, 0, 11, 0, 0, 0, 49, 0, 0, 0, 56, 0, 0, 0, 158, 0, 0, 0, 158, 0, 0, 0, 63, 0, 0, 0, 70, 0, 0, 0, 77, 0, 0, 0, 104, 0, 0, 0, 131, 42, 182, 0, 73, 167, 0, 120, 42, 182, 0, 76, 167, 0, 113, 42, 182, 0, 79, 167, 0, 106, 42, 182, 0, 82, 167, 0, 99, 42, 180, 0, 9, 182, 0, 85, 42, 180, 0, 19] = true := by decide +kernel
theorem dX8_readStatement_0 : decode cX8_readStatement 0 = .ok (.aload_n 0, 1) := yd_op_42 (i := 0) yd_by_cX8_readStatement_0 rfl rfl
theorem dX8_readStatement_1 : decode cX8_readStatement 1 = .ok (.getfield 9, 3) := yd_op_180 (i := 1) (a := 0) (b := 9) yd_by_cX8_readStatement_0 rfl rfl
theorem dX8_readStatement_4 : decode cX8_readStatement 4 = .ok (.invokevirtual 70, 3) := yd_op_182 (i := 4) (a := 0) (b := 70) yd_by_cX8_readStatement_0 rfl rfl
theorem dX8_readStatement_56 : decode cX8_readStatement 56 = .ok (.aload_n 0, 1) := yd_op_42 (i := 56) yd_by_cX8_readStatement_0 rfl rfl
theorem dX8_readStatement_57 : decode cX8_readStatement 57 = .ok (.invokevirtual 73, 3) := yd_op_182 (i := 57) (a := 0) (b := 73) yd_by_cX8_readStatement_0 rfl rfl
theorem dX8_readStatement_60 : decode cX8_readStatement 60 = .ok (.goto 120, 3) := yd_op_167 (i := 60) (a := 0) (b := 120) yd_by_cX8_readStatement_0 rfl rfl
theorem dX8_readStatement_63 : decode cX8_readStatement 63 = .ok (.aload_n 0, 1) := yd_op_42 (i := 63) yd_by_cX8_readStatement_0 rfl rfl
theorem dX8_readStatement_64 : decode cX8_readStatement 64 = .ok (.invokevirtual 76, 3) := yd_op_182 (i := 64) (a := 0) (b := 76) yd_by_cX8_readStatement_0 rfl rfl
theorem dX8_readStatement_67 : decode cX8_readStatement 67 = .ok (.goto 113, 3) := yd_op_167 (i := 67) (a := 0) (b := 113) yd_by_cX8_readStatement_0 rfl rfl
theorem dX8_readStatement_70 : decode cX8_readStatement 70 = .ok (.aload_n 0, 1) := yd_op_42 (i := 70) yd_by_cX8_readStatement_0 rfl rfl
theorem dX8_readStatement_71 : decode cX8_readStatement 71 = .ok (.invokevirtual 79, 3) := yd_op_182 (i := 71) (a := 0) (b := 79) yd_by_cX8_readStatement_0 rfl rfl
theorem dX8_readStatement_74 : decode cX8_readStatement 74 = .ok (.goto 106, 3) := yd_op_167 (i := 74) (a := 0) (b := 106) yd_by_cX8_readStatement_0 rfl rfl
theorem dX8_readStatement_77 : decode cX8_readStatement 77 = .ok (.aload_n 0, 1) := yd_op_42 (i := 77) yd_by_cX8_readStatement_0 rfl rfl
theorem dX8_readStatement_78 : decode cX8_readStatement 78 = .ok (.invokevirtual 82, 3) := yd_op_182 (i := 78) (a := 0) (b := 82) yd_by_cX8_readStatement_0 rfl rfl
theorem dX8_readStatement_81 : decode cX8_readStatement 81 = .ok (.goto 99, 3) := yd_op_167 (i := 81) (a := 0) (b := 99) yd_by_cX8_readStatement_0 rfl rfl
theorem dX8_readStatement_84 : decode cX8_readStatement 84 = .ok (.aload_n 0, 1) := yd_op_42 (i := 84) yd_by_cX8_readStatement_0 rfl rfl
theorem dX8_readStatement_85 : decode cX8_readStatement 85 = .ok (.getfield 9, 3) := yd_op_180 (i := 85) (a := 0) (b := 9) yd_by_cX8_readStatement_0 rfl rfl
theorem dX8_readStatement_88 : decode cX8_readStatement 88 = .ok (.invokevirtual 85, 3) := yd_op_182 (i := 88) (a := 0) (b := 85) yd_by_cX8_readStatement_0 rfl rfl
theorem dX8_readStatement_91 : decode cX8_readStatement 91 = .ok (.aload_n 0, 1) := yd_op_42 (i := 91) yd_by_cX8_readStatement_0 rfl rfl
theorem dX8_readStatement_92 : decode cX8_readStatement 92 = .ok (.getfield 19, 3) := yd_op_180 (i := 92) (a := 0) (b := 19) yd_by_cX8_readStatement_0 rfl rfl
set_option maxRecDepth 100000 in
theorem yd_by_cX8_readStatement_1 : ydk cX8_readStatement 95 [42, 180, 0, 9, 3, 16, 99, 182, 0, 59, 181, 0, 88, 167, 0, 72, 42, 180, 0, 9, 182, 0, 85, 42, 180, 0, 19, 42, 180, 0, 9, 3, 16, 99, 182, 0, 59, 181, 0, 91, 167, 0, 45, 42] = true := by decide +kernel
theorem dX8_readStatement_95 : decode cX8_readStatement 95 = .ok (.aload_n 0, 1) := yd_op_42 (i := 0) yd_by_cX8_readStatement_1 rfl rfl
theorem dX8_readStatement_96 : decode cX8_readStatement 96 = .ok (.getfield 9, 3) := yd_op_180 (i := 1) (a := 0) (b := 9) yd_by_cX8_readStatement_1 rfl rfl
theorem dX8_readStatement_99 : decode cX8_readStatement 99 = .ok (.iconst 0, 1) := yd_op_3 (i := 4) yd_by_cX8_readStatement_1 rfl rfl
theorem dX8_readStatement_100 : decode cX8_readStatement 100 = .ok (.bipush 99, 2) := yd_op_16 (i := 5) (a := 99) yd_by_cX8_readStatement_1 rfl rfl
theorem dX8_readStatement_102 : decode cX8_readStatement 102 = .ok (.invokevirtual 59, 3) := yd_op_182 (i := 7) (a := 0) (b := 59) yd_by_cX8_readStatement_1 rfl rfl
theorem dX8_readStatement_105 : decode cX8_readStatement 105 = .ok (.putfield 88, 3) := yd_op_181 (i := 10) (a := 0) (b := 88) yd_by_cX8_readStatement_1 rfl rfl
theorem dX8_readStatement_108 : decode cX8_readStatement 108 = .ok (.goto 72, 3) := yd_op_167 (i := 13) (a := 0) (b := 72) yd_by_cX8_readStatement_1 rfl rfl
theorem dX8_readStatement_111 : decode cX8_readStatement 111 = .ok (.aload_n 0, 1) := yd_op_42 (i := 16) yd_by_cX8_readStatement_1 rfl rfl
theorem dX8_readStatement_112 : decode cX8_readStatement 112 = .ok (.getfield 9, 3) := yd_op_180 (i := 17) (a := 0) (b := 9) yd_by_cX8_readStatement_1 rfl rfl
theorem dX8_readStatement_115 : decode cX8_readStatement 115 = .ok (.invokevirtual 85, 3) := yd_op_182 (i := 20) (a := 0) (b := 85) yd_by_cX8_readStatement_1 rfl rfl
theorem dX8_readStatement_118 : decode cX8_readStatement 118 = .ok (.aload_n 0, 1) := yd_op_42 (i := 23) yd_by_cX8_readStatement_1 rfl rfl
theorem dX8_readStatement_119 : decode cX8_readStatement 119 = .ok (.getfield 19, 3) := yd_op_180 (i := 24) (a := 0) (b := 19) yd_by_cX8_readStatement_1 rfl rfl
theorem dX8_readStatement_122 : decode cX8_readStatement 122 = .ok (.aload_n 0, 1) := yd_op_42 (i := 27) yd_by_cX8_readStatement_1 rfl rfl
theorem dX8_readStatement_123 : decode cX8_readStatement 123 = .ok (.getfield 9, 3) := yd_op_180 (i := 28) (a := 0) (b := 9) yd_by_cX8_readStatement_1 rfl rfl
theorem dX8_readStatement_126 : decode cX8_readStatement 126 = .ok (.iconst 0, 1) := yd_op_3 (i := 31) yd_by_cX8_readStatement_1 rfl rfl
theorem dX8_readStatement_127 : decode cX8_readStatement 127 = .ok (.bipush 99, 2) := yd_op_16 (i := 32) (a := 99) yd_by_cX8_readStatement_1 rfl rfl
theorem dX8_readStatement_129 : decode cX8_readStatement 129 = .ok (.invokevirtual 59, 3) := yd_op_182 (i := 34) (a := 0) (b := 59) yd_by_cX8_readStatement_1 rfl rfl
theorem dX8_readStatement_132 : decode cX8_readStatement 132 = .ok (.putfield 91, 3) := yd_op_181 (i := 37) (a := 0) (b := 91) yd_by_cX8_readStatement_1 rfl rfl
theorem dX8_readStatement_135 : decode cX8_readStatement 135 = .ok (.goto 45, 3) := yd_op_167 (i := 40) (a := 0) (b := 45) yd_by_cX8_readStatement_1 rfl rfl
theorem dX8_readStatement_138 : decode cX8_readStatement 138 = .ok (.aload_n 0, 1) := yd_op_42 (i := 43) yd_by_cX8_readStatement_1 rfl rfl
set_option maxRecDepth 100000 in
theorem yd_by_cX8_readStatement_2 : ydk cX8_readStatement 139 [180, 0, 9, 182, 0, 85, 42, 180, 0, 19, 42, 180, 0, 9, 3, 16, 100, 182, 0, 59, 181, 0, 94, 167, 0, 18, 42, 180, 0, 9, 4, 42, 180, 0, 9, 182, 0, 48, 182, 0, 52, 177] = true := by decide +kernel
theorem dX8_readStatement_139 : decode cX8_readStatement 139 = .ok (.getfield 9, 3) := yd_op_180 (i := 0) (a := 0) (b := 9) yd_by_cX8_readStatement_2 rfl rfl
theorem dX8_readStatement_142 : decode cX8_readStatement 142 = .ok (.invokevirtual 85, 3) := yd_op_182 (i := 3) (a := 0) (b := 85) yd_by_cX8_readStatement_2 rfl rfl
theorem dX8_readStatement_145 : decode cX8_readStatement 145 = .ok (.aload_n 0, 1) := yd_op_42 (i := 6) yd_by_cX8_readStatement_2 rfl rfl
theorem dX8_readStatement_146 : decode cX8_readStatement 146 = .ok (.getfield 19, 3) := yd_op_180 (i := 7) (a := 0) (b := 19) yd_by_cX8_readStatement_2 rfl rfl
theorem dX8_readStatement_149 : decode cX8_readStatement 149 = .ok (.aload_n 0, 1) := yd_op_42 (i := 10) yd_by_cX8_readStatement_2 rfl rfl
theorem dX8_readStatement_150 : decode cX8_readStatement 150 = .ok (.getfield 9, 3) := yd_op_180 (i := 11) (a := 0) (b := 9) yd_by_cX8_readStatement_2 rfl rfl
theorem dX8_readStatement_153 : decode cX8_readStatement 153 = .ok (.iconst 0, 1) := yd_op_3 (i := 14) yd_by_cX8_readStatement_2 rfl rfl
theorem dX8_readStatement_154 : decode cX8_readStatement 154 = .ok (.bipush 100, 2) := yd_op_16 (i := 15) (a := 100) yd_by_cX8_readStatement_2 rfl rfl
theorem dX8_readStatement_156 : decode cX8_readStatement 156 = .ok (.invokevirtual 59, 3) := yd_op_182 (i := 17) (a := 0) (b := 59) yd_by_cX8_readStatement_2 rfl rfl
theorem dX8_readStatement_159 : decode cX8_readStatement 159 = .ok (.putfield 94, 3) := yd_op_181 (i := 20) (a := 0) (b := 94) yd_by_cX8_readStatement_2 rfl rfl
theorem dX8_readStatement_162 : decode cX8_readStatement 162 = .ok (.goto 18, 3) := yd_op_167 (i := 23) (a := 0) (b := 18) yd_by_cX8_readStatement_2 rfl rfl
theorem dX8_readStatement_165 : decode cX8_readStatement 165 = .ok (.aload_n 0, 1) := yd_op_42 (i := 26) yd_by_cX8_readStatement_2 rfl rfl
theorem dX8_readStatement_166 : decode cX8_readStatement 166 = .ok (.getfield 9, 3) := yd_op_180 (i := 27) (a := 0) (b := 9) yd_by_cX8_readStatement_2 rfl rfl
theorem dX8_readStatement_169 : decode cX8_readStatement 169 = .ok (.iconst 1, 1) := yd_op_4 (i := 30) yd_by_cX8_readStatement_2 rfl rfl
theorem dX8_readStatement_170 : decode cX8_readStatement 170 = .ok (.aload_n 0, 1) := yd_op_42 (i := 31) yd_by_cX8_readStatement_2 rfl rfl
theorem dX8_readStatement_171 : decode cX8_readStatement 171 = .ok (.getfield 9, 3) := yd_op_180 (i := 32) (a := 0) (b := 9) yd_by_cX8_readStatement_2 rfl rfl
theorem dX8_readStatement_174 : decode cX8_readStatement 174 = .ok (.invokevirtual 48, 3) := yd_op_182 (i := 35) (a := 0) (b := 48) yd_by_cX8_readStatement_2 rfl rfl
theorem dX8_readStatement_177 : decode cX8_readStatement 177 = .ok (.invokevirtual 52, 3) := yd_op_182 (i := 38) (a := 0) (b := 52) yd_by_cX8_readStatement_2 rfl rfl
theorem dX8_readStatement_180 : decode cX8_readStatement 180 = .ok (.return_, 1) := yd_op_177 (i := 41) yd_by_cX8_readStatement_2 rfl rfl
set_option maxRecDepth 100000 in
theorem yd_by_cX8_readHeavy_0 : ydk cX8_readHeavy 0 [42, 180, 0, 9, 182, 0, 85, 42, 180, 0, 9, 3, 42, 180, 0, 19, 180, 0, 97, 4, 100, 182, 0, 59, 60, 42, 180, 0, 9, 3, 42, 180, 0, 19, 180, 0, 100, 4] = true := by decide +kernel
theorem dX8_readHeavy_0 : decode cX8_readHeavy 0 = .ok (.aload_n 0, 1) := yd_op_42 (i := 0) yd_by_cX8_readHeavy_0 rfl rfl
theorem dX8_readHeavy_1 : decode cX8_readHeavy 1 = .ok (.getfield 9, 3) := yd_op_180 (i := 1) (a := 0) (b := 9) yd_by_cX8_readHeavy_0 rfl rfl
theorem dX8_readHeavy_4 : decode cX8_readHeavy 4 = .ok (.invokevirtual 85, 3) := yd_op_182 (i := 4) (a := 0) (b := 85) yd_by_cX8_readHeavy_0 rfl rfl
theorem dX8_readHeavy_7 : decode cX8_readHeavy 7 = .ok (.aload_n 0, 1) := yd_op_42 (i := 7) yd_by_cX8_readHeavy_0 rfl rfl
theorem dX8_readHeavy_8 : decode cX8_readHeavy 8 = .ok (.getfield 9, 3) := yd_op_180 (i := 8) (a := 0) (b := 9) yd_by_cX8_readHeavy_0 rfl rfl
theorem dX8_readHeavy_11 : decode cX8_readHeavy 11 = .ok (.iconst 0, 1) := yd_op_3 (i := 11) yd_by_cX8_readHeavy_0 rfl rfl
theorem dX8_readHeavy_12 : decode cX8_readHeavy 12 = .ok (.aload_n 0, 1) := yd_op_42 (i := 12) yd_by_cX8_readHeavy_0 rfl rfl
theorem dX8_readHeavy_13 : decode cX8_readHeavy 13 = .ok (.getfield 19, 3) := yd_op_180 (i := 13) (a := 0) (b := 19) yd_by_cX8_readHeavy_0 rfl rfl
theorem dX8_readHeavy_16 : decode cX8_readHeavy 16 = .ok (.getfield 97, 3) := yd_op_180 (i := 16) (a := 0) (b := 97) yd_by_cX8_readHeavy_0 rfl rfl
theorem dX8_readHeavy_19 : decode cX8_readHeavy 19 = .ok (.iconst 1, 1) := yd_op_4 (i := 19) yd_by_cX8_readHeavy_0 rfl rfl
theorem dX8_readHeavy_20 : decode cX8_readHeavy 20 = .ok (.isub, 1) := yd_op_100 (i := 20) yd_by_cX8_readHeavy_0 rfl rfl
theorem dX8_readHeavy_21 : decode cX8_readHeavy 21 = .ok (.invokevirtual 59, 3) := yd_op_182 (i := 21) (a := 0) (b := 59) yd_by_cX8_readHeavy_0 rfl rfl
theorem dX8_readHeavy_24 : decode cX8_readHeavy 24 = .ok (.istore_n 1, 1) := yd_op_60 (i := 24) yd_by_cX8_readHeavy_0 rfl rfl
theorem dX8_readHeavy_25 : decode cX8_readHeavy 25 = .ok (.aload_n 0, 1) := yd_op_42 (i := 25) yd_by_cX8_readHeavy_0 rfl rfl
theorem dX8_readHeavy_26 : decode cX8_readHeavy 26 = .ok (.getfield 9, 3) := yd_op_180 (i := 26) (a := 0) (b := 9) yd_by_cX8_readHeavy_0 rfl rfl
theorem dX8_readHeavy_29 : decode cX8_readHeavy 29 = .ok (.iconst 0, 1) := yd_op_3 (i := 29) yd_by_cX8_readHeavy_0 rfl rfl
theorem dX8_readHeavy_30 : decode cX8_readHeavy 30 = .ok (.aload_n 0, 1) := yd_op_42 (i := 30) yd_by_cX8_readHeavy_0 rfl rfl
theorem dX8_readHeavy_31 : decode cX8_readHeavy 31 = .ok (.getfield 19, 3) := yd_op_180 (i := 31) (a := 0) (b := 19) yd_by_cX8_readHeavy_0 rfl rfl
theorem dX8_readHeavy_34 : decode cX8_readHeavy 34 = .ok (.getfield 100, 3) := yd_op_180 (i := 34) (a := 0) (b := 100) yd_by_cX8_readHeavy_0 rfl rfl
theorem dX8_readHeavy_37 : decode cX8_readHeavy 37 = .ok (.iconst 1, 1) := yd_op_4 (i := 37) yd_by_cX8_readHeavy_0 rfl rfl
set_option maxRecDepth 100000 in
theorem yd_by_cX8_readHeavy_1 : ydk cX8_readHeavy 38 [100, 182, 0, 59, 61, 42, 180, 0, 9, 3, 16, 99, 182, 0, 59, 62, 42, 180, 0, 19, 180, 0, 103, 42, 180, 0, 19, 27, 28, 182, 0, 107, 29, 79, 177] = true := by decide +kernel
theorem dX8_readHeavy_38 : decode cX8_readHeavy 38 = .ok (.isub, 1) := yd_op_100 (i := 0) yd_by_cX8_readHeavy_1 rfl rfl
theorem dX8_readHeavy_39 : decode cX8_readHeavy 39 = .ok (.invokevirtual 59, 3) := yd_op_182 (i := 1) (a := 0) (b := 59) yd_by_cX8_readHeavy_1 rfl rfl
theorem dX8_readHeavy_42 : decode cX8_readHeavy 42 = .ok (.istore_n 2, 1) := yd_op_61 (i := 4) yd_by_cX8_readHeavy_1 rfl rfl
theorem dX8_readHeavy_43 : decode cX8_readHeavy 43 = .ok (.aload_n 0, 1) := yd_op_42 (i := 5) yd_by_cX8_readHeavy_1 rfl rfl
theorem dX8_readHeavy_44 : decode cX8_readHeavy 44 = .ok (.getfield 9, 3) := yd_op_180 (i := 6) (a := 0) (b := 9) yd_by_cX8_readHeavy_1 rfl rfl
theorem dX8_readHeavy_47 : decode cX8_readHeavy 47 = .ok (.iconst 0, 1) := yd_op_3 (i := 9) yd_by_cX8_readHeavy_1 rfl rfl
theorem dX8_readHeavy_48 : decode cX8_readHeavy 48 = .ok (.bipush 99, 2) := yd_op_16 (i := 10) (a := 99) yd_by_cX8_readHeavy_1 rfl rfl
theorem dX8_readHeavy_50 : decode cX8_readHeavy 50 = .ok (.invokevirtual 59, 3) := yd_op_182 (i := 12) (a := 0) (b := 59) yd_by_cX8_readHeavy_1 rfl rfl
theorem dX8_readHeavy_53 : decode cX8_readHeavy 53 = .ok (.istore_n 3, 1) := yd_op_62 (i := 15) yd_by_cX8_readHeavy_1 rfl rfl
theorem dX8_readHeavy_54 : decode cX8_readHeavy 54 = .ok (.aload_n 0, 1) := yd_op_42 (i := 16) yd_by_cX8_readHeavy_1 rfl rfl
theorem dX8_readHeavy_55 : decode cX8_readHeavy 55 = .ok (.getfield 19, 3) := yd_op_180 (i := 17) (a := 0) (b := 19) yd_by_cX8_readHeavy_1 rfl rfl
theorem dX8_readHeavy_58 : decode cX8_readHeavy 58 = .ok (.getfield 103, 3) := yd_op_180 (i := 20) (a := 0) (b := 103) yd_by_cX8_readHeavy_1 rfl rfl
theorem dX8_readHeavy_61 : decode cX8_readHeavy 61 = .ok (.aload_n 0, 1) := yd_op_42 (i := 23) yd_by_cX8_readHeavy_1 rfl rfl
theorem dX8_readHeavy_62 : decode cX8_readHeavy 62 = .ok (.getfield 19, 3) := yd_op_180 (i := 24) (a := 0) (b := 19) yd_by_cX8_readHeavy_1 rfl rfl
theorem dX8_readHeavy_65 : decode cX8_readHeavy 65 = .ok (.iload_n 1, 1) := yd_op_27 (i := 27) yd_by_cX8_readHeavy_1 rfl rfl
theorem dX8_readHeavy_66 : decode cX8_readHeavy 66 = .ok (.iload_n 2, 1) := yd_op_28 (i := 28) yd_by_cX8_readHeavy_1 rfl rfl
theorem dX8_readHeavy_67 : decode cX8_readHeavy 67 = .ok (.invokevirtual 107, 3) := yd_op_182 (i := 29) (a := 0) (b := 107) yd_by_cX8_readHeavy_1 rfl rfl
theorem dX8_readHeavy_70 : decode cX8_readHeavy 70 = .ok (.iload_n 3, 1) := yd_op_29 (i := 32) yd_by_cX8_readHeavy_1 rfl rfl
theorem dX8_readHeavy_71 : decode cX8_readHeavy 71 = .ok (.iastore, 1) := yd_op_79 (i := 33) yd_by_cX8_readHeavy_1 rfl rfl
theorem dX8_readHeavy_72 : decode cX8_readHeavy 72 = .ok (.return_, 1) := yd_op_177 (i := 34) yd_by_cX8_readHeavy_1 rfl rfl
set_option maxRecDepth 100000 in
theorem yd_by_cX8_readPole_0 : ydk cX8_readPole 0 [42, 180, 0, 19, 180, 0, 110, 16, 10, 161, 0, 19, 42, 180, 0, 9, 8, 42, 180, 0, 9, 182, 0, 48, 182, 0, 52, 177, 42, 180, 0, 9, 182, 0, 85, 42, 182, 0, 113, 60, 42] = true := by decide +kernel
theorem dX8_readPole_0 : decode cX8_readPole 0 = .ok (.aload_n 0, 1) := yd_op_42 (i := 0) yd_by_cX8_readPole_0 rfl rfl
theorem dX8_readPole_1 : decode cX8_readPole 1 = .ok (.getfield 19, 3) := yd_op_180 (i := 1) (a := 0) (b := 19) yd_by_cX8_readPole_0 rfl rfl
theorem dX8_readPole_4 : decode cX8_readPole 4 = .ok (.getfield 110, 3) := yd_op_180 (i := 4) (a := 0) (b := 110) yd_by_cX8_readPole_0 rfl rfl
theorem dX8_readPole_7 : decode cX8_readPole 7 = .ok (.bipush 10, 2) := yd_op_16 (i := 7) (a := 10) yd_by_cX8_readPole_0 rfl rfl
theorem dX8_readPole_9 : decode cX8_readPole 9 = .ok (.if_icmp .lt 19, 3) := yd_op_161 (i := 9) (a := 0) (b := 19) yd_by_cX8_readPole_0 rfl rfl
theorem dX8_readPole_12 : decode cX8_readPole 12 = .ok (.aload_n 0, 1) := yd_op_42 (i := 12) yd_by_cX8_readPole_0 rfl rfl
theorem dX8_readPole_13 : decode cX8_readPole 13 = .ok (.getfield 9, 3) := yd_op_180 (i := 13) (a := 0) (b := 9) yd_by_cX8_readPole_0 rfl rfl
theorem dX8_readPole_16 : decode cX8_readPole 16 = .ok (.iconst 5, 1) := yd_op_8 (i := 16) yd_by_cX8_readPole_0 rfl rfl
theorem dX8_readPole_17 : decode cX8_readPole 17 = .ok (.aload_n 0, 1) := yd_op_42 (i := 17) yd_by_cX8_readPole_0 rfl rfl
theorem dX8_readPole_18 : decode cX8_readPole 18 = .ok (.getfield 9, 3) := yd_op_180 (i := 18) (a := 0) (b := 9) yd_by_cX8_readPole_0 rfl rfl
theorem dX8_readPole_21 : decode cX8_readPole 21 = .ok (.invokevirtual 48, 3) := yd_op_182 (i := 21) (a := 0) (b := 48) yd_by_cX8_readPole_0 rfl rfl
theorem dX8_readPole_24 : decode cX8_readPole 24 = .ok (.invokevirtual 52, 3) := yd_op_182 (i := 24) (a := 0) (b := 52) yd_by_cX8_readPole_0 rfl rfl
theorem dX8_readPole_27 : decode cX8_readPole 27 = .ok (.return_, 1) := yd_op_177 (i := 27) yd_by_cX8_readPole_0 rfl rfl
theorem dX8_readPole_28 : decode cX8_readPole 28 = .ok (.aload_n 0, 1) := yd_op_42 (i := 28) yd_by_cX8_readPole_0 rfl rfl
theorem dX8_readPole_29 : decode cX8_readPole 29 = .ok (.getfield 9, 3) := yd_op_180 (i := 29) (a := 0) (b := 9) yd_by_cX8_readPole_0 rfl rfl
theorem dX8_readPole_32 : decode cX8_readPole 32 = .ok (.invokevirtual 85, 3) := yd_op_182 (i := 32) (a := 0) (b := 85) yd_by_cX8_readPole_0 rfl rfl
theorem dX8_readPole_35 : decode cX8_readPole 35 = .ok (.aload_n 0, 1) := yd_op_42 (i := 35) yd_by_cX8_readPole_0 rfl rfl
theorem dX8_readPole_36 : decode cX8_readPole 36 = .ok (.invokevirtual 113, 3) := yd_op_182 (i := 36) (a := 0) (b := 113) yd_by_cX8_readPole_0 rfl rfl
theorem dX8_readPole_39 : decode cX8_readPole 39 = .ok (.istore_n 1, 1) := yd_op_60 (i := 39) yd_by_cX8_readPole_0 rfl rfl
theorem dX8_readPole_40 : decode cX8_readPole 40 = .ok (.aload_n 0, 1) := yd_op_42 (i := 40) yd_by_cX8_readPole_0 rfl rfl
set_option maxRecDepth 100000 in
theorem yd_by_cX8_readPole_1 : ydk cX8_readPole 41 [180, 0, 9, 8, 182, 0, 56, 42, 180, 0, 9, 3, 42, 180, 0, 19, 180, 0, 97, 4, 100, 182, 0, 59, 61, 42, 180, 0, 9, 182, 0, 48, 62, 42, 180, 0, 9, 3] = true := by decide +kernel
theorem dX8_readPole_41 : decode cX8_readPole 41 = .ok (.getfield 9, 3) := yd_op_180 (i := 0) (a := 0) (b := 9) yd_by_cX8_readPole_1 rfl rfl
theorem dX8_readPole_44 : decode cX8_readPole 44 = .ok (.iconst 5, 1) := yd_op_8 (i := 3) yd_by_cX8_readPole_1 rfl rfl
theorem dX8_readPole_45 : decode cX8_readPole 45 = .ok (.invokevirtual 56, 3) := yd_op_182 (i := 4) (a := 0) (b := 56) yd_by_cX8_readPole_1 rfl rfl
theorem dX8_readPole_48 : decode cX8_readPole 48 = .ok (.aload_n 0, 1) := yd_op_42 (i := 7) yd_by_cX8_readPole_1 rfl rfl
theorem dX8_readPole_49 : decode cX8_readPole 49 = .ok (.getfield 9, 3) := yd_op_180 (i := 8) (a := 0) (b := 9) yd_by_cX8_readPole_1 rfl rfl
theorem dX8_readPole_52 : decode cX8_readPole 52 = .ok (.iconst 0, 1) := yd_op_3 (i := 11) yd_by_cX8_readPole_1 rfl rfl
theorem dX8_readPole_53 : decode cX8_readPole 53 = .ok (.aload_n 0, 1) := yd_op_42 (i := 12) yd_by_cX8_readPole_1 rfl rfl
theorem dX8_readPole_54 : decode cX8_readPole 54 = .ok (.getfield 19, 3) := yd_op_180 (i := 13) (a := 0) (b := 19) yd_by_cX8_readPole_1 rfl rfl
theorem dX8_readPole_57 : decode cX8_readPole 57 = .ok (.getfield 97, 3) := yd_op_180 (i := 16) (a := 0) (b := 97) yd_by_cX8_readPole_1 rfl rfl
theorem dX8_readPole_60 : decode cX8_readPole 60 = .ok (.iconst 1, 1) := yd_op_4 (i := 19) yd_by_cX8_readPole_1 rfl rfl
theorem dX8_readPole_61 : decode cX8_readPole 61 = .ok (.isub, 1) := yd_op_100 (i := 20) yd_by_cX8_readPole_1 rfl rfl
theorem dX8_readPole_62 : decode cX8_readPole 62 = .ok (.invokevirtual 59, 3) := yd_op_182 (i := 21) (a := 0) (b := 59) yd_by_cX8_readPole_1 rfl rfl
theorem dX8_readPole_65 : decode cX8_readPole 65 = .ok (.istore_n 2, 1) := yd_op_61 (i := 24) yd_by_cX8_readPole_1 rfl rfl
theorem dX8_readPole_66 : decode cX8_readPole 66 = .ok (.aload_n 0, 1) := yd_op_42 (i := 25) yd_by_cX8_readPole_1 rfl rfl
theorem dX8_readPole_67 : decode cX8_readPole 67 = .ok (.getfield 9, 3) := yd_op_180 (i := 26) (a := 0) (b := 9) yd_by_cX8_readPole_1 rfl rfl
theorem dX8_readPole_70 : decode cX8_readPole 70 = .ok (.invokevirtual 48, 3) := yd_op_182 (i := 29) (a := 0) (b := 48) yd_by_cX8_readPole_1 rfl rfl
theorem dX8_readPole_73 : decode cX8_readPole 73 = .ok (.istore_n 3, 1) := yd_op_62 (i := 32) yd_by_cX8_readPole_1 rfl rfl
theorem dX8_readPole_74 : decode cX8_readPole 74 = .ok (.aload_n 0, 1) := yd_op_42 (i := 33) yd_by_cX8_readPole_1 rfl rfl
theorem dX8_readPole_75 : decode cX8_readPole 75 = .ok (.getfield 9, 3) := yd_op_180 (i := 34) (a := 0) (b := 9) yd_by_cX8_readPole_1 rfl rfl
theorem dX8_readPole_78 : decode cX8_readPole 78 = .ok (.iconst 0, 1) := yd_op_3 (i := 37) yd_by_cX8_readPole_1 rfl rfl
set_option maxRecDepth 100000 in
theorem yd_by_cX8_readPole_2 : ydk cX8_readPole 79 [42, 180, 0, 19, 180, 0, 100, 4, 100, 182, 0, 59, 54, 4, 42, 180, 0, 19, 28, 21, 4, 182, 0, 116, 153, 0, 12, 42, 180, 0, 9, 5, 29, 182, 0, 52, 42, 180, 0, 9] = true := by decide +kernel
theorem dX8_readPole_79 : decode cX8_readPole 79 = .ok (.aload_n 0, 1) := yd_op_42 (i := 0) yd_by_cX8_readPole_2 rfl rfl
theorem dX8_readPole_80 : decode cX8_readPole 80 = .ok (.getfield 19, 3) := yd_op_180 (i := 1) (a := 0) (b := 19) yd_by_cX8_readPole_2 rfl rfl
theorem dX8_readPole_83 : decode cX8_readPole 83 = .ok (.getfield 100, 3) := yd_op_180 (i := 4) (a := 0) (b := 100) yd_by_cX8_readPole_2 rfl rfl
theorem dX8_readPole_86 : decode cX8_readPole 86 = .ok (.iconst 1, 1) := yd_op_4 (i := 7) yd_by_cX8_readPole_2 rfl rfl
theorem dX8_readPole_87 : decode cX8_readPole 87 = .ok (.isub, 1) := yd_op_100 (i := 8) yd_by_cX8_readPole_2 rfl rfl
theorem dX8_readPole_88 : decode cX8_readPole 88 = .ok (.invokevirtual 59, 3) := yd_op_182 (i := 9) (a := 0) (b := 59) yd_by_cX8_readPole_2 rfl rfl
theorem dX8_readPole_91 : decode cX8_readPole 91 = .ok (.istore 4, 2) := yd_op_54 (i := 12) (a := 4) yd_by_cX8_readPole_2 rfl rfl
theorem dX8_readPole_93 : decode cX8_readPole 93 = .ok (.aload_n 0, 1) := yd_op_42 (i := 14) yd_by_cX8_readPole_2 rfl rfl
theorem dX8_readPole_94 : decode cX8_readPole 94 = .ok (.getfield 19, 3) := yd_op_180 (i := 15) (a := 0) (b := 19) yd_by_cX8_readPole_2 rfl rfl
theorem dX8_readPole_97 : decode cX8_readPole 97 = .ok (.iload_n 2, 1) := yd_op_28 (i := 18) yd_by_cX8_readPole_2 rfl rfl
theorem dX8_readPole_98 : decode cX8_readPole 98 = .ok (.iload 4, 2) := yd_op_21 (i := 19) (a := 4) yd_by_cX8_readPole_2 rfl rfl
theorem dX8_readPole_100 : decode cX8_readPole 100 = .ok (.invokevirtual 116, 3) := yd_op_182 (i := 21) (a := 0) (b := 116) yd_by_cX8_readPole_2 rfl rfl
theorem dX8_readPole_103 : decode cX8_readPole 103 = .ok (.ifCond .eq 12, 3) := yd_op_153 (i := 24) (a := 0) (b := 12) yd_by_cX8_readPole_2 rfl rfl
theorem dX8_readPole_106 : decode cX8_readPole 106 = .ok (.aload_n 0, 1) := yd_op_42 (i := 27) yd_by_cX8_readPole_2 rfl rfl
theorem dX8_readPole_107 : decode cX8_readPole 107 = .ok (.getfield 9, 3) := yd_op_180 (i := 28) (a := 0) (b := 9) yd_by_cX8_readPole_2 rfl rfl
theorem dX8_readPole_110 : decode cX8_readPole 110 = .ok (.iconst 2, 1) := yd_op_5 (i := 31) yd_by_cX8_readPole_2 rfl rfl
theorem dX8_readPole_111 : decode cX8_readPole 111 = .ok (.iload_n 3, 1) := yd_op_29 (i := 32) yd_by_cX8_readPole_2 rfl rfl
theorem dX8_readPole_112 : decode cX8_readPole 112 = .ok (.invokevirtual 52, 3) := yd_op_182 (i := 33) (a := 0) (b := 52) yd_by_cX8_readPole_2 rfl rfl
theorem dX8_readPole_115 : decode cX8_readPole 115 = .ok (.aload_n 0, 1) := yd_op_42 (i := 36) yd_by_cX8_readPole_2 rfl rfl
theorem dX8_readPole_116 : decode cX8_readPole 116 = .ok (.getfield 9, 3) := yd_op_180 (i := 37) (a := 0) (b := 9) yd_by_cX8_readPole_2 rfl rfl
set_option maxRecDepth 100000 in
theorem yd_by_cX8_readPole_3 : ydk cX8_readPole 119 [16, 6, 182, 0, 56, 42, 180, 0, 9, 3, 16, 99, 182, 0, 59, 54, 5, 42, 180, 0, 19, 27, 28, 21, 4, 21, 5, 182, 0, 120, 177] = true := by decide +kernel
theorem dX8_readPole_119 : decode cX8_readPole 119 = .ok (.bipush 6, 2) := yd_op_16 (i := 0) (a := 6) yd_by_cX8_readPole_3 rfl rfl
theorem dX8_readPole_121 : decode cX8_readPole 121 = .ok (.invokevirtual 56, 3) := yd_op_182 (i := 2) (a := 0) (b := 56) yd_by_cX8_readPole_3 rfl rfl
theorem dX8_readPole_124 : decode cX8_readPole 124 = .ok (.aload_n 0, 1) := yd_op_42 (i := 5) yd_by_cX8_readPole_3 rfl rfl
theorem dX8_readPole_125 : decode cX8_readPole 125 = .ok (.getfield 9, 3) := yd_op_180 (i := 6) (a := 0) (b := 9) yd_by_cX8_readPole_3 rfl rfl
theorem dX8_readPole_128 : decode cX8_readPole 128 = .ok (.iconst 0, 1) := yd_op_3 (i := 9) yd_by_cX8_readPole_3 rfl rfl
theorem dX8_readPole_129 : decode cX8_readPole 129 = .ok (.bipush 99, 2) := yd_op_16 (i := 10) (a := 99) yd_by_cX8_readPole_3 rfl rfl
theorem dX8_readPole_131 : decode cX8_readPole 131 = .ok (.invokevirtual 59, 3) := yd_op_182 (i := 12) (a := 0) (b := 59) yd_by_cX8_readPole_3 rfl rfl
theorem dX8_readPole_134 : decode cX8_readPole 134 = .ok (.istore 5, 2) := yd_op_54 (i := 15) (a := 5) yd_by_cX8_readPole_3 rfl rfl
theorem dX8_readPole_136 : decode cX8_readPole 136 = .ok (.aload_n 0, 1) := yd_op_42 (i := 17) yd_by_cX8_readPole_3 rfl rfl
theorem dX8_readPole_137 : decode cX8_readPole 137 = .ok (.getfield 19, 3) := yd_op_180 (i := 18) (a := 0) (b := 19) yd_by_cX8_readPole_3 rfl rfl
theorem dX8_readPole_140 : decode cX8_readPole 140 = .ok (.iload_n 1, 1) := yd_op_27 (i := 21) yd_by_cX8_readPole_3 rfl rfl
theorem dX8_readPole_141 : decode cX8_readPole 141 = .ok (.iload_n 2, 1) := yd_op_28 (i := 22) yd_by_cX8_readPole_3 rfl rfl
theorem dX8_readPole_142 : decode cX8_readPole 142 = .ok (.iload 4, 2) := yd_op_21 (i := 23) (a := 4) yd_by_cX8_readPole_3 rfl rfl
theorem dX8_readPole_144 : decode cX8_readPole 144 = .ok (.iload 5, 2) := yd_op_21 (i := 25) (a := 5) yd_by_cX8_readPole_3 rfl rfl
theorem dX8_readPole_146 : decode cX8_readPole 146 = .ok (.invokevirtual 120, 3) := yd_op_182 (i := 27) (a := 0) (b := 120) yd_by_cX8_readPole_3 rfl rfl
theorem dX8_readPole_149 : decode cX8_readPole 149 = .ok (.return_, 1) := yd_op_177 (i := 30) yd_by_cX8_readPole_3 rfl rfl
set_option maxRecDepth 100000 in
theorem yd_by_cX8_takeName_0 : ydk cX8_takeName 0 [42, 180, 0, 9, 182, 0, 124, 60, 42, 180, 0, 9, 180, 0, 127, 42, 180, 0, 9, 180, 0, 130, 46, 61, 42, 180, 0, 9, 182, 0, 70, 62, 27, 7, 160, 0, 24, 42] = true := by decide +kernel
theorem dX8_takeName_0 : decode cX8_takeName 0 = .ok (.aload_n 0, 1) := yd_op_42 (i := 0) yd_by_cX8_takeName_0 rfl rfl
theorem dX8_takeName_1 : decode cX8_takeName 1 = .ok (.getfield 9, 3) := yd_op_180 (i := 1) (a := 0) (b := 9) yd_by_cX8_takeName_0 rfl rfl
theorem dX8_takeName_4 : decode cX8_takeName 4 = .ok (.invokevirtual 124, 3) := yd_op_182 (i := 4) (a := 0) (b := 124) yd_by_cX8_takeName_0 rfl rfl
theorem dX8_takeName_7 : decode cX8_takeName 7 = .ok (.istore_n 1, 1) := yd_op_60 (i := 7) yd_by_cX8_takeName_0 rfl rfl
theorem dX8_takeName_8 : decode cX8_takeName 8 = .ok (.aload_n 0, 1) := yd_op_42 (i := 8) yd_by_cX8_takeName_0 rfl rfl
theorem dX8_takeName_9 : decode cX8_takeName 9 = .ok (.getfield 9, 3) := yd_op_180 (i := 9) (a := 0) (b := 9) yd_by_cX8_takeName_0 rfl rfl
theorem dX8_takeName_12 : decode cX8_takeName 12 = .ok (.getfield 127, 3) := yd_op_180 (i := 12) (a := 0) (b := 127) yd_by_cX8_takeName_0 rfl rfl
theorem dX8_takeName_15 : decode cX8_takeName 15 = .ok (.aload_n 0, 1) := yd_op_42 (i := 15) yd_by_cX8_takeName_0 rfl rfl
theorem dX8_takeName_16 : decode cX8_takeName 16 = .ok (.getfield 9, 3) := yd_op_180 (i := 16) (a := 0) (b := 9) yd_by_cX8_takeName_0 rfl rfl
theorem dX8_takeName_19 : decode cX8_takeName 19 = .ok (.getfield 130, 3) := yd_op_180 (i := 19) (a := 0) (b := 130) yd_by_cX8_takeName_0 rfl rfl
theorem dX8_takeName_22 : decode cX8_takeName 22 = .ok (.iaload, 1) := yd_op_46 (i := 22) yd_by_cX8_takeName_0 rfl rfl
theorem dX8_takeName_23 : decode cX8_takeName 23 = .ok (.istore_n 2, 1) := yd_op_61 (i := 23) yd_by_cX8_takeName_0 rfl rfl
theorem dX8_takeName_24 : decode cX8_takeName 24 = .ok (.aload_n 0, 1) := yd_op_42 (i := 24) yd_by_cX8_takeName_0 rfl rfl
theorem dX8_takeName_25 : decode cX8_takeName 25 = .ok (.getfield 9, 3) := yd_op_180 (i := 25) (a := 0) (b := 9) yd_by_cX8_takeName_0 rfl rfl
theorem dX8_takeName_28 : decode cX8_takeName 28 = .ok (.invokevirtual 70, 3) := yd_op_182 (i := 28) (a := 0) (b := 70) yd_by_cX8_takeName_0 rfl rfl
theorem dX8_takeName_31 : decode cX8_takeName 31 = .ok (.istore_n 3, 1) := yd_op_62 (i := 31) yd_by_cX8_takeName_0 rfl rfl
theorem dX8_takeName_32 : decode cX8_takeName 32 = .ok (.iload_n 1, 1) := yd_op_27 (i := 32) yd_by_cX8_takeName_0 rfl rfl
theorem dX8_takeName_33 : decode cX8_takeName 33 = .ok (.iconst 4, 1) := yd_op_7 (i := 33) yd_by_cX8_takeName_0 rfl rfl
theorem dX8_takeName_34 : decode cX8_takeName 34 = .ok (.if_icmp .ne 24, 3) := yd_op_160 (i := 34) (a := 0) (b := 24) yd_by_cX8_takeName_0 rfl rfl
theorem dX8_takeName_37 : decode cX8_takeName 37 = .ok (.aload_n 0, 1) := yd_op_42 (i := 37) yd_by_cX8_takeName_0 rfl rfl
set_option maxRecDepth 100000 in
theorem yd_by_cX8_takeName_1 : ydk cX8_takeName 38 [180, 0, 9, 4, 42, 180, 0, 9, 182, 0, 48, 16, 6, 96, 182, 0, 52, 167, 0, 72, 27, 4, 160, 0, 13, 29, 155, 0, 27, 29, 16, 27, 162, 0, 21, 42, 180, 0, 9, 4] = true := by decide +kernel
theorem dX8_takeName_38 : decode cX8_takeName 38 = .ok (.getfield 9, 3) := yd_op_180 (i := 0) (a := 0) (b := 9) yd_by_cX8_takeName_1 rfl rfl
theorem dX8_takeName_41 : decode cX8_takeName 41 = .ok (.iconst 1, 1) := yd_op_4 (i := 3) yd_by_cX8_takeName_1 rfl rfl
theorem dX8_takeName_42 : decode cX8_takeName 42 = .ok (.aload_n 0, 1) := yd_op_42 (i := 4) yd_by_cX8_takeName_1 rfl rfl
theorem dX8_takeName_43 : decode cX8_takeName 43 = .ok (.getfield 9, 3) := yd_op_180 (i := 5) (a := 0) (b := 9) yd_by_cX8_takeName_1 rfl rfl
theorem dX8_takeName_46 : decode cX8_takeName 46 = .ok (.invokevirtual 48, 3) := yd_op_182 (i := 8) (a := 0) (b := 48) yd_by_cX8_takeName_1 rfl rfl
theorem dX8_takeName_49 : decode cX8_takeName 49 = .ok (.bipush 6, 2) := yd_op_16 (i := 11) (a := 6) yd_by_cX8_takeName_1 rfl rfl
theorem dX8_takeName_51 : decode cX8_takeName 51 = .ok (.iadd, 1) := yd_op_96 (i := 13) yd_by_cX8_takeName_1 rfl rfl
theorem dX8_takeName_52 : decode cX8_takeName 52 = .ok (.invokevirtual 52, 3) := yd_op_182 (i := 14) (a := 0) (b := 52) yd_by_cX8_takeName_1 rfl rfl
theorem dX8_takeName_55 : decode cX8_takeName 55 = .ok (.goto 72, 3) := yd_op_167 (i := 17) (a := 0) (b := 72) yd_by_cX8_takeName_1 rfl rfl
theorem dX8_takeName_58 : decode cX8_takeName 58 = .ok (.iload_n 1, 1) := yd_op_27 (i := 20) yd_by_cX8_takeName_1 rfl rfl
theorem dX8_takeName_59 : decode cX8_takeName 59 = .ok (.iconst 1, 1) := yd_op_4 (i := 21) yd_by_cX8_takeName_1 rfl rfl
theorem dX8_takeName_60 : decode cX8_takeName 60 = .ok (.if_icmp .ne 13, 3) := yd_op_160 (i := 22) (a := 0) (b := 13) yd_by_cX8_takeName_1 rfl rfl
theorem dX8_takeName_63 : decode cX8_takeName 63 = .ok (.iload_n 3, 1) := yd_op_29 (i := 25) yd_by_cX8_takeName_1 rfl rfl
theorem dX8_takeName_64 : decode cX8_takeName 64 = .ok (.ifCond .lt 27, 3) := yd_op_155 (i := 26) (a := 0) (b := 27) yd_by_cX8_takeName_1 rfl rfl
theorem dX8_takeName_67 : decode cX8_takeName 67 = .ok (.iload_n 3, 1) := yd_op_29 (i := 29) yd_by_cX8_takeName_1 rfl rfl
theorem dX8_takeName_68 : decode cX8_takeName 68 = .ok (.bipush 27, 2) := yd_op_16 (i := 30) (a := 27) yd_by_cX8_takeName_1 rfl rfl
theorem dX8_takeName_70 : decode cX8_takeName 70 = .ok (.if_icmp .ge 21, 3) := yd_op_162 (i := 32) (a := 0) (b := 21) yd_by_cX8_takeName_1 rfl rfl
theorem dX8_takeName_73 : decode cX8_takeName 73 = .ok (.aload_n 0, 1) := yd_op_42 (i := 35) yd_by_cX8_takeName_1 rfl rfl
theorem dX8_takeName_74 : decode cX8_takeName 74 = .ok (.getfield 9, 3) := yd_op_180 (i := 36) (a := 0) (b := 9) yd_by_cX8_takeName_1 rfl rfl
theorem dX8_takeName_77 : decode cX8_takeName 77 = .ok (.iconst 1, 1) := yd_op_4 (i := 39) yd_by_cX8_takeName_1 rfl rfl
set_option maxRecDepth 100000 in
theorem yd_by_cX8_takeName_2 : ydk cX8_takeName 78 [42, 180, 0, 9, 182, 0, 48, 182, 0, 52, 167, 0, 39, 42, 180, 0, 19, 28, 182, 0, 133, 153, 0, 21, 42, 180, 0, 9, 6, 42, 180, 0, 9, 182, 0, 48, 182, 0, 52, 167, 0, 10, 42, 180, 0, 9] = true := by decide +kernel
theorem dX8_takeName_78 : decode cX8_takeName 78 = .ok (.aload_n 0, 1) := yd_op_42 (i := 0) yd_by_cX8_takeName_2 rfl rfl
theorem dX8_takeName_79 : decode cX8_takeName 79 = .ok (.getfield 9, 3) := yd_op_180 (i := 1) (a := 0) (b := 9) yd_by_cX8_takeName_2 rfl rfl
theorem dX8_takeName_82 : decode cX8_takeName 82 = .ok (.invokevirtual 48, 3) := yd_op_182 (i := 4) (a := 0) (b := 48) yd_by_cX8_takeName_2 rfl rfl
theorem dX8_takeName_85 : decode cX8_takeName 85 = .ok (.invokevirtual 52, 3) := yd_op_182 (i := 7) (a := 0) (b := 52) yd_by_cX8_takeName_2 rfl rfl
theorem dX8_takeName_88 : decode cX8_takeName 88 = .ok (.goto 39, 3) := yd_op_167 (i := 10) (a := 0) (b := 39) yd_by_cX8_takeName_2 rfl rfl
theorem dX8_takeName_91 : decode cX8_takeName 91 = .ok (.aload_n 0, 1) := yd_op_42 (i := 13) yd_by_cX8_takeName_2 rfl rfl
theorem dX8_takeName_92 : decode cX8_takeName 92 = .ok (.getfield 19, 3) := yd_op_180 (i := 14) (a := 0) (b := 19) yd_by_cX8_takeName_2 rfl rfl
theorem dX8_takeName_95 : decode cX8_takeName 95 = .ok (.iload_n 2, 1) := yd_op_28 (i := 17) yd_by_cX8_takeName_2 rfl rfl
theorem dX8_takeName_96 : decode cX8_takeName 96 = .ok (.invokevirtual 133, 3) := yd_op_182 (i := 18) (a := 0) (b := 133) yd_by_cX8_takeName_2 rfl rfl
theorem dX8_takeName_99 : decode cX8_takeName 99 = .ok (.ifCond .eq 21, 3) := yd_op_153 (i := 21) (a := 0) (b := 21) yd_by_cX8_takeName_2 rfl rfl
theorem dX8_takeName_102 : decode cX8_takeName 102 = .ok (.aload_n 0, 1) := yd_op_42 (i := 24) yd_by_cX8_takeName_2 rfl rfl
theorem dX8_takeName_103 : decode cX8_takeName 103 = .ok (.getfield 9, 3) := yd_op_180 (i := 25) (a := 0) (b := 9) yd_by_cX8_takeName_2 rfl rfl
theorem dX8_takeName_106 : decode cX8_takeName 106 = .ok (.iconst 3, 1) := yd_op_6 (i := 28) yd_by_cX8_takeName_2 rfl rfl
theorem dX8_takeName_107 : decode cX8_takeName 107 = .ok (.aload_n 0, 1) := yd_op_42 (i := 29) yd_by_cX8_takeName_2 rfl rfl
theorem dX8_takeName_108 : decode cX8_takeName 108 = .ok (.getfield 9, 3) := yd_op_180 (i := 30) (a := 0) (b := 9) yd_by_cX8_takeName_2 rfl rfl
theorem dX8_takeName_111 : decode cX8_takeName 111 = .ok (.invokevirtual 48, 3) := yd_op_182 (i := 33) (a := 0) (b := 48) yd_by_cX8_takeName_2 rfl rfl
theorem dX8_takeName_114 : decode cX8_takeName 114 = .ok (.invokevirtual 52, 3) := yd_op_182 (i := 36) (a := 0) (b := 52) yd_by_cX8_takeName_2 rfl rfl
theorem dX8_takeName_117 : decode cX8_takeName 117 = .ok (.goto 10, 3) := yd_op_167 (i := 39) (a := 0) (b := 10) yd_by_cX8_takeName_2 rfl rfl
theorem dX8_takeName_120 : decode cX8_takeName 120 = .ok (.aload_n 0, 1) := yd_op_42 (i := 42) yd_by_cX8_takeName_2 rfl rfl
theorem dX8_takeName_121 : decode cX8_takeName 121 = .ok (.getfield 9, 3) := yd_op_180 (i := 43) (a := 0) (b := 9) yd_by_cX8_takeName_2 rfl rfl
set_option maxRecDepth 100000 in
theorem yd_by_cX8_takeName_3 : ydk cX8_takeName 124 [182, 0, 85, 28, 172] = true := by decide +kernel
theorem dX8_takeName_124 : decode cX8_takeName 124 = .ok (.invokevirtual 85, 3) := yd_op_182 (i := 0) (a := 0) (b := 85) yd_by_cX8_takeName_3 rfl rfl
theorem dX8_takeName_127 : decode cX8_takeName 127 = .ok (.iload_n 2, 1) := yd_op_28 (i := 3) yd_by_cX8_takeName_3 rfl rfl
theorem dX8_takeName_128 : decode cX8_takeName 128 = .ok (.ireturn, 1) := yd_op_172 (i := 4) yd_by_cX8_takeName_3 rfl rfl
set_option maxRecDepth 100000 in
theorem yd_by_cX8_readAdds_0 : ydk cX8_readAdds 0 [42, 180, 0, 19, 180, 0, 137, 153, 0, 19, 42, 180, 0, 9, 8, 42, 180, 0, 9, 182, 0, 48, 182, 0, 52, 177, 42, 180, 0, 19, 4, 181, 0, 137, 42, 180, 0, 9, 182, 0, 85, 42] = true := by decide +kernel
theorem dX8_readAdds_0 : decode cX8_readAdds 0 = .ok (.aload_n 0, 1) := yd_op_42 (i := 0) yd_by_cX8_readAdds_0 rfl rfl
theorem dX8_readAdds_1 : decode cX8_readAdds 1 = .ok (.getfield 19, 3) := yd_op_180 (i := 1) (a := 0) (b := 19) yd_by_cX8_readAdds_0 rfl rfl
theorem dX8_readAdds_4 : decode cX8_readAdds 4 = .ok (.getfield 137, 3) := yd_op_180 (i := 4) (a := 0) (b := 137) yd_by_cX8_readAdds_0 rfl rfl
theorem dX8_readAdds_7 : decode cX8_readAdds 7 = .ok (.ifCond .eq 19, 3) := yd_op_153 (i := 7) (a := 0) (b := 19) yd_by_cX8_readAdds_0 rfl rfl
theorem dX8_readAdds_10 : decode cX8_readAdds 10 = .ok (.aload_n 0, 1) := yd_op_42 (i := 10) yd_by_cX8_readAdds_0 rfl rfl
theorem dX8_readAdds_11 : decode cX8_readAdds 11 = .ok (.getfield 9, 3) := yd_op_180 (i := 11) (a := 0) (b := 9) yd_by_cX8_readAdds_0 rfl rfl
theorem dX8_readAdds_14 : decode cX8_readAdds 14 = .ok (.iconst 5, 1) := yd_op_8 (i := 14) yd_by_cX8_readAdds_0 rfl rfl
theorem dX8_readAdds_15 : decode cX8_readAdds 15 = .ok (.aload_n 0, 1) := yd_op_42 (i := 15) yd_by_cX8_readAdds_0 rfl rfl
theorem dX8_readAdds_16 : decode cX8_readAdds 16 = .ok (.getfield 9, 3) := yd_op_180 (i := 16) (a := 0) (b := 9) yd_by_cX8_readAdds_0 rfl rfl
theorem dX8_readAdds_19 : decode cX8_readAdds 19 = .ok (.invokevirtual 48, 3) := yd_op_182 (i := 19) (a := 0) (b := 48) yd_by_cX8_readAdds_0 rfl rfl
theorem dX8_readAdds_22 : decode cX8_readAdds 22 = .ok (.invokevirtual 52, 3) := yd_op_182 (i := 22) (a := 0) (b := 52) yd_by_cX8_readAdds_0 rfl rfl
theorem dX8_readAdds_25 : decode cX8_readAdds 25 = .ok (.return_, 1) := yd_op_177 (i := 25) yd_by_cX8_readAdds_0 rfl rfl
theorem dX8_readAdds_26 : decode cX8_readAdds 26 = .ok (.aload_n 0, 1) := yd_op_42 (i := 26) yd_by_cX8_readAdds_0 rfl rfl
theorem dX8_readAdds_27 : decode cX8_readAdds 27 = .ok (.getfield 19, 3) := yd_op_180 (i := 27) (a := 0) (b := 19) yd_by_cX8_readAdds_0 rfl rfl
theorem dX8_readAdds_30 : decode cX8_readAdds 30 = .ok (.iconst 1, 1) := yd_op_4 (i := 30) yd_by_cX8_readAdds_0 rfl rfl
theorem dX8_readAdds_31 : decode cX8_readAdds 31 = .ok (.putfield 137, 3) := yd_op_181 (i := 31) (a := 0) (b := 137) yd_by_cX8_readAdds_0 rfl rfl
theorem dX8_readAdds_34 : decode cX8_readAdds 34 = .ok (.aload_n 0, 1) := yd_op_42 (i := 34) yd_by_cX8_readAdds_0 rfl rfl
theorem dX8_readAdds_35 : decode cX8_readAdds 35 = .ok (.getfield 9, 3) := yd_op_180 (i := 35) (a := 0) (b := 9) yd_by_cX8_readAdds_0 rfl rfl
theorem dX8_readAdds_38 : decode cX8_readAdds 38 = .ok (.invokevirtual 85, 3) := yd_op_182 (i := 38) (a := 0) (b := 85) yd_by_cX8_readAdds_0 rfl rfl
theorem dX8_readAdds_41 : decode cX8_readAdds 41 = .ok (.aload_n 0, 1) := yd_op_42 (i := 41) yd_by_cX8_readAdds_0 rfl rfl
set_option maxRecDepth 100000 in
theorem yd_by_cX8_readAdds_1 : ydk cX8_readAdds 42 [180, 0, 15, 42, 180, 0, 19, 180, 0, 141, 3, 182, 0, 145, 42, 180, 0, 19, 42, 180, 0, 19, 180, 0, 141, 16, 12, 182, 0, 151, 181, 0, 156, 177] = true := by decide +kernel
theorem dX8_readAdds_42 : decode cX8_readAdds 42 = .ok (.getfield 15, 3) := yd_op_180 (i := 0) (a := 0) (b := 15) yd_by_cX8_readAdds_1 rfl rfl
theorem dX8_readAdds_45 : decode cX8_readAdds 45 = .ok (.aload_n 0, 1) := yd_op_42 (i := 3) yd_by_cX8_readAdds_1 rfl rfl
theorem dX8_readAdds_46 : decode cX8_readAdds 46 = .ok (.getfield 19, 3) := yd_op_180 (i := 4) (a := 0) (b := 19) yd_by_cX8_readAdds_1 rfl rfl
theorem dX8_readAdds_49 : decode cX8_readAdds 49 = .ok (.getfield 141, 3) := yd_op_180 (i := 7) (a := 0) (b := 141) yd_by_cX8_readAdds_1 rfl rfl
theorem dX8_readAdds_52 : decode cX8_readAdds 52 = .ok (.iconst 0, 1) := yd_op_3 (i := 10) yd_by_cX8_readAdds_1 rfl rfl
theorem dX8_readAdds_53 : decode cX8_readAdds 53 = .ok (.invokevirtual 145, 3) := yd_op_182 (i := 11) (a := 0) (b := 145) yd_by_cX8_readAdds_1 rfl rfl
theorem dX8_readAdds_56 : decode cX8_readAdds 56 = .ok (.aload_n 0, 1) := yd_op_42 (i := 14) yd_by_cX8_readAdds_1 rfl rfl
theorem dX8_readAdds_57 : decode cX8_readAdds 57 = .ok (.getfield 19, 3) := yd_op_180 (i := 15) (a := 0) (b := 19) yd_by_cX8_readAdds_1 rfl rfl
theorem dX8_readAdds_60 : decode cX8_readAdds 60 = .ok (.aload_n 0, 1) := yd_op_42 (i := 18) yd_by_cX8_readAdds_1 rfl rfl
theorem dX8_readAdds_61 : decode cX8_readAdds 61 = .ok (.getfield 19, 3) := yd_op_180 (i := 19) (a := 0) (b := 19) yd_by_cX8_readAdds_1 rfl rfl
theorem dX8_readAdds_64 : decode cX8_readAdds 64 = .ok (.getfield 141, 3) := yd_op_180 (i := 22) (a := 0) (b := 141) yd_by_cX8_readAdds_1 rfl rfl
theorem dX8_readAdds_67 : decode cX8_readAdds 67 = .ok (.bipush 12, 2) := yd_op_16 (i := 25) (a := 12) yd_by_cX8_readAdds_1 rfl rfl
theorem dX8_readAdds_69 : decode cX8_readAdds 69 = .ok (.invokevirtual 151, 3) := yd_op_182 (i := 27) (a := 0) (b := 151) yd_by_cX8_readAdds_1 rfl rfl
theorem dX8_readAdds_72 : decode cX8_readAdds 72 = .ok (.putfield 156, 3) := yd_op_181 (i := 30) (a := 0) (b := 156) yd_by_cX8_readAdds_1 rfl rfl
theorem dX8_readAdds_75 : decode cX8_readAdds 75 = .ok (.return_, 1) := yd_op_177 (i := 33) yd_by_cX8_readAdds_1 rfl rfl
set_option maxRecDepth 100000 in
theorem yd_by_cX8_readHolds_0 : ydk cX8_readHolds 0 [42, 180, 0, 19, 180, 0, 159, 153, 0, 19, 42, 180, 0, 9, 8, 42, 180, 0, 9, 182, 0, 48, 182, 0, 52, 177, 42, 180, 0, 19, 4, 181, 0, 159, 42, 180, 0, 9, 182, 0, 85, 42] = true := by decide +kernel
theorem dX8_readHolds_0 : decode cX8_readHolds 0 = .ok (.aload_n 0, 1) := yd_op_42 (i := 0) yd_by_cX8_readHolds_0 rfl rfl
theorem dX8_readHolds_1 : decode cX8_readHolds 1 = .ok (.getfield 19, 3) := yd_op_180 (i := 1) (a := 0) (b := 19) yd_by_cX8_readHolds_0 rfl rfl
theorem dX8_readHolds_4 : decode cX8_readHolds 4 = .ok (.getfield 159, 3) := yd_op_180 (i := 4) (a := 0) (b := 159) yd_by_cX8_readHolds_0 rfl rfl
theorem dX8_readHolds_7 : decode cX8_readHolds 7 = .ok (.ifCond .eq 19, 3) := yd_op_153 (i := 7) (a := 0) (b := 19) yd_by_cX8_readHolds_0 rfl rfl
theorem dX8_readHolds_10 : decode cX8_readHolds 10 = .ok (.aload_n 0, 1) := yd_op_42 (i := 10) yd_by_cX8_readHolds_0 rfl rfl
theorem dX8_readHolds_11 : decode cX8_readHolds 11 = .ok (.getfield 9, 3) := yd_op_180 (i := 11) (a := 0) (b := 9) yd_by_cX8_readHolds_0 rfl rfl
theorem dX8_readHolds_14 : decode cX8_readHolds 14 = .ok (.iconst 5, 1) := yd_op_8 (i := 14) yd_by_cX8_readHolds_0 rfl rfl
theorem dX8_readHolds_15 : decode cX8_readHolds 15 = .ok (.aload_n 0, 1) := yd_op_42 (i := 15) yd_by_cX8_readHolds_0 rfl rfl
theorem dX8_readHolds_16 : decode cX8_readHolds 16 = .ok (.getfield 9, 3) := yd_op_180 (i := 16) (a := 0) (b := 9) yd_by_cX8_readHolds_0 rfl rfl
theorem dX8_readHolds_19 : decode cX8_readHolds 19 = .ok (.invokevirtual 48, 3) := yd_op_182 (i := 19) (a := 0) (b := 48) yd_by_cX8_readHolds_0 rfl rfl
theorem dX8_readHolds_22 : decode cX8_readHolds 22 = .ok (.invokevirtual 52, 3) := yd_op_182 (i := 22) (a := 0) (b := 52) yd_by_cX8_readHolds_0 rfl rfl
theorem dX8_readHolds_25 : decode cX8_readHolds 25 = .ok (.return_, 1) := yd_op_177 (i := 25) yd_by_cX8_readHolds_0 rfl rfl
theorem dX8_readHolds_26 : decode cX8_readHolds 26 = .ok (.aload_n 0, 1) := yd_op_42 (i := 26) yd_by_cX8_readHolds_0 rfl rfl
theorem dX8_readHolds_27 : decode cX8_readHolds 27 = .ok (.getfield 19, 3) := yd_op_180 (i := 27) (a := 0) (b := 19) yd_by_cX8_readHolds_0 rfl rfl
theorem dX8_readHolds_30 : decode cX8_readHolds 30 = .ok (.iconst 1, 1) := yd_op_4 (i := 30) yd_by_cX8_readHolds_0 rfl rfl
theorem dX8_readHolds_31 : decode cX8_readHolds 31 = .ok (.putfield 159, 3) := yd_op_181 (i := 31) (a := 0) (b := 159) yd_by_cX8_readHolds_0 rfl rfl
theorem dX8_readHolds_34 : decode cX8_readHolds 34 = .ok (.aload_n 0, 1) := yd_op_42 (i := 34) yd_by_cX8_readHolds_0 rfl rfl
theorem dX8_readHolds_35 : decode cX8_readHolds 35 = .ok (.getfield 9, 3) := yd_op_180 (i := 35) (a := 0) (b := 9) yd_by_cX8_readHolds_0 rfl rfl
theorem dX8_readHolds_38 : decode cX8_readHolds 38 = .ok (.invokevirtual 85, 3) := yd_op_182 (i := 38) (a := 0) (b := 85) yd_by_cX8_readHolds_0 rfl rfl
theorem dX8_readHolds_41 : decode cX8_readHolds 41 = .ok (.aload_n 0, 1) := yd_op_42 (i := 41) yd_by_cX8_readHolds_0 rfl rfl
set_option maxRecDepth 100000 in
theorem yd_by_cX8_readHolds_1 : ydk cX8_readHolds 42 [180, 0, 15, 42, 180, 0, 19, 180, 0, 162, 4, 182, 0, 165, 177] = true := by decide +kernel
theorem dX8_readHolds_42 : decode cX8_readHolds 42 = .ok (.getfield 15, 3) := yd_op_180 (i := 0) (a := 0) (b := 15) yd_by_cX8_readHolds_1 rfl rfl
theorem dX8_readHolds_45 : decode cX8_readHolds 45 = .ok (.aload_n 0, 1) := yd_op_42 (i := 3) yd_by_cX8_readHolds_1 rfl rfl
theorem dX8_readHolds_46 : decode cX8_readHolds 46 = .ok (.getfield 19, 3) := yd_op_180 (i := 4) (a := 0) (b := 19) yd_by_cX8_readHolds_1 rfl rfl
theorem dX8_readHolds_49 : decode cX8_readHolds 49 = .ok (.getfield 162, 3) := yd_op_180 (i := 7) (a := 0) (b := 162) yd_by_cX8_readHolds_1 rfl rfl
theorem dX8_readHolds_52 : decode cX8_readHolds 52 = .ok (.iconst 1, 1) := yd_op_4 (i := 10) yd_by_cX8_readHolds_1 rfl rfl
theorem dX8_readHolds_53 : decode cX8_readHolds 53 = .ok (.invokevirtual 165, 3) := yd_op_182 (i := 11) (a := 0) (b := 165) yd_by_cX8_readHolds_1 rfl rfl
theorem dX8_readHolds_56 : decode cX8_readHolds 56 = .ok (.return_, 1) := yd_op_177 (i := 14) yd_by_cX8_readHolds_1 rfl rfl
set_option maxRecDepth 100000 in
theorem yd_by_cX9_init_0 : ydk cX9_init 0 [42, 183, 0, 3, 42, 3, 181, 0, 9, 42, 27, 188, 8, 181, 0, 15, 177] = true := by decide +kernel
theorem dX9_init_0 : decode cX9_init 0 = .ok (.aload_n 0, 1) := yd_op_42 (i := 0) yd_by_cX9_init_0 rfl rfl
theorem dX9_init_1 : decode cX9_init 1 = .ok (.invokespecial 3, 3) := yd_op_183 (i := 1) (a := 0) (b := 3) yd_by_cX9_init_0 rfl rfl
theorem dX9_init_4 : decode cX9_init 4 = .ok (.aload_n 0, 1) := yd_op_42 (i := 4) yd_by_cX9_init_0 rfl rfl
theorem dX9_init_5 : decode cX9_init 5 = .ok (.iconst 0, 1) := yd_op_3 (i := 5) yd_by_cX9_init_0 rfl rfl
theorem dX9_init_6 : decode cX9_init 6 = .ok (.putfield 9, 3) := yd_op_181 (i := 6) (a := 0) (b := 9) yd_by_cX9_init_0 rfl rfl
theorem dX9_init_9 : decode cX9_init 9 = .ok (.aload_n 0, 1) := yd_op_42 (i := 9) yd_by_cX9_init_0 rfl rfl
theorem dX9_init_10 : decode cX9_init 10 = .ok (.iload_n 1, 1) := yd_op_27 (i := 10) yd_by_cX9_init_0 rfl rfl
theorem dX9_init_11 : decode cX9_init 11 = .ok (.newarray .byte, 2) := yd_op_188_8 (i := 11) yd_by_cX9_init_0 rfl rfl
theorem dX9_init_13 : decode cX9_init 13 = .ok (.putfield 15, 3) := yd_op_181 (i := 13) (a := 0) (b := 15) yd_by_cX9_init_0 rfl rfl
theorem dX9_init_16 : decode cX9_init 16 = .ok (.return_, 1) := yd_op_177 (i := 16) yd_by_cX9_init_0 rfl rfl
set_option maxRecDepth 100000 in
theorem yd_by_cX9_addByte_0 : ydk cX9_addByte 0 [42, 180, 0, 9, 42, 180, 0, 15, 190, 162, 0, 24, 42, 180, 0, 15, 42, 180, 0, 9, 27, 145, 84, 42, 89, 180, 0, 9, 4, 96, 181, 0, 9, 177] = true := by decide +kernel
theorem dX9_addByte_0 : decode cX9_addByte 0 = .ok (.aload_n 0, 1) := yd_op_42 (i := 0) yd_by_cX9_addByte_0 rfl rfl
theorem dX9_addByte_1 : decode cX9_addByte 1 = .ok (.getfield 9, 3) := yd_op_180 (i := 1) (a := 0) (b := 9) yd_by_cX9_addByte_0 rfl rfl
theorem dX9_addByte_4 : decode cX9_addByte 4 = .ok (.aload_n 0, 1) := yd_op_42 (i := 4) yd_by_cX9_addByte_0 rfl rfl
theorem dX9_addByte_5 : decode cX9_addByte 5 = .ok (.getfield 15, 3) := yd_op_180 (i := 5) (a := 0) (b := 15) yd_by_cX9_addByte_0 rfl rfl
theorem dX9_addByte_8 : decode cX9_addByte 8 = .ok (.arraylength, 1) := yd_op_190 (i := 8) yd_by_cX9_addByte_0 rfl rfl
theorem dX9_addByte_9 : decode cX9_addByte 9 = .ok (.if_icmp .ge 24, 3) := yd_op_162 (i := 9) (a := 0) (b := 24) yd_by_cX9_addByte_0 rfl rfl
theorem dX9_addByte_12 : decode cX9_addByte 12 = .ok (.aload_n 0, 1) := yd_op_42 (i := 12) yd_by_cX9_addByte_0 rfl rfl
theorem dX9_addByte_13 : decode cX9_addByte 13 = .ok (.getfield 15, 3) := yd_op_180 (i := 13) (a := 0) (b := 15) yd_by_cX9_addByte_0 rfl rfl
theorem dX9_addByte_16 : decode cX9_addByte 16 = .ok (.aload_n 0, 1) := yd_op_42 (i := 16) yd_by_cX9_addByte_0 rfl rfl
theorem dX9_addByte_17 : decode cX9_addByte 17 = .ok (.getfield 9, 3) := yd_op_180 (i := 17) (a := 0) (b := 9) yd_by_cX9_addByte_0 rfl rfl
theorem dX9_addByte_20 : decode cX9_addByte 20 = .ok (.iload_n 1, 1) := yd_op_27 (i := 20) yd_by_cX9_addByte_0 rfl rfl
theorem dX9_addByte_21 : decode cX9_addByte 21 = .ok (.i2b, 1) := yd_op_145 (i := 21) yd_by_cX9_addByte_0 rfl rfl
theorem dX9_addByte_22 : decode cX9_addByte 22 = .ok (.bastore, 1) := yd_op_84 (i := 22) yd_by_cX9_addByte_0 rfl rfl
theorem dX9_addByte_23 : decode cX9_addByte 23 = .ok (.aload_n 0, 1) := yd_op_42 (i := 23) yd_by_cX9_addByte_0 rfl rfl
theorem dX9_addByte_24 : decode cX9_addByte 24 = .ok (.dup, 1) := yd_op_89 (i := 24) yd_by_cX9_addByte_0 rfl rfl
theorem dX9_addByte_25 : decode cX9_addByte 25 = .ok (.getfield 9, 3) := yd_op_180 (i := 25) (a := 0) (b := 9) yd_by_cX9_addByte_0 rfl rfl
theorem dX9_addByte_28 : decode cX9_addByte 28 = .ok (.iconst 1, 1) := yd_op_4 (i := 28) yd_by_cX9_addByte_0 rfl rfl
theorem dX9_addByte_29 : decode cX9_addByte 29 = .ok (.iadd, 1) := yd_op_96 (i := 29) yd_by_cX9_addByte_0 rfl rfl
theorem dX9_addByte_30 : decode cX9_addByte 30 = .ok (.putfield 9, 3) := yd_op_181 (i := 30) (a := 0) (b := 9) yd_by_cX9_addByte_0 rfl rfl
theorem dX9_addByte_33 : decode cX9_addByte 33 = .ok (.return_, 1) := yd_op_177 (i := 33) yd_by_cX9_addByte_0 rfl rfl
set_option maxRecDepth 100000 in
theorem yd_by_cX9_addNumber_0 : ydk cX9_addNumber 0 [42, 27, 16, 24, 122, 182, 0, 19, 42, 27, 16, 16, 122, 182, 0, 19, 42, 27, 16, 8, 122, 182, 0, 19, 42, 27, 182, 0, 19, 177] = true := by decide +kernel
theorem dX9_addNumber_0 : decode cX9_addNumber 0 = .ok (.aload_n 0, 1) := yd_op_42 (i := 0) yd_by_cX9_addNumber_0 rfl rfl
theorem dX9_addNumber_1 : decode cX9_addNumber 1 = .ok (.iload_n 1, 1) := yd_op_27 (i := 1) yd_by_cX9_addNumber_0 rfl rfl
theorem dX9_addNumber_2 : decode cX9_addNumber 2 = .ok (.bipush 24, 2) := yd_op_16 (i := 2) (a := 24) yd_by_cX9_addNumber_0 rfl rfl
theorem dX9_addNumber_4 : decode cX9_addNumber 4 = .ok (.ishr, 1) := yd_op_122 (i := 4) yd_by_cX9_addNumber_0 rfl rfl
theorem dX9_addNumber_5 : decode cX9_addNumber 5 = .ok (.invokevirtual 19, 3) := yd_op_182 (i := 5) (a := 0) (b := 19) yd_by_cX9_addNumber_0 rfl rfl
theorem dX9_addNumber_8 : decode cX9_addNumber 8 = .ok (.aload_n 0, 1) := yd_op_42 (i := 8) yd_by_cX9_addNumber_0 rfl rfl
theorem dX9_addNumber_9 : decode cX9_addNumber 9 = .ok (.iload_n 1, 1) := yd_op_27 (i := 9) yd_by_cX9_addNumber_0 rfl rfl
theorem dX9_addNumber_10 : decode cX9_addNumber 10 = .ok (.bipush 16, 2) := yd_op_16 (i := 10) (a := 16) yd_by_cX9_addNumber_0 rfl rfl
theorem dX9_addNumber_12 : decode cX9_addNumber 12 = .ok (.ishr, 1) := yd_op_122 (i := 12) yd_by_cX9_addNumber_0 rfl rfl
theorem dX9_addNumber_13 : decode cX9_addNumber 13 = .ok (.invokevirtual 19, 3) := yd_op_182 (i := 13) (a := 0) (b := 19) yd_by_cX9_addNumber_0 rfl rfl
theorem dX9_addNumber_16 : decode cX9_addNumber 16 = .ok (.aload_n 0, 1) := yd_op_42 (i := 16) yd_by_cX9_addNumber_0 rfl rfl
theorem dX9_addNumber_17 : decode cX9_addNumber 17 = .ok (.iload_n 1, 1) := yd_op_27 (i := 17) yd_by_cX9_addNumber_0 rfl rfl
theorem dX9_addNumber_18 : decode cX9_addNumber 18 = .ok (.bipush 8, 2) := yd_op_16 (i := 18) (a := 8) yd_by_cX9_addNumber_0 rfl rfl
theorem dX9_addNumber_20 : decode cX9_addNumber 20 = .ok (.ishr, 1) := yd_op_122 (i := 20) yd_by_cX9_addNumber_0 rfl rfl
theorem dX9_addNumber_21 : decode cX9_addNumber 21 = .ok (.invokevirtual 19, 3) := yd_op_182 (i := 21) (a := 0) (b := 19) yd_by_cX9_addNumber_0 rfl rfl
theorem dX9_addNumber_24 : decode cX9_addNumber 24 = .ok (.aload_n 0, 1) := yd_op_42 (i := 24) yd_by_cX9_addNumber_0 rfl rfl
theorem dX9_addNumber_25 : decode cX9_addNumber 25 = .ok (.iload_n 1, 1) := yd_op_27 (i := 25) yd_by_cX9_addNumber_0 rfl rfl
theorem dX9_addNumber_26 : decode cX9_addNumber 26 = .ok (.invokevirtual 19, 3) := yd_op_182 (i := 26) (a := 0) (b := 19) yd_by_cX9_addNumber_0 rfl rfl
theorem dX9_addNumber_29 : decode cX9_addNumber 29 = .ok (.return_, 1) := yd_op_177 (i := 29) yd_by_cX9_addNumber_0 rfl rfl
set_option maxRecDepth 100000 in
theorem yd_by_cX9_byteAt_0 : ydk cX9_byteAt 0 [27, 155, 0, 33, 27, 42, 180, 0, 9, 162, 0, 25, 27, 42, 180, 0, 15, 190, 162, 0, 16, 42, 180, 0, 15, 27, 51, 17, 0, 255, 126, 167, 0, 4, 2, 172] = true := by decide +kernel
theorem dX9_byteAt_0 : decode cX9_byteAt 0 = .ok (.iload_n 1, 1) := yd_op_27 (i := 0) yd_by_cX9_byteAt_0 rfl rfl
theorem dX9_byteAt_1 : decode cX9_byteAt 1 = .ok (.ifCond .lt 33, 3) := yd_op_155 (i := 1) (a := 0) (b := 33) yd_by_cX9_byteAt_0 rfl rfl
theorem dX9_byteAt_4 : decode cX9_byteAt 4 = .ok (.iload_n 1, 1) := yd_op_27 (i := 4) yd_by_cX9_byteAt_0 rfl rfl
theorem dX9_byteAt_5 : decode cX9_byteAt 5 = .ok (.aload_n 0, 1) := yd_op_42 (i := 5) yd_by_cX9_byteAt_0 rfl rfl
theorem dX9_byteAt_6 : decode cX9_byteAt 6 = .ok (.getfield 9, 3) := yd_op_180 (i := 6) (a := 0) (b := 9) yd_by_cX9_byteAt_0 rfl rfl
theorem dX9_byteAt_9 : decode cX9_byteAt 9 = .ok (.if_icmp .ge 25, 3) := yd_op_162 (i := 9) (a := 0) (b := 25) yd_by_cX9_byteAt_0 rfl rfl
theorem dX9_byteAt_12 : decode cX9_byteAt 12 = .ok (.iload_n 1, 1) := yd_op_27 (i := 12) yd_by_cX9_byteAt_0 rfl rfl
theorem dX9_byteAt_13 : decode cX9_byteAt 13 = .ok (.aload_n 0, 1) := yd_op_42 (i := 13) yd_by_cX9_byteAt_0 rfl rfl
theorem dX9_byteAt_14 : decode cX9_byteAt 14 = .ok (.getfield 15, 3) := yd_op_180 (i := 14) (a := 0) (b := 15) yd_by_cX9_byteAt_0 rfl rfl
theorem dX9_byteAt_17 : decode cX9_byteAt 17 = .ok (.arraylength, 1) := yd_op_190 (i := 17) yd_by_cX9_byteAt_0 rfl rfl
theorem dX9_byteAt_18 : decode cX9_byteAt 18 = .ok (.if_icmp .ge 16, 3) := yd_op_162 (i := 18) (a := 0) (b := 16) yd_by_cX9_byteAt_0 rfl rfl
theorem dX9_byteAt_21 : decode cX9_byteAt 21 = .ok (.aload_n 0, 1) := yd_op_42 (i := 21) yd_by_cX9_byteAt_0 rfl rfl
theorem dX9_byteAt_22 : decode cX9_byteAt 22 = .ok (.getfield 15, 3) := yd_op_180 (i := 22) (a := 0) (b := 15) yd_by_cX9_byteAt_0 rfl rfl
theorem dX9_byteAt_25 : decode cX9_byteAt 25 = .ok (.iload_n 1, 1) := yd_op_27 (i := 25) yd_by_cX9_byteAt_0 rfl rfl
theorem dX9_byteAt_26 : decode cX9_byteAt 26 = .ok (.baload, 1) := yd_op_51 (i := 26) yd_by_cX9_byteAt_0 rfl rfl
theorem dX9_byteAt_27 : decode cX9_byteAt 27 = .ok (.sipush 255, 3) := yd_op_17 (i := 27) (a := 0) (b := 255) yd_by_cX9_byteAt_0 rfl rfl
theorem dX9_byteAt_30 : decode cX9_byteAt 30 = .ok (.iand, 1) := yd_op_126 (i := 30) yd_by_cX9_byteAt_0 rfl rfl
theorem dX9_byteAt_31 : decode cX9_byteAt 31 = .ok (.goto 4, 3) := yd_op_167 (i := 31) (a := 0) (b := 4) yd_by_cX9_byteAt_0 rfl rfl
theorem dX9_byteAt_34 : decode cX9_byteAt 34 = .ok (.iconst (-1), 1) := yd_op_2 (i := 34) yd_by_cX9_byteAt_0 rfl rfl
theorem dX9_byteAt_35 : decode cX9_byteAt 35 = .ok (.ireturn, 1) := yd_op_172 (i := 35) yd_by_cX9_byteAt_0 rfl rfl
set_option maxRecDepth 100000 in
theorem yd_by_cX9_pairAt_0 : ydk cX9_pairAt 0 [42, 27, 182, 0, 23, 16, 8, 120, 42, 27, 4, 96, 182, 0, 23, 128, 172] = true := by decide +kernel
theorem dX9_pairAt_0 : decode cX9_pairAt 0 = .ok (.aload_n 0, 1) := yd_op_42 (i := 0) yd_by_cX9_pairAt_0 rfl rfl
theorem dX9_pairAt_1 : decode cX9_pairAt 1 = .ok (.iload_n 1, 1) := yd_op_27 (i := 1) yd_by_cX9_pairAt_0 rfl rfl
theorem dX9_pairAt_2 : decode cX9_pairAt 2 = .ok (.invokevirtual 23, 3) := yd_op_182 (i := 2) (a := 0) (b := 23) yd_by_cX9_pairAt_0 rfl rfl
theorem dX9_pairAt_5 : decode cX9_pairAt 5 = .ok (.bipush 8, 2) := yd_op_16 (i := 5) (a := 8) yd_by_cX9_pairAt_0 rfl rfl
theorem dX9_pairAt_7 : decode cX9_pairAt 7 = .ok (.ishl, 1) := yd_op_120 (i := 7) yd_by_cX9_pairAt_0 rfl rfl
theorem dX9_pairAt_8 : decode cX9_pairAt 8 = .ok (.aload_n 0, 1) := yd_op_42 (i := 8) yd_by_cX9_pairAt_0 rfl rfl
theorem dX9_pairAt_9 : decode cX9_pairAt 9 = .ok (.iload_n 1, 1) := yd_op_27 (i := 9) yd_by_cX9_pairAt_0 rfl rfl
theorem dX9_pairAt_10 : decode cX9_pairAt 10 = .ok (.iconst 1, 1) := yd_op_4 (i := 10) yd_by_cX9_pairAt_0 rfl rfl
theorem dX9_pairAt_11 : decode cX9_pairAt 11 = .ok (.iadd, 1) := yd_op_96 (i := 11) yd_by_cX9_pairAt_0 rfl rfl
theorem dX9_pairAt_12 : decode cX9_pairAt 12 = .ok (.invokevirtual 23, 3) := yd_op_182 (i := 12) (a := 0) (b := 23) yd_by_cX9_pairAt_0 rfl rfl
theorem dX9_pairAt_15 : decode cX9_pairAt 15 = .ok (.ior, 1) := yd_op_128 (i := 15) yd_by_cX9_pairAt_0 rfl rfl
theorem dX9_pairAt_16 : decode cX9_pairAt 16 = .ok (.ireturn, 1) := yd_op_172 (i := 16) yd_by_cX9_pairAt_0 rfl rfl
set_option maxRecDepth 100000 in
theorem yd_by_cX9_checkOf_0 : ydk cX9_checkOf 0 [16, 127, 61, 3, 62, 29, 27, 162, 0, 23, 6, 28, 104, 42, 29, 182, 0, 23, 96, 17, 0, 251, 112, 61, 132, 3, 1, 167, 255, 234, 28] = true := by decide +kernel
theorem dX9_checkOf_0 : decode cX9_checkOf 0 = .ok (.bipush 127, 2) := yd_op_16 (i := 0) (a := 127) yd_by_cX9_checkOf_0 rfl rfl
theorem dX9_checkOf_2 : decode cX9_checkOf 2 = .ok (.istore_n 2, 1) := yd_op_61 (i := 2) yd_by_cX9_checkOf_0 rfl rfl
theorem dX9_checkOf_3 : decode cX9_checkOf 3 = .ok (.iconst 0, 1) := yd_op_3 (i := 3) yd_by_cX9_checkOf_0 rfl rfl
theorem dX9_checkOf_4 : decode cX9_checkOf 4 = .ok (.istore_n 3, 1) := yd_op_62 (i := 4) yd_by_cX9_checkOf_0 rfl rfl
theorem dX9_checkOf_5 : decode cX9_checkOf 5 = .ok (.iload_n 3, 1) := yd_op_29 (i := 5) yd_by_cX9_checkOf_0 rfl rfl
theorem dX9_checkOf_6 : decode cX9_checkOf 6 = .ok (.iload_n 1, 1) := yd_op_27 (i := 6) yd_by_cX9_checkOf_0 rfl rfl
theorem dX9_checkOf_7 : decode cX9_checkOf 7 = .ok (.if_icmp .ge 23, 3) := yd_op_162 (i := 7) (a := 0) (b := 23) yd_by_cX9_checkOf_0 rfl rfl
theorem dX9_checkOf_10 : decode cX9_checkOf 10 = .ok (.iconst 3, 1) := yd_op_6 (i := 10) yd_by_cX9_checkOf_0 rfl rfl
theorem dX9_checkOf_11 : decode cX9_checkOf 11 = .ok (.iload_n 2, 1) := yd_op_28 (i := 11) yd_by_cX9_checkOf_0 rfl rfl
theorem dX9_checkOf_12 : decode cX9_checkOf 12 = .ok (.imul, 1) := yd_op_104 (i := 12) yd_by_cX9_checkOf_0 rfl rfl
theorem dX9_checkOf_13 : decode cX9_checkOf 13 = .ok (.aload_n 0, 1) := yd_op_42 (i := 13) yd_by_cX9_checkOf_0 rfl rfl
theorem dX9_checkOf_14 : decode cX9_checkOf 14 = .ok (.iload_n 3, 1) := yd_op_29 (i := 14) yd_by_cX9_checkOf_0 rfl rfl
theorem dX9_checkOf_15 : decode cX9_checkOf 15 = .ok (.invokevirtual 23, 3) := yd_op_182 (i := 15) (a := 0) (b := 23) yd_by_cX9_checkOf_0 rfl rfl
theorem dX9_checkOf_18 : decode cX9_checkOf 18 = .ok (.iadd, 1) := yd_op_96 (i := 18) yd_by_cX9_checkOf_0 rfl rfl
theorem dX9_checkOf_19 : decode cX9_checkOf 19 = .ok (.sipush 251, 3) := yd_op_17 (i := 19) (a := 0) (b := 251) yd_by_cX9_checkOf_0 rfl rfl
theorem dX9_checkOf_22 : decode cX9_checkOf 22 = .ok (.irem, 1) := yd_op_112 (i := 22) yd_by_cX9_checkOf_0 rfl rfl
theorem dX9_checkOf_23 : decode cX9_checkOf 23 = .ok (.istore_n 2, 1) := yd_op_61 (i := 23) yd_by_cX9_checkOf_0 rfl rfl
theorem dX9_checkOf_24 : decode cX9_checkOf 24 = .ok (.iinc 3 1, 3) := yd_op_132 (i := 24) (a := 3) (b := 1) yd_by_cX9_checkOf_0 rfl rfl
theorem dX9_checkOf_27 : decode cX9_checkOf 27 = .ok (.goto (-22), 3) := yd_op_167 (i := 27) (a := 255) (b := 234) yd_by_cX9_checkOf_0 rfl rfl
theorem dX9_checkOf_30 : decode cX9_checkOf 30 = .ok (.iload_n 2, 1) := yd_op_28 (i := 30) yd_by_cX9_checkOf_0 rfl rfl
set_option maxRecDepth 100000 in
theorem yd_by_cX9_checkOf_1 : ydk cX9_checkOf 31 [172] = true := by decide +kernel
theorem dX9_checkOf_31 : decode cX9_checkOf 31 = .ok (.ireturn, 1) := yd_op_172 (i := 0) yd_by_cX9_checkOf_1 rfl rfl
