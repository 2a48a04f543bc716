section ZS7
variable {X : zCX} {cc : ByteArray} {own : String} {d n cs ss pc pc' : Nat} {σ : zSto} {lv : List (Option Value)} {st : List Value}
theorem zI2c {x : Int} (h : 0 ≤ x ∧ x ≤ 65535) : ((zI x).toUInt32 % 65536).toInt32 = zI x := by
  apply Int32.toBitVec_inj.mp
  apply BitVec.eq_of_toNat_eq
  have e1 : (zI x).toBitVec.toNat = x.toNat := by
    have := zun (zI x)
    rw [zI_t (by omega) (by omega)] at this
    omega
  have e2 : (((zI x).toUInt32 % 65536).toInt32).toBitVec.toNat = (zI x).toBitVec.toNat % 65536 := by
    show ((zI x).toBitVec % 65536#32).toNat = _
    rw [BitVec.toNat_umod]
    rfl
  rw [e2, e1]
  omega
theorem zt_i2c {x : Int} (hX : zok X cc own d) (hd : decode cc pc = .ok (.i2c, 1)) (hp : pc + 1 = pc') (h : 0 ≤ x ∧ x ≤ 65535) (k : zZ X n cs ss σ pc' lv (.int (zI x) :: st)) : zZ X n cs ss σ pc lv (.int (zI x) :: st) := by
  subst hp
  obtain ⟨E, p, l, e, R, s, m, args, below, meth, c, Q, nL⟩ := X
  obtain ⟨hx, hb, -⟩ := hX
  intro H locs ls hG hS hlv
  exact lv_i2c hx hb hd (zI2c h) (k H locs ls hG hS hlv)
theorem znc {x : Int} (h : 0 ≤ x ∧ x ≤ 65535) : narrow .char (.int (zI x)) = .int (zI x) := by
  show Value.int _ = _
  exact congrArg Value.int (zI2c h)
end ZS7
theorem zs_coder (l : Launch) (E : zEN) (z : zST) (n : Nat) (σ : zSto) : zCt2 l E z yJ0_coder_7d493 cJ0_coder_7d493 1 (some .byte) 0 n n 0 0 σ [.ref z.1] (fun r σ' => σ = σ' ∧ r = 0) := by
  refine zCt2_of3 [some (.ref z.1)] (by decide +kernel) (Nat.le_of_ble_eq_true rfl) rfl ?_
  intro X hE hX hR hL hN hxs
  subst hE
  have hX : zok X cJ0_coder_7d493 RJ0 0 := hX
  refine zt_scomp (pc' := 3) hX hxs dJ0_coder_7d493_0 rfl zw_5_20 ?_
  refine zt_ifeq (pc' := 6) (tgt := 13) hX dJ0_coder_7d493_3 rfl (by decide) ⟨by omega, by omega⟩ (fun c => absurd c (by decide)) (fun c => ?_)
  refine zt_aload_n (pc' := 7) hX dJ0_coder_7d493_6 rfl rfl ?_
  refine zt_scod (pc' := 10) hX hxs dJ0_coder_7d493_7 rfl zw_5_21 ?_
  refine zt_goto (tgt := 14) hX dJ0_coder_7d493_10 (by decide) ?_
  exact zt_nret hX hR dJ0_coder_7d493_14 rfl (by decide +kernel) ⟨by decide, by decide⟩ ⟨rfl, rfl⟩
theorem zs_isLatin1 (l : Launch) (E : zEN) (z : zST) (n : Nat) (σ : zSto) : zCt2 l E z yJ0_isLatin1_aae02 cJ0_isLatin1_aae02 1 (some .boolean) 0 n n 0 0 σ [.ref z.1] (fun r σ' => σ = σ' ∧ r = 1) := by
  refine zCt2_of3 [some (.ref z.1)] (by decide +kernel) (Nat.le_of_ble_eq_true rfl) rfl ?_
  intro X hE hX hR hL hN hxs
  subst hE
  have hX : zok X cJ0_isLatin1_aae02 RJ0 0 := hX
  refine zt_scomp (pc' := 3) hX hxs dJ0_isLatin1_aae02_0 rfl zw_5_20 ?_
  refine zt_ifeq (pc' := 6) (tgt := 17) hX dJ0_isLatin1_aae02_3 rfl (by decide) ⟨by omega, by omega⟩ (fun c => absurd c (by decide)) (fun c => ?_)
  refine zt_aload_n (pc' := 7) hX dJ0_isLatin1_aae02_6 rfl rfl ?_
  refine zt_scod (pc' := 10) hX hxs dJ0_isLatin1_aae02_7 rfl zw_5_21 ?_
  refine zt_ifne (pc' := 13) (tgt := 17) hX dJ0_isLatin1_aae02_10 rfl (by decide) ⟨by omega, by omega⟩ (fun c => absurd rfl c) (fun c => ?_)
  refine zt_iconst (pc' := 14) hX dJ0_isLatin1_aae02_13 rfl ?_
  refine zt_goto (tgt := 18) hX dJ0_isLatin1_aae02_14 (by decide) ?_
  exact zt_zret hX hR dJ0_isLatin1_aae02_18 ⟨by decide, by decide⟩ ⟨rfl, rfl⟩
theorem zshr0 (x : Int) (h : -2147483648 ≤ x) (h' : x ≤ 2147483647) : (zI x >>> (zI 0 &&& 31)).toInt = x := by
  have e : (zI 0 &&& 31) = (0 : Int32) := by decide +kernel
  rw [e]
  have e2 : zI x >>> (0 : Int32) = zI x := by
    apply Int32.toBitVec_inj.mp
    rw [Int32.toBitVec_shiftRight]
    simp
  rw [e2, zI_t h h']
theorem zs_length (l : Launch) (E : zEN) (z : zST) (n : Nat) (σ : zSto) : zCt2 l E z yJ0_length_8abf5 cJ0_length_8abf5 1 (some .int) 1 n n 0 0 σ [.ref z.1] (fun r σ' => σ = σ' ∧ r = (z.2.2.1 : Int)) := by
  refine zCt2_of3 [some (.ref z.1)] (by decide +kernel) (Nat.le_of_ble_eq_true rfl) rfl ?_
  intro X hE hX hR hL hN hxs
  subst hE
  have hX : zok X cJ0_length_8abf5 RJ0 1 := hX
  have hL2 := hxs.2.2.2.1
  refine zt_aload_n (pc' := 1) hX dJ0_length_8abf5_0 rfl rfl ?_
  refine zt_sval (pc' := 4) hX hxs dJ0_length_8abf5_1 rfl zw_5_15 ?_
  refine zt_slen (pc' := 5) hX hxs dJ0_length_8abf5_4 rfl ?_
  refine zt_aload_n (pc' := 6) hX dJ0_length_8abf5_5 rfl rfl ?_
  refine zt_callV2 (pc' := 9) (As := []) hX hxs (zs_coder _ _ z n σ) zm_yJ0_coder_7d493 dJ0_length_8abf5_6 rfl zw_5_16 rfl rfl rfl (Nat.le_of_ble_eq_true rfl) (by decide) ⟨Nat.zero_le _, Nat.zero_le _⟩ (fun r σ' hr hp => ?_)
  obtain ⟨rfl, rfl⟩ := hp
  refine zt_ishr (pc' := 10) (x := (z.2.2.1 : Int)) (y := 0) hX dJ0_length_8abf5_9 rfl (fun r e l1 u1 => ?_)
  rw [zshr0 _ (by omega) (by omega)] at e
  exact zt_iret hX hR dJ0_length_8abf5_10 ⟨by omega, by omega⟩ ⟨rfl, e⟩
theorem zs_check3 (l : Launch) (E : zEN) (z : zST) (n : Nat) (σ : zSto) (i L : Int) (h : 0 ≤ i ∧ i < L ∧ L ≤ 1000) (o : Option Nat) : zCt2 l E z yJ3_checkIndex_8e157 cJ3_checkIndex_8e157 3 (some .int) 0 n n 0 0 σ [.int (zI i), .int (zI L), va_rf o] (fun r σ' => σ = σ') := by
  have key : ∀ v : Value, (v = .null ∨ ∃ t, v = .ref t) → zCt2 l E z yJ3_checkIndex_8e157 cJ3_checkIndex_8e157 3 (some .int) 0 n n 0 0 σ [.int (zI i), .int (zI L), v] (fun r σ' => σ = σ') := by
    intro v hv
    refine zCt2_of3 [some (.int (zI i)), some (.int (zI L)), some v] (by decide +kernel) (by rcases hv with rfl | ⟨t, rfl⟩ <;> exact Nat.le_of_ble_eq_true rfl) (by rcases hv with rfl | ⟨t, rfl⟩ <;> rfl) ?_
    intro X hE hX hR hL hN hxs
    subst hE
    have hX : zok X cJ3_checkIndex_8e157 RJ3 0 := hX
    refine zt_iload_n (pc' := 1) hX dJ3_checkIndex_8e157_0 rfl rfl ?_
    refine zt_iflt (pc' := 4) (tgt := 9) hX dJ3_checkIndex_8e157_1 rfl (by decide) ⟨by omega, by omega⟩ (fun c => absurd c (by omega)) (fun c => ?_)
    refine zt_iload_n (pc' := 5) hX dJ3_checkIndex_8e157_4 rfl rfl ?_
    refine zt_iload_n (pc' := 6) hX dJ3_checkIndex_8e157_5 rfl rfl ?_
    refine zt_iclt (pc' := 9) (tgt := 16) hX dJ3_checkIndex_8e157_6 rfl (by decide) ⟨by omega, by omega⟩ ⟨by omega, by omega⟩ (fun c => ?_) (fun c => absurd h.2.1 c)
    refine zt_iload_n (pc' := 17) hX dJ3_checkIndex_8e157_16 rfl rfl ?_
    exact zt_iret hX hR dJ3_checkIndex_8e157_17 ⟨by omega, by omega⟩ rfl
  cases o with
  | none => exact key .null (Or.inl rfl)
  | some t => exact key (.ref t) (Or.inr ⟨t, rfl⟩)
theorem zs_check2 (l : Launch) (E : zEN) (z : zST) (n : Nat) (σ : zSto) (i L : Int) (h : 0 ≤ i ∧ i < L ∧ L ≤ 1000) : zCt2 l E z yJ0_checkIndex_df160 cJ0_checkIndex_df160 2 none 1 n n 0 0 σ [.int (zI i), .int (zI L)] (fun r σ' => σ = σ') := by
  refine zCt2_of3 [some (.int (zI i)), some (.int (zI L))] (by decide +kernel) (Nat.le_of_ble_eq_true rfl) rfl ?_
  intro X hE hX hR hL hN hxs
  subst hE
  have hX : zok X cJ0_checkIndex_df160 RJ0 1 := hX
  refine zt_iload_n (pc' := 1) hX dJ0_checkIndex_df160_0 rfl rfl ?_
  refine zt_iload_n (pc' := 2) hX dJ0_checkIndex_df160_1 rfl rfl ?_
  refine zt_sfmt (pc' := 5) hX hxs dJ0_checkIndex_df160_2 rfl zw_6_13 (fun o => ?_)
  refine zt_callS2 (pc' := 8) (As := [.int (zI i), .int (zI L), va_rf o]) (rest := []) hX hxs (zs_check3 _ _ z n σ i L h o) zm_yJ3_checkIndex_8e157 dJ0_checkIndex_df160_5 rfl zw_6_14 rfl rfl (Nat.le_of_ble_eq_true rfl) (by decide) ⟨Nat.zero_le _, Nat.zero_le _⟩ (fun r σ' hr hp => ?_)
  subst hp
  refine zt_pop (pc' := 9) hX dJ0_checkIndex_df160_8 rfl rfl ?_
  exact zt_vret hX hR dJ0_checkIndex_df160_9 rfl
theorem zs_charL (l : Launch) (E : zEN) (z : zST) (n : Nat) (σ : zSto) (i : Int) (h : 0 ≤ i ∧ i < (z.2.2.1 : Int)) : zCt2 l E z yJ1_charAt_3b067 cJ1_charAt_3b067 2 (some .char) 2 n n 0 0 σ [.ref z.2.1, .int (zI i)] (fun r σ' => σ = σ' ∧ 0 ≤ r ∧ r ≤ 255 ∧ r = (z.2.2.2 i.toNat &&& zI 255).toInt) := by
  refine zCt2_of3 [some (.ref z.2.1), some (.int (zI i))] (by decide +kernel) (Nat.le_of_ble_eq_true rfl) rfl ?_
  intro X hE hX hR hL hN hxs
  subst hE
  have hX : zok X cJ1_charAt_3b067 RJ1 2 := hX
  have hL2 := hxs.2.2.2.1
  refine zt_iload_n (pc' := 1) hX dJ1_charAt_3b067_0 rfl rfl ?_
  refine zt_aload_n (pc' := 2) hX dJ1_charAt_3b067_1 rfl rfl ?_
  refine zt_slen (pc' := 3) hX hxs dJ1_charAt_3b067_2 rfl ?_
  refine zt_callS2 (pc' := 6) (As := [.int (zI i), .int (zI (z.2.2.1 : Int))]) (rest := []) hX hxs (zs_check2 _ _ z n σ i (z.2.2.1 : Int) ⟨h.1, h.2, by omega⟩) zm_yJ0_checkIndex_df160 dJ1_charAt_3b067_3 rfl zw_6_10 rfl rfl (Nat.le_of_ble_eq_true rfl) (by decide) ⟨Nat.zero_le _, Nat.zero_le _⟩ (fun r σ' hr hp => ?_)
  subst hp
  refine zt_aload_n (pc' := 7) hX dJ1_charAt_3b067_6 rfl rfl ?_
  refine zt_iload_n (pc' := 8) hX dJ1_charAt_3b067_7 rfl rfl ?_
  refine zt_sbald (pc' := 9) hX hxs dJ1_charAt_3b067_8 rfl h (fun v ev l1 u1 => ?_)
  refine zt_sipush (pc' := 12) hX dJ1_charAt_3b067_9 rfl (by decide) (by decide) ?_
  refine zt_iandm (pc' := 13) hX dJ1_charAt_3b067_12 rfl 8 (by decide +kernel) (by decide) (fun r e l2 u2 => ?_)
  have u3 : r ≤ 255 := by omega
  refine zt_i2c (pc' := 14) hX dJ1_charAt_3b067_13 rfl ⟨by omega, by omega⟩ ?_
  exact zt_nret hX hR dJ1_charAt_3b067_14 rfl (znc ⟨by omega, by omega⟩) ⟨by omega, by omega⟩ ⟨rfl, by omega, by omega, by rw [e, ev, zI_of]⟩
theorem zs_charAt (l : Launch) (E : zEN) (z : zST) (n : Nat) (σ : zSto) (i : Int) (h : 0 ≤ i ∧ i < (z.2.2.1 : Int)) : zCt2 l E z yJ0_charAt_5068e cJ0_charAt_5068e 2 (some .char) 3 n n 0 0 σ [.ref z.1, .int (zI i)] (fun r σ' => σ = σ' ∧ 0 ≤ r ∧ r ≤ 255 ∧ r = (z.2.2.2 i.toNat &&& zI 255).toInt) := by
  refine zCt2_of3 [some (.ref z.1), some (.int (zI i))] (by decide +kernel) (Nat.le_of_ble_eq_true rfl) rfl ?_
  intro X hE hX hR hL hN hxs
  subst hE
  have hX : zok X cJ0_charAt_5068e RJ0 3 := hX
  refine zt_aload_n (pc' := 1) hX dJ0_charAt_5068e_0 rfl rfl ?_
  refine zt_callV2 (pc' := 4) (As := []) (rest := []) hX hxs (zs_isLatin1 _ _ z n σ) zm_yJ0_isLatin1_aae02 dJ0_charAt_5068e_1 rfl zw_6_2 rfl rfl rfl (Nat.le_of_ble_eq_true rfl) (by decide) ⟨Nat.zero_le _, Nat.zero_le _⟩ (fun r σ' hr hp => ?_)
  obtain ⟨rfl, rfl⟩ := hp
  refine zt_ifeq (pc' := 7) (tgt := 16) (x := 1) hX dJ0_charAt_5068e_4 rfl (by decide) ⟨by omega, by omega⟩ (fun c => absurd c (by decide)) (fun c => ?_)
  refine zt_aload_n (pc' := 8) hX dJ0_charAt_5068e_7 rfl rfl ?_
  refine zt_sval (pc' := 11) hX hxs dJ0_charAt_5068e_8 rfl zw_5_15 ?_
  refine zt_iload_n (pc' := 12) hX dJ0_charAt_5068e_11 rfl rfl ?_
  refine zt_callS2 (pc' := 15) (As := [.ref z.2.1, .int (zI i)]) (rest := []) hX hxs (zs_charL _ _ z n σ i h) zm_yJ1_charAt_3b067 dJ0_charAt_5068e_12 rfl zw_6_6 rfl rfl (Nat.le_of_ble_eq_true rfl) (by decide) ⟨Nat.zero_le _, Nat.zero_le _⟩ (fun r σ' hr hp => ?_)
  obtain ⟨rfl, h1, h2, h3⟩ := hp
  exact zt_nret hX hR dJ0_charAt_5068e_15 rfl (znc ⟨by omega, by omega⟩) ⟨by omega, by omega⟩ ⟨rfl, h1, h2, h3⟩
