section ZLW
variable {X : zCX} {cc : ByteArray} {own : String} {d n cs ss pc pc' : Nat} {σ : zSto} {lv : List (Option Value)} {st : List Value}
/-- the law's script -/
theorem zt_sld {b L : Nat} {xs : Nat → Int32} {x : Int} (hX : zok X cc own d) (hs : va_X b L xs X.2.2.2.2.2.1 X.2.2.2.2.2.1.heap) (hbl : b < X.2.2.2.2.2.1.heap.size) (hE : X.1.1 = X.2.2.2.2.2.1.heap.size) (hd : decode cc pc = .ok (.iaload, 1)) (hp : pc + 1 = pc') (hL : L ≤ 3072) (h0 : 0 ≤ x ∧ x < (L : Int)) (k : ∀ v : Int, v = (xs x.toNat).toInt → -2147483648 ≤ v → v ≤ 2147483647 → zZ X n cs ss σ pc' lv (.int (zI v) :: st)) : zZ X n cs ss σ pc lv (.int (zI x) :: .ref b :: st) := by
  subst hp
  obtain ⟨E, p, l, e, R, s, m, args, below, meth, c, Q, nL⟩ := X
  obtain ⟨hx, hb, -⟩ := hX
  intro H locs ls hG hS hlv
  have hk := k (xs x.toNat).toInt rfl (zI_lo _) (zI_hi _) H locs ls hG hS hlv
  rw [zI_of] at hk
  have hE : E.1 = s.heap.size := hE
  refine va_sld hx hb hs hbl (show ¬ E.1 ≤ b by rw [hE]; exact Nat.not_le.mpr hbl) hS (zI_in h0.1 h0.2 (by omega)) hd ?_
  rw [zI_cl h0.1 (by omega)]
  exact hk
theorem zt_slenL {b L : Nat} {xs : Nat → Int32} (hX : zok X cc own d) (hs : va_X b L xs X.2.2.2.2.2.1 X.2.2.2.2.2.1.heap) (hbl : b < X.2.2.2.2.2.1.heap.size) (hE : X.1.1 = X.2.2.2.2.2.1.heap.size) (hd : decode cc pc = .ok (.arraylength, 1)) (hp : pc + 1 = pc') (k : zZ X n cs ss σ pc' lv (.int (zI (L : Int)) :: st)) : zZ X n cs ss σ pc lv (.ref b :: st) := by
  subst hp
  obtain ⟨E, p, l, e, R, s, m, args, below, meth, c, Q, nL⟩ := X
  obtain ⟨hx, hb, -⟩ := hX
  intro H locs ls hG hS hlv
  have hE : E.1 = s.heap.size := hE
  refine va_slen hx hb hs hbl (show ¬ E.1 ≤ b by rw [hE]; exact Nat.not_le.mpr hbl) hS hd ?_
  rw [zI_ofNat]
  exact k H locs ls hG hS hlv
end ZLW
/-- the class's calls leave the reference alone -/
theorem zKl_B {σ s : zSto} (h : zFB σ s) : zKl σ s ∧ s 164 54 = σ 164 54 := by
  have e : ∀ k, zNK ≤ k → s k = σ k := fun k hk => h k (Or.inl hk)
  have q : ∀ k, 164 ≤ k → ∀ j, s k j = σ k j := fun k hk j => congrFun (e k hk) j
  exact ⟨⟨fun j _ => q 200 (by decide) j, fun j _ => q 201 (by decide) j, fun j _ => q 202 (by decide) j, fun j _ => q 194 (by decide) j, q 164 (by decide) 50, q 195 (by decide) 1, fun j _ => q 196 (by decide) j⟩, q 164 (by decide) 54⟩
theorem zKl_C {σ s : zSto} (h : zFC σ s) : zKl σ s ∧ s 164 54 = σ 164 54 := by
  have e : ∀ k, zNK ≤ k → s k = σ k := fun k hk => h.1 k (Or.inl hk)
  have q : ∀ k, 164 ≤ k → ∀ j, s k j = σ k j := fun k hk j => congrFun (e k hk) j
  exact ⟨⟨fun j _ => q 200 (by decide) j, fun j _ => q 201 (by decide) j, fun j _ => q 202 (by decide) j, fun j _ => q 194 (by decide) j, q 164 (by decide) 50, q 195 (by decide) 1, fun j _ => q 196 (by decide) j⟩, q 164 (by decide) 54⟩
theorem zLI_C {σ s : zSto} (h : zFC σ s) (hW : zWF σ) (hs : σ 164 54 = 0) : zWF s ∧ s 164 54 = 0 := ⟨zWF_kl hW (zKl_C h).1, (zKl_C h).2.trans hs⟩
theorem zLI_T {σ s : zSto} (h : zGT σ s) (hW : zWF σ) (hs : σ 164 54 = 0) : zWF s ∧ s 164 54 = 0 := ⟨zWF_kl hW h.2.1, h.2.2.trans hs⟩
theorem zLI_B {σ s : zSto} (h : zFB σ s) (hW : zWF σ) (hs : σ 164 54 = 0) : zWF s ∧ s 164 54 = 0 := ⟨zWF_kl hW (zKl_B h).1, (zKl_B h).2.trans hs⟩
theorem zLI_N {σ s : zSto} (h : zGN σ s) (hW : zWF σ) (hs : σ 164 54 = 0) : zWF s ∧ s 164 54 = 0 := ⟨zWF_N hW h, h.2.2.trans hs⟩
theorem zLI_L {σ s : zSto} (h : zGL σ s) (hW : zWF σ) (h2 : s 164 54 = 0) : zWF s ∧ s 164 54 = 0 := ⟨zWF_L hW h, h2⟩
theorem zLI_P {σ s : zSto} (h1 : zwf s = 1) (h2 : s 164 54 = σ 164 54) (hs : σ 164 54 = 0) : zWF s ∧ s 164 54 = 0 := ⟨zi_1.1 h1, h2.trans hs⟩
