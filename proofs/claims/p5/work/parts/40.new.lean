/-! cells that are made: the default store, and what holds of it -/
def zdv (ty : FieldType) : Int := match ty with
  | .object _ => -1
  | .array _ => -1
  | _ => 0
def zdef : zSto := fun k j => match zrs (zro k) with
  | .inl c => zdv (zft c j)
  | .inr (t, _) => if t = 5 then -1 else 0
def znofl (ty : FieldType) : Bool := match ty with
  | .float => false
  | .double => false
  | _ => true
theorem zfv_def (B : Nat) {ty : FieldType} (h : znofl ty = true) : zfv B ty (zdv ty) = defaultValue ty := by
  cases ty <;> first | rfl | cases h
theorem zdef_o {k r c : Nat} (hk : zro k = r) (hs : zrs r = .inl c) (j : Nat) : zdef k j = zdv (zft c j) := by
  unfold zdef
  rw [hk, hs]
theorem zdef_a {k r t m : Nat} (hk : zro k = r) (hs : zrs r = .inr (t, m)) (ht : t < 5) : zdef k = fun _ => 0 := by
  funext j
  unfold zdef
  rw [hk, hs]
  show (if t = 5 then (-1 : Int) else 0) = 0
  rw [if_neg (by omega)]
theorem zdef_q {k r m : Nat} (hk : zro k = r) (hs : zrs r = .inr (5, m)) : zdef k = fun _ => -1 := by
  funext j
  unfold zdef
  rw [hk, hs]
  rfl
theorem zws_succ (E : zEN) (n : Nat) (σ : zSto) : zws E (n + 1) σ = zws E n σ ++ [(E.1 + n, zen E σ n)] := by
  unfold zws
  rw [List.range_succ, List.map_append]
  rfl
theorem zG_new {E : zEN} {n : Nat} {σ : zSto} {H H1 : Heap} (hn : n ≠ zNC) (hG : zG E n σ H) (z1 : H1.size = H.size + 1) (o1 : ∀ q : Nat, q < H.size → H1[q]? = H[q]?) (ha : va_at E.2.1 zcl (E.1 + n, zen E σ n) H1) : zG E (n + 1) σ H1 := by
  have hs : H.size = E.1 + n := hG.1.resolve_left hn
  refine ⟨Or.inr (by omega), ?_⟩
  rw [zws_succ]
  refine (hG.2.kept (fun k x hx => o1 x.1 ((hG.2 k x hx).lt))).app (fun k x hx => ?_)
  have hz : k < 1 := (List.getElem?_eq_some_iff.mp hx).1
  rw [show k = 0 by omega] at hx
  cases hx
  exact ha
theorem zS_new {A : Nat → Prop} {H0 H H1 : Heap} {locs : List Loc} (hS : va_S A H0 H locs) (z1 : H1.size = H.size + 1) (o1 : ∀ q : Nat, q < H.size → H1[q]? = H[q]?) : va_S A H0 H1 locs := ⟨Nat.le_trans hS.1 (by omega), fun x h1 h2 => (o1 x (Nat.lt_of_lt_of_le h1 hS.1)).trans (hS.2.1 x h1 h2), hS.2.2⟩
section ZN
variable {X : zCX} {cc : ByteArray} {own : String} {d n cs ss pc pc' : Nat} {σ : zSto} {lv : List (Option Value)} {st : List Value}
theorem zt_new {idx c r : Nat} {q : vw_C} (hX : zok X cc own d) (hd : decode cc pc = .ok (.new idx, 3)) (hp : pc + 3 = pc') (hq : zcl[c]? = some q) (h1 : Cond.classLink own idx q.1 ∈ wsL_law) (h2 : Cond.instantiable q.1 q.2.2 ∈ wsL_law) (h3 : Cond.initialized q.1 ∈ wsL_law) (hn : n ≠ zNC) (hk : zro n = r) (hs : zrs r = .inl c) (hfl : ∀ j, j < q.2.2 → znofl (zft c j) = true) (h0 : σ n = zdef n) (hroom : cs + 1 ≤ X.2.2.2.2.1.cells ∧ ss + q.2.2 ≤ X.2.2.2.2.1.slots)
    (k : zZ X (n + 1) (cs + 1) (ss + q.2.2) σ pc' lv (.ref (X.1.1 + n) :: st)) : zZ X n cs ss σ pc lv st := by
  subst hp
  obtain ⟨E, p, l, e, R, s, m, args, below, meth, c0, Q, nL⟩ := X
  obtain ⟨hx, hb, hml, ho, ⟨w0, ht⟩, hlk, hK, hst, -⟩ := hX
  intro H locs ls hG hS hl
  have hKn := hK.1 c _ hq
  have hsz : H.size = E.1 + n := hG.1.resolve_left hn
  refine W.newcK hx hb ho (ht _ (List.mem_cons_of_mem _ h1)) (ht _ (List.mem_cons_of_mem _ h2)) (ht _ (List.mem_cons_of_mem _ h3)) rfl hd hroom.1 hroom.2 hKn.2.1 hsz fun H1 kC hkC e1 z1 o1 => ?_
  refine k H1 locs ls (zG_new hn hG (by rw [z1, hsz]) (by rw [hsz]; exact o1) ?_) (zS_new hS (by rw [z1, hsz]) (by rw [hsz]; exact o1)) hl
  rw [zen_o hk hs]
  refine ⟨q, hq, (u_born (zft c) ht (fun w h => List.mem_cons_of_mem _ (zw_cl hq w h)) hKn hkC e1 (zty_ok hq)).to (fun j hj => ?_)⟩
  show defaultValue (zft c j) = ((List.range (znf c)).map (fun i => zfv E.1 (zft c i) (σ n i))).getD j .null
  rw [List.getD_eq_getElem?_getD, zfs_at (by rw [znf_of hq]; exact hj), h0, zdef_o hk hs, zfv_def E.1 (hfl j hj)]
  rfl
theorem zt_newa {t N r : Nat} {x : Int} {atype : ArrayType} (hX : zok X cc own d) (hd : decode cc pc = .ok (.newarray atype, 2)) (hp : pc + 2 = pc') (hw : Cond.arrayClass (newarray.typeOf atype) ∈ wsL_law) (hty : newarray.typeOf atype = zty t) (ht5 : t < 5) (hn : n ≠ zNC) (hk : zro n = r) (hs : zrs r = .inr (t, N)) (hx0 : x = (N : Int)) (hN : N ≤ 65535) (h0 : σ n = zdef n) (hroom : cs + 1 ≤ X.2.2.2.2.1.cells ∧ ss + N ≤ X.2.2.2.2.1.slots)
    (k : zZ X (n + 1) (cs + 1) (ss + N) σ pc' lv (.ref (X.1.1 + n) :: st)) : zZ X n cs ss σ pc lv (.int (zI x) :: st) := by
  subst hp
  obtain ⟨E, p, l, e, R, s, m, args, below, meth, c0, Q, nL⟩ := X
  obtain ⟨hx, hb, hml, ho, ⟨w0, ht⟩, hlk, hK, hst, -⟩ := hX
  intro H locs ls hG hS hl
  have hsz : H.size = E.1 + n := hG.1.resolve_left hn
  have hcl : (zI x).toNatClampNeg = N := by rw [zI_cl (by omega) (by omega)]; omega
  have hnn : ¬ zI x < 0 := by
    rw [← zI_0, zI_lt (by omega) (by omega)]
    omega
  have hb2 : N * componentBytes (newarray.typeOf atype) ≤ 536870912 := by
    have : componentBytes (newarray.typeOf atype) ≤ 8 := by cases atype <;> decide
    have := Nat.mul_le_mul hN this
    omega
  refine va_newaK hx hb (ht _ (List.mem_cons_of_mem _ hw)) rfl hd rfl hnn hcl hb2 hroom.1 hroom.2 hsz fun H1 cA e1 z1 o1 hAr hNm => ?_
  refine k H1 locs ls (zG_new hn hG (by rw [z1, hsz]) (by rw [hsz]; exact o1) ?_) (zS_new hS (by rw [z1, hsz]) (by rw [hsz]; exact o1)) hl
  rw [zen_a hk hs]
  have hcA : cA = E.2.2 t := by
    have h2 := (hK.2 t _ (ztys_at E (show t < 6 by omega))).2
    rw [hty] at hNm
    rcases (show t = 0 ∨ t = 1 ∨ t = 2 ∨ t = 3 ∨ t = 4 by omega) with rfl | rfl | rfl | rfl | rfl
    all_goals exact Option.some.inj (hNm.symm.trans h2)
  subst hcA
  rw [hty] at e1
  show H1[E.1 + n]? = some (vp_cell (E.2.2 t) (N, zarr E.1 t (σ n)))
  rw [e1, h0, zdef_a hk hs ht5]
  rcases (show t = 0 ∨ t = 1 ∨ t = 2 ∨ t = 3 ∨ t = 4 by omega) with rfl | rfl | rfl | rfl | rfl
  all_goals rfl
theorem zt_anewa {N r idx : Nat} {x : Int} {C : String} (hX : zok X cc own d) (hd : decode cc pc = .ok (.anewarray idx, 3)) (hp : pc + 3 = pc') (hC : C = "OnePane$Town") (h1 : Cond.classLink own idx C ∈ wsL_law) (hAO : va_AO C X.2.2.2.2.2.1) (hn : n ≠ zNC) (hk : zro n = r) (hs : zrs r = .inr (5, N)) (hx0 : x = (N : Int)) (hN : N ≤ 65535) (h0 : σ n = zdef n) (hroom : cs + 1 ≤ X.2.2.2.2.1.cells ∧ ss + N ≤ X.2.2.2.2.1.slots)
    (k : zZ X (n + 1) (cs + 1) (ss + N) σ pc' lv (.ref (X.1.1 + n) :: st)) : zZ X n cs ss σ pc lv (.int (zI x) :: st) := by
  subst hp
  subst hC
  obtain ⟨E, p, l, e, R, s, m, args, below, meth, c0, Q, nL⟩ := X
  obtain ⟨hx, hb, hml, ho, ⟨w0, ht⟩, hlk, hK, hst, -⟩ := hX
  intro H locs ls hG hS hl
  have hsz : H.size = E.1 + n := hG.1.resolve_left hn
  have hcl : (zI x).toNatClampNeg = N := by rw [zI_cl (by omega) (by omega)]; omega
  have hnn : ¬ zI x < 0 := by
    rw [← zI_0, zI_lt (by omega) (by omega)]
    omega
  refine W.anew hx hb ho (ht _ (List.mem_cons_of_mem _ h1)) (va_AO.use hAO) rfl hd rfl hnn (by rw [hcl]; omega) hroom.1 (by rw [hcl]; exact hroom.2) fun cA kA comp f1 f2 f3 f4 => ?_
  rw [hcl, hsz]
  generalize hH1 : H.push ({ cls := cA, slots := Array.replicate N .null, vm := .none } : Cell) = H1
  have z1 : H1.size = H.size + 1 := by rw [← hH1, Array.size_push]
  have e1 : H1[E.1 + n]? = some (arrV cA N (fun _ => .null)) := by rw [← hH1, ← hsz, Array.getElem?_push_size, ← arrV_new]
  have o1 : ∀ q : Nat, q < H.size → H1[q]? = H[q]? := fun q hq => by rw [← hH1, Array.getElem?_push, if_neg (Nat.ne_of_lt hq)]
  refine k H1 locs ls (zG_new hn hG z1 o1 ?_) (zS_new hS z1 o1) hl
  rw [zen_a hk hs]
  have hcA : cA = E.2.2 5 := by
    obtain ⟨kA', comp', g1, g2, g3, g4⟩ := (hK.2 5 _ (ztys_at E (show 5 < 6 by decide))).2
    exact Option.some.inj (f1.symm.trans g4)
  subst hcA
  show H1[E.1 + n]? = some (vp_cell (E.2.2 5) (N, zarr E.1 5 (σ n)))
  rw [e1, h0, zdef_q hk hs]
  rfl
theorem zt_oinit {idx k : Nat} (hX : zok X cc own d) (hd0 : 0 < d) (hd : decode cc pc = .ok (.invokespecial idx, 3)) (hp : pc + 3 = pc') (h1 : Cond.methodLink own idx objectInit ∈ wsL_law) (h2 : Cond.instanceMethod objectInit ∈ wsL_law) (h3 : Cond.code objectInit ⟨#[0xb1]⟩ 1 none ∈ wsL_law) (hst0 : st = []) (kk : zZ X n cs ss σ pc' lv st) : zZ X n cs ss σ pc lv (.ref (X.1.1 + k) :: st) := by
  subst hp
  subst hst0
  obtain ⟨E, p, l, e, R, s, m, args, below, meth, c0, Q, nL⟩ := X
  obtain ⟨hx, hb, hml, ho, ⟨w0, ht⟩, hlk, hK, hst, hfr, hlc⟩ := hX
  intro H locs ls hG hS hl
  exact W.objInit hx hb ho (ht _ (List.mem_cons_of_mem _ h1)) (ht _ (List.mem_cons_of_mem _ h2)) (ht _ (List.mem_cons_of_mem _ h3)) rfl (hl.1.trans hml.symm) rfl hd (by omega) (by show 2 * 0 + 0 + 12 ≤ R.locals; omega) (kk H locs ls hG hS hl)
theorem zt_aast {k r a ra c N : Nat} {x : Int} {q : vw_C} (hX : zok X cc own d) (hd : decode cc pc = .ok (.aastore, 1)) (hp : pc + 1 = pc') (hn : k < n) (hk : zro k = r) (hs : zrs r = .inr (5, N)) (ha : a < n) (hka : zro a = ra) (hsa : zrs ra = .inl c) (hq : zcl[c]? = some q) (hq1 : q.1 = "OnePane$Town") (hN : N ≤ 65535) (hi : 0 ≤ x ∧ x < (N : Int))
    (kk : zZ X n cs ss (zset σ k x.toNat (a : Int)) pc' lv st) : zZ X n cs ss σ pc lv (.ref (X.1.1 + a) :: .int (zI x) :: .ref (X.1.1 + k) :: st) := by
  subst hp
  obtain ⟨E, p, l, e, R, s, m, args, below, meth, c0, Q, nL⟩ := X
  obtain ⟨hx, hb, hml, ho, ⟨w0, ht⟩, hlk, hK, hst, -⟩ := hX
  intro H locs ls hG hS hl
  have he : (zws E n σ)[k]? = some (E.1 + k, .inl (E.2.2 5, N, .inr (.inr (.inr (.inr (fun j => zrf E.1 (σ k j))))))) := by
    rw [zws_at hn, zen_a hk hs]
    rfl
  have hv : (zws E n σ)[a]? = some (E.1 + a, .inr (c, (List.range (znf c)).map (fun j => zfv E.1 (zft c j) (σ a j)))) := by rw [zws_at ha, zen_o hka hsa]
  have hcl : (zI x).toNatClampNeg = x.toNat := zI_cl hi.1 (by omega)
  have hlt : (zI x).toNatClampNeg < N := by rw [hcl]; omega
  have hi0 : ¬ zI x < 0 := by
    rw [← zI_0, zI_lt (by omega) (by omega)]
    omega
  obtain ⟨r', hr', cellV, g1, g2, g3, -⟩ := hG.2 a _ hv
  have hcls := (hK.1 c q hq).2
  obtain ⟨kA, comp, k1, k2, k3, -⟩ := (hK.2 5 _ (ztys_at E (show 5 < 6 by decide))).2
  have hcomp : comp = E.2.1.1 c := by
    rw [hq1] at hcls
    exact Option.some.inj (k3.symm.trans hcls.1)
  subst hcomp
  obtain ⟨kC, hkC, -⟩ := hcls.2
  refine W.aast hx hb (hG.2 k _ he) (fun q h => by cases h) (fun h => by cases h) k1 k2 rfl hkC ⟨hi0, by show _ < (arrV _ _ _).slots.size; rw [arrV_size]; exact hlt⟩ g1 (fun q h => by rw [g3] at h; cases h) (by rw [g2]; exact hkC) (by rw [g2]; exact va_assign hcls) rfl rfl hd fun H1 e1 z oq => ?_
  refine kk H1 _ ls (zG_put hG hn (zen_a hk hs) ?_ z oq) (hS.put z oq (Nat.le_add_right _ _)) hl
  show H1[E.1 + k]? = some (vp_cell (E.2.2 5) (N, .inr (.inr (.inr (.inr (fun j => zrf E.1 (zset σ k x.toNat (a : Int) k j)))))))
  rw [e1, vp_cell_q, vp_cell_q, arrV_store, hcl]
  congr 2
  funext j
  by_cases ej : j = x.toNat
  · subst ej
    rw [zset_s]
    have : zrf E.1 (a : Int) = some (E.1 + a) := by
      unfold zrf
      rw [if_neg (by omega)]
      rfl
    simp [updV, va_rf, this]
  · rw [zset_j ej]
    simp [updV, ej]
end ZN
