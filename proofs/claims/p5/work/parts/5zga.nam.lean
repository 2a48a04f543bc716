def yNn (s : zSto) (K : Nat) (P : yPl) : Prop := P.nm = (List.range (s K 12).toNat).map (fun i => s (K + 2) i)
theorem yNn_of {s s' : zSto} {K B C : Nat} {P : yPl} (h : yPlc s K (K + 2) B C = P) (e : s' K 12 = s K 12) (g : ∀ i : Nat, s' (K + 2) i = s (K + 2) i) : yNn s' K P := by
  unfold yNn
  rw [e, ← h]
  show List.map _ (List.range (s K 12).toNat) = List.map _ (List.range (s K 12).toNat)
  exact List.map_congr_left (fun i _ => (g i).symm)
