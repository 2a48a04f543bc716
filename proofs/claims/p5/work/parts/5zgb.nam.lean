def yCn (A : yP × yPl × Int) (σ s : zSto) : Prop := (yPo A.1 = 1 → (s 0 3 = 7 ∧ yNn s 7 A.2.1) ∨ (s 0 3 = 17 ∧ yNn s 17 A.2.1)) ∧ (yPo A.1 = 0 → s 0 3 = σ 0 3 ∧ ((σ 0 3 = 7 ∧ ∀ i : Nat, s 9 i = σ 9 i) ∨ (σ 0 3 = 17 ∧ ∀ i : Nat, s 19 i = σ 19 i)))
def yNp (s : zSto) (P : yPl) : Prop := P.nm = (List.range (s 195 1).toNat).map (fun i => yPd (s 196 (10 + i))) ∧ ∀ i : Nat, i < 10 → (i : Int) < s 195 1 → yvu (s 196 (10 + i))
def yMn (A : yP × yPl × Int) (σ s : zSto) : Prop := (yPo A.1 = 1 → yNp s A.2.1) ∧ (yPo A.1 = 0 → s 195 1 = σ 195 1 ∧ ∀ i : Nat, i < 10 → s 196 (10 + i) = σ 196 (10 + i))
