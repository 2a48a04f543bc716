abbrev yPl : Type := Int × Int × List Int × List Int × Int × Int
abbrev yPl.c (P : yPl) : Int := P.1
abbrev yPl.r (P : yPl) : Int := P.2.1
abbrev yPl.nm (P : yPl) : List Int := P.2.2.1
abbrev yPl.hm (P : yPl) : List Int := P.2.2.2.1
abbrev yPl.ad (P : yPl) : Int := P.2.2.2.2.1
abbrev yPl.ho (P : yPl) : Int := P.2.2.2.2.2
abbrev yPl.wsd (P : yPl) (a b : Int) : yPl := (a, b, P.nm, P.hm, P.ad, P.ho)
abbrev yPl.wad (P : yPl) (a : Int) : yPl := (P.c, P.r, P.nm, P.hm, a, P.ho)
abbrev yPl.who (P : yPl) (a : Int) : yPl := (P.c, P.r, P.nm, P.hm, P.ad, a)
abbrev yPl.wnh (P : yPl) (a b : List Int) : yPl := (P.c, P.r, a, b, P.ad, P.ho)
def yPl0 : yPl := ⟨0, 0, [], [], 0, 0⟩
def yPc (f : Int → Int) : yP → Int
  | .inl q => yC f q
  | .inr (_, _) => 0
def yPa1 (f : Int → Int) (s : yP) : yP := yPw f 0 s
def yPa2 (f : Int → Int) (s : yP) : yP := yPw f 1 (yPn f 2 6 (yPa1 f s))
def yPan (f : Int → Int) (s : yP) : yP := yPn f 0 99 (yPw f 2 (yPn f 2 6 (yPa2 f s)))
def yPanP (f : Int → Int) (s : yP) (P : yPl) : yPl := (yPl.wsd (P) (yPv f (yPa1 f s)) (yPv f (yPa2 f s)))
def yHea (f : Int → Int) (P : yPl) (s : yP) : yP := yPn f 0 99 (yPn f 0 (P.r - 1) (yPn f 0 (P.c - 1) (yPx f s)))
def yNam (f : Int → Int) (P : yPl) (s : yP) : yP :=
  if yPk f s = 4 then yPf 1 6 s
  else if yPk f s ≠ 1 ∨ (0 ≤ yPi f s ∧ yPi f s < 27) then yPf 1 0 s
  else if yPc f s ∈ P.nm then yPf 3 0 s
  else yPx f s
def yPo1 (f : Int → Int) (P : yPl) (s : yP) : yP := yPw f 5 (yNam f P (yPx f s))
def yPo2 (f : Int → Int) (P : yPl) (s : yP) : yP := yPn f 0 (P.c - 1) (yPo1 f P s)
def yPo3 (f : Int → Int) (P : yPl) (s : yP) : yP := yPn f 0 (P.r - 1) (yPo2 f P s)
def yPoh (f : Int → Int) (P : yPl) (s : yP) : Int := yPv f (yPo1 f P s) + 6 * yPv f (yPo2 f P s)
def yPo4 (f : Int → Int) (P : yPl) (s : yP) : yP := if yPoh f P s ∈ P.hm then yPno 2 (yPq (yPo2 f P s)) (yPo3 f P s) else yPo3 f P s
def yPol (f : Int → Int) (P : yPl) (s : yP) : yP := if 10 ≤ P.nm.length then yPf 5 0 s else yPn f 0 99 (yPw f 6 (yPo4 f P s))
def yPolP (f : Int → Int) (P : yPl) (s : yP) : yPl := (yPl.wnh (P) (P.nm ++ [yPc f (yPx f s)]) (P.hm ++ [yPoh f P s]))
noncomputable def yAds (f : Int → Int) (P : yPl) (s : yP) : yP := if P.ad ≠ 0 then yPf 5 0 s else ySm 0 f (yPx f s)
noncomputable def yHos (f : Int → Int) (P : yPl) (s : yP) : yP := if P.ho ≠ 0 then yPf 5 0 s else yTt 1 f (yPx f s)
noncomputable def yStm (f : Int → Int) (P : yPl) (s : yP) : yP :=
  if yPi f s = 3 then yHea f P s
  else if yPi f s = 4 then yPol f P s
  else if yPi f s = 7 then yAds f P s
  else if yPi f s = 8 then yHos f P s
  else if yPi f s = 9 then yPn f 0 99 (yPx f s)
  else if yPi f s = 10 then yPn f 0 99 (yPx f s)
  else if yPi f s = 11 then yPn f 0 100 (yPx f s)
  else yPf 1 0 s
def yStmP (f : Int → Int) (P : yPl) (s : yP) : yPl :=
  if yPi f s = 4 then yPolP f P s
  else if yPi f s = 7 then (yPl.wad (P) (1))
  else if yPi f s = 8 then (yPl.who (P) (1))
  else P
abbrev yMor (f : Int → Int) (s : yP) : Prop := yPo s = 1 ∧ yPk f s ≠ 0
noncomputable def yLop (f : Int → Int) : Nat → Int → yP → yPl → yP × yPl × Int
  | 0, c, s, P => if yMor f s then (yPf 5 0 s, yPl0, 0) else if yPo s = 1 then (s, P, c) else (s, yPl0, 0)
  | n + 1, c, s, P => if yMor f s then (if c = 0 then yLop f n 1 (yPs f 59 (yPan f s)) (yPanP f s P) else yLop f n (c + 1) (yPs f 59 (yStm f P s)) (yStmP f P s))
      else if yPo s = 1 then (s, P, c) else (s, yPl0, 0)
noncomputable def yAll (f : Int → Int) : yP × yPl × Int :=
  let t := yLop f 80 0 (.ok (yS f 0)) yPl0
  if yPo t.1 = 1 ∧ t.2.2 = 0 then (yPf 1 0 t.1, yPl0, 0) else t
theorem yLop_no {f : Int → Int} {n : Nat} {c : Int} {s : yP} {P : yPl} (h : yPo s ≠ 1) : yLop f n c s P = (s, yPl0, 0) := by
  have m : ¬ yMor f s := fun x => h x.1
  cases n with
  | zero => show (if yMor f s then _ else if yPo s = 1 then _ else _) = _; rw [if_neg m, if_neg h]
  | succ n => show (if yMor f s then _ else if yPo s = 1 then _ else _) = _; rw [if_neg m, if_neg h]
theorem yLop_e {f : Int → Int} {n : Nat} {c : Int} {s : yP} {P : yPl} (m : ¬ yMor f s) (h : yPo s = 1) : yLop f n c s P = (s, P, c) := by
  cases n with
  | zero => show (if yMor f s then _ else if yPo s = 1 then _ else _) = _; rw [if_neg m, if_pos h]
  | succ n => show (if yMor f s then _ else if yPo s = 1 then _ else _) = _; rw [if_neg m, if_pos h]
theorem yLop_0 {f : Int → Int} {c : Int} {s : yP} {P : yPl} (m : yMor f s) : yLop f 0 c s P = (yPf 5 0 s, yPl0, 0) := by
  show (if yMor f s then _ else _) = _; rw [if_pos m]
theorem yLop_p {f : Int → Int} {n : Nat} {s : yP} {P : yPl} (m : yMor f s) : yLop f (n + 1) 0 s P = yLop f n 1 (yPs f 59 (yPan f s)) (yPanP f s P) := by
  show (if yMor f s then (if (0 : Int) = 0 then _ else _) else _) = _; rw [if_pos m, if_pos rfl]
theorem yLop_s {f : Int → Int} {n : Nat} {c : Int} {s : yP} {P : yPl} (m : yMor f s) (hc : c ≠ 0) : yLop f (n + 1) c s P = yLop f n (c + 1) (yPs f 59 (yStm f P s)) (yStmP f P s) := by
  show (if yMor f s then (if c = 0 then _ else _) else _) = _; rw [if_pos m, if_neg hc]
