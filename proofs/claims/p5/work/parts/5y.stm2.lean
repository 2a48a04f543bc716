def ymn (p p' : yP) : Prop := yQb p → yQb p' ∧ yle p p'
theorem ymn_rf {p : yP} : ymn p p := fun h => ⟨h, yle_rf p⟩
theorem ymn_tr {a b c : yP} (h : ymn a b) (g : ymn b c) : ymn a c := fun q => ⟨(g (h q).1).1, yle_tr (h q).2 (g (h q).1).2⟩
theorem ymn_o {p p' : yP} (o : yPo p' = 0) : ymn p p' := fun _ => ⟨fun x => absurd x (by rw [o]; decide), fun x => absurd x (by rw [o]; decide)⟩
theorem ymn_x {f : Int → Int} (hf : yTx f) {p : yP} : ymn p (yPx f p) := by
  intro h
  cases p using yP_cases with
  | ok q =>
    have b : 0 ≤ q ∧ q ≤ 1600 := h rfl
    have x := yX_m hf b
    have e : yPq (yPx f (.ok q)) = yX f q := rfl
    have e0 : yPq (yP.ok q) = q := rfl
    exact ⟨fun _ => by omega, fun _ => ⟨rfl, by omega⟩⟩
  | no a b => exact ⟨fun x => absurd x (by show ¬ (0 : Int) = 1; decide), fun x => absurd x (by show ¬ (0 : Int) = 1; decide)⟩
theorem ymn_w {f : Int → Int} (hf : yTx f) {w : Int} {p : yP} : ymn p (yPw f w p) := by
  unfold yPw
  split
  · exact ymn_x hf
  · exact ymn_o yPo_pf
theorem ymn_s {f : Int → Int} (hf : yTx f) {w : Int} {p : yP} : ymn p (yPs f w p) := by
  unfold yPs
  split
  · exact ymn_x hf
  · exact ymn_o yPo_pf
theorem ymn_n {f : Int → Int} (hf : yTx f) {lo hi : Int} {p : yP} : ymn p (yPn f lo hi p) := by
  unfold yPn
  repeat' split
  all_goals first | exact ymn_x hf | exact ymn_o yPo_pf
theorem ymn_nam {f : Int → Int} (hf : yTx f) {P : yPl} {p : yP} : ymn p (yNam f P p) := by
  unfold yNam
  repeat' split
  all_goals first | exact ymn_x hf | exact ymn_o yPo_pf
theorem ymn_Hea {f : Int → Int} (hf : yTx f) {P : yPl} {p : yP} : ymn p (yHea f P p) := ymn_tr (ymn_x hf) (ymn_tr (ymn_n hf) (ymn_tr (ymn_n hf) (ymn_n hf)))
theorem ymn_Pol {f : Int → Int} (hf : yTx f) {P : yPl} {p : yP} : ymn p (yPol f P p) := by
  unfold yPol
  split
  · exact ymn_o yPo_pf
  · have a : ymn p (yPo3 f P p) := ymn_tr (ymn_x hf) (ymn_tr (ymn_nam hf) (ymn_tr (ymn_w hf) (ymn_tr (ymn_n hf) (ymn_n hf))))
    have b : ymn p (yPo4 f P p) := by
      unfold yPo4
      split
      · exact ymn_o yPo_no
      · exact a
    exact ymn_tr b (ymn_tr (ymn_w hf) (ymn_n hf))
theorem yCo_a {f : Int → Int} {s0 X : yP} {c : Int} (hf : yTx f) (q : yQb s0) (m : ymn s0 X) (o : yPo (yPs f 59 X) = 1) (h : c ≤ yPq s0) : c ≤ yPq (yPs f 59 X) := by
  have := ((ymn_tr m (ymn_s hf)) q).2 o
  omega
theorem yCo_c {f : Int → Int} {X : yP} {c : Int} (hf : yTx f) (q : yQb X) (o : yPo (yPs f 59 X) = 1) (h : yPo X = 1 → c ≤ yPq X) : c ≤ yPq (yPs f 59 X) := by
  have := (ymn_s hf (w := 59) q).2 o
  have := h this.1
  omega
noncomputable def yStE (f : Int → Int) (P : yPl) (c : Int) (p : yP) : yP := if c = 80 then yPf 5 0 p else yPs f 59 (yStm f P p)
theorem yStE_m {f : Int → Int} {P : yPl} {c a : Int} {p : yP} (h : c = 80) (ha : a = yPq p) : yPno 5 a p = yStE f P c p := by
  unfold yStE; rw [if_pos h]; exact yPno_f (fun _ => by omega)
theorem yStE_n {f : Int → Int} {P : yPl} {c : Int} {p X : yP} (h : c ≠ 80) (e : X = yStm f P p) : yPs f 59 X = yStE f P c p := by
  unfold yStE; rw [if_neg h, e]
theorem yStm_3 {f : Int → Int} {P : yPl} {s : yP} (h : yPi f s = 3) : yHea f P s = yStm f P s ∧ P = yStmP f P s := by
  unfold yStm yStmP
  rw [if_pos h, if_neg (by omega), if_neg (by omega), if_neg (by omega)]; exact ⟨rfl, rfl⟩
theorem yStm_4 {f : Int → Int} {P : yPl} {s : yP} (h : yPi f s = 4) : yPol f P s = yStm f P s ∧ yPolP f P s = yStmP f P s := by
  unfold yStm yStmP
  rw [if_neg (by omega), if_pos h, if_pos h]; exact ⟨rfl, rfl⟩
theorem yStm_7 {f : Int → Int} {P : yPl} {s : yP} (h : yPi f s = 7) : yAds f P s = yStm f P s ∧ P.wad 1 = yStmP f P s := by
  unfold yStm yStmP
  rw [if_neg (by omega), if_neg (by omega), if_pos h, if_neg (by omega), if_pos h]; exact ⟨rfl, rfl⟩
theorem yStm_8 {f : Int → Int} {P : yPl} {s : yP} (h : yPi f s = 8) : yHos f P s = yStm f P s ∧ P.who 1 = yStmP f P s := by
  unfold yStm yStmP
  rw [if_neg (by omega), if_neg (by omega), if_neg (by omega), if_pos h, if_neg (by omega), if_neg (by omega), if_pos h]; exact ⟨rfl, rfl⟩
theorem yStm_9 {f : Int → Int} {P : yPl} {s : yP} (h : yPi f s = 9 ∨ yPi f s = 10) : yPn f 0 99 (yPx f s) = yStm f P s ∧ P = yStmP f P s := by
  refine ⟨?_, ?_⟩
  · unfold yStm
    rw [if_neg (by omega), if_neg (by omega), if_neg (by omega), if_neg (by omega)]
    by_cases c : yPi f s = 9
    · rw [if_pos c]
    · rw [if_neg c, if_pos (by omega)]
  · unfold yStmP
    rw [if_neg (by omega), if_neg (by omega), if_neg (by omega)]
theorem yPn_o0 {f : Int → Int} {lo hi : Int} {p : yP} (h : yPo p = 0) : yPn f lo hi p = p := by
  cases p using yP_cases with
  | ok q => exact absurd h (by show ¬ (1 : Int) = 0; decide)
  | no a b => rfl
theorem yStm_h {f : Int → Int} {P : yPl} {s : yP} (n : yPi f s ≠ 3 ∧ yPi f s ≠ 4 ∧ yPi f s ≠ 7 ∧ yPi f s ≠ 8 ∧ yPi f s ≠ 9 ∧ yPi f s ≠ 10) : yPn f 0 100 (yPw f 11 s) = yStm f P s ∧ P = yStmP f P s := by
  unfold yStm yStmP
  rw [if_neg n.1, if_neg n.2.1, if_neg n.2.2.1, if_neg n.2.2.2.1, if_neg n.2.2.2.2.1, if_neg n.2.2.2.2.2, if_neg n.2.1, if_neg n.2.2.1, if_neg n.2.2.2.1]
  refine ⟨?_, rfl⟩
  unfold yPw
  by_cases c : yPi f s = 11
  · rw [if_pos c, if_pos c]
  · rw [if_neg c, if_neg c]; exact yPn_o0 yPo_pf
theorem yStmP_c {f : Int → Int} {P : yPl} {s : yP} : (yStmP f P s).c = P.c ∧ (yStmP f P s).r = P.r := by
  unfold yStmP yPolP
  repeat' split
  all_goals exact ⟨rfl, rfl⟩
def yStP (f : Int → Int) (s s1 : zSto) (p p1 : yP) : Prop := yTe (yStmP f (yPlr s) p) s1 ∧ s1 164 48 ≤ yPq p1 ∧ s1 164 49 = s 164 49 + 1
