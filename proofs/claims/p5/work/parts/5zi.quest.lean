noncomputable def yQs1 (f : Int → Int) (s : yP) : yP :=
  if yPi f s = 27 ∨ yPi f s = 28 ∨ yPi f s = 29 then yTt 2 f (yPx f s)
  else if yPi f s = 30 ∨ yPi f s = 31 ∨ yPi f s = 32 then ySm 2 f (yPx f s)
  else yPf 1 0 s
noncomputable def yQst (f : Int → Int) : yP := if yMor f (yQs1 f (.ok (yS f 0))) then yPf 1 0 (yQs1 f (.ok (yS f 0))) else yQs1 f (.ok (yS f 0))
def zR5 (k j : Nat) : Bool := zR4 k j || zR0 k j
theorem zi_45 : ∀ k j, zR4 k j = true → zR5 k j = true := fun k j h => by simp only [zR5, h, Bool.true_or]
theorem zi_05 : ∀ k j, zR0 k j = true → zR5 k j = true := fun k j h => by simp only [zR5, h, Bool.or_true]
theorem zi_15 : ∀ k j, zR1 k j = true → zR5 k j = true := fun k j h => zi_45 k j (zi_r14 k j h)
theorem yQst_m {f : Int → Int} {p : yP} {a : Int} (h : p = yQs1 f (.ok (yS f 0))) (m : yMor f p) (ha : yPo p = 1 → a = yPq p) : yPno 1 a p = yQst f := by
  unfold yQst
  rw [← h, if_pos m]
  exact yPno_f (fun o => by rw [ha o]; omega)
theorem yQst_n {f : Int → Int} {p : yP} (h : p = yQs1 f (.ok (yS f 0))) (m : ¬ yMor f p) : p = yQst f := by
  unfold yQst
  rw [← h, if_neg m]
theorem yQs_t {f : Int → Int} {s : yP} (h : yPi f s = 27 ∨ yPi f s = 28 ∨ yPi f s = 29) : yTt 2 f (yPx f s) = yQs1 f s := by unfold yQs1; rw [if_pos h]
theorem yQs_s {f : Int → Int} {s : yP} (h : yPi f s = 30 ∨ yPi f s = 31 ∨ yPi f s = 32) : ySm 2 f (yPx f s) = yQs1 f s := by unfold yQs1; rw [if_neg (by omega), if_pos h]
theorem yQs_n {f : Int → Int} {s : yP} {a : Int} (h : ¬ (27 ≤ yPi f s ∧ yPi f s ≤ 32)) (ha : yPo s = 1 → a = yPq s) : yPno 1 a s = yQs1 f s := by
  unfold yQs1; rw [if_neg (by omega), if_neg (by omega)]; exact yPno_f (fun o => by rw [ha o]; omega)
