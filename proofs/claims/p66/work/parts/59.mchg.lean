/-! the model's changes -/
theorem uC_uC (Y : Yd) {i f j g : Nat} (v x : Int32) (h : ¬ (i = j ∧ f = g)) : uC (uC Y i f v) j g x = uC (uC Y j g x) i f v := by
  refine Prod.ext ?_ rfl
  funext a b
  show (if a = j ∧ b = g then x else if a = i ∧ b = f then v else Y.1 a b) = (if a = i ∧ b = f then v else if a = j ∧ b = g then x else Y.1 a b)
  by_cases z1 : a = j ∧ b = g
  · rw [if_pos z1, if_neg (fun q => h ⟨q.1.symm.trans z1.1, q.2.symm.trans z1.2⟩), if_pos z1]
  · rw [if_neg z1, if_neg z1]
theorem uC_uL (Y : Yd) (i f j g : Nat) (v : Int32) (x : Int64) : uC (uL Y j g x) i f v = uL (uC Y i f v) j g x := rfl
theorem dsc3 (Y : Yd) (i j : Nat) (v : Int32) : dscY (uC Y i 3 v) j = uC (dscY Y j) i 3 v := by
  unfold dscY
  rw [uC_uC Y (i := i) (f := 3) (j := j) (g := 8) v 0 (by omega)]
  rw [← uC_uL, ← uC_uL]
  rw [uC_uC _ (i := i) (f := 3) (j := j) (g := 11) v 0 (by omega), uC_uC _ (i := i) (f := 3) (j := j) (g := 12) v 0 (by omega)]
theorem awC3 (Y : Yd) (i j : Nat) (v x : Int32) : awC (uC Y i 3 v) j x = uC (awC Y j x) i 3 v := by
  unfold awC
  have e4 : yC (uC Y i 3 v) j 4 = yC Y j 4 := if_neg (by omega)
  have e8 : yC (uC Y i 3 v) j 8 = yC Y j 8 := if_neg (by omega)
  rw [e4, e8, uC_uC Y (i := i) (f := 3) (j := j) (g := 4) v _ (by omega)]
  exact dsc3 (uT (uC Y j 4 (yC Y j 4 + x)) 1 (yT Y 1 + yC Y j 8)) i j v
theorem awO3 (i : Nat) (v x : Int32) : ∀ (n : Nat) (Y : Yd) (o : Option Nat), awO n (uC Y i 3 v) o x = uC (awO n Y o x) i 3 v := by
  intro n
  induction n with
  | zero => intro Y o; rfl
  | succ n ih =>
    intro Y o
    cases o with
    | none => rfl
    | some j =>
      show awO n (awC (uC Y i 3 v) j x) (yP Y j) x = uC (awO n (awC Y j x) (yP Y j) x) i 3 v
      rw [awC3, ih]
theorem awC_3 (Y : Yd) (j i : Nat) (x : Int32) : yC (awC Y j x) i 3 = yC Y i 3 := by
  show (if i = j ∧ 3 = 12 then 0 else if i = j ∧ 3 = 11 then 0 else if i = j ∧ 3 = 8 then 0 else if i = j ∧ 3 = 4 then _ else yC Y i 3) = _
  rw [if_neg (by omega), if_neg (by omega), if_neg (by omega), if_neg (by omega)]
theorem awO_3 (x : Int32) (i : Nat) : ∀ (n : Nat) (Y : Yd) (o : Option Nat), yC (awO n Y o x) i 3 = yC Y i 3 := by
  intro n
  induction n with
  | zero => intro Y o; rfl
  | succ n ih =>
    intro Y o
    cases o with
    | none => rfl
    | some j =>
      show yC (awO n (awC Y j x) (yP Y j) x) i 3 = _
      rw [ih, awC_3]
theorem yP_awO9 (x : Int32) : ∀ (n : Nat) (Y : Yd) (o : Option Nat), yP (awO n Y o x) = yP Y := by
  intro n
  induction n with
  | zero => intro Y o; rfl
  | succ n ih =>
    intro Y o
    cases o with
    | none => rfl
    | some j =>
      show yP (awO n (awC Y j x) (yP Y j) x) = _
      rw [ih]; rfl
theorem awO_st (x : Int32) : ∀ (n : Nat) (Y : Yd) (o : Option Nat), acyO n (yP Y) o → awO (n + 1) Y o x = awO n Y o x := by
  intro n
  induction n with
  | zero => intro Y o h; cases h; rfl
  | succ n ih =>
    intro Y o h
    cases o with
    | none => rfl
    | some j =>
      show awO (n + 1) (awC Y j x) (yP Y j) x = awO n (awC Y j x) (yP Y j) x
      exact ih _ _ h