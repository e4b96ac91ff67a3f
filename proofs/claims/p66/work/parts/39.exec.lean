/-! a statement carried out; a script run -/
def tkN (i : Nat) : Nat → Yd → Yd
  | 0, Y => Y
  | t + 1, Y => tkN i t (tkY Y i).2
def CV (Y : Yd) (t : St) : Prop := (nCr t.1 = true → t.2.1 < 16 ∧ ¬ yF Y 4 ≤ nI t.2.1) ∧ (t.1 = 3 → t.2.2.1 < 16 ∧ ¬ yF Y 4 ≤ nI t.2.2.1) ∧ (t.1 = 6 → t.2.2.1 < 6 ∧ ¬ yF Y 5 ≤ nI t.2.2.1) ∧ (t.1 = 0 → ∃ k, t.2.2.2 = nI k ∧ k ≤ 50)
def exY (Y : Yd) (t : St) : Int32 × Yd :=
  if t.1 = 5 then (1, spY Y) else
  if t.1 = 7 then (1, uS Y 1 t.2.2.2) else
  if t.1 = 8 then (1, uS Y 2 t.2.2.2) else
  if yC Y t.2.1 7 = 0 then (0, Y) else
  if t.1 = 0 then (1, tkN t.2.1 t.2.2.2.toNatClampNeg Y) else
  if t.1 = 1 then (if ¬ yC Y t.2.1 7 = 0 ∧ yC Y t.2.1 3 + t.2.2.2 ≤ 500 then (1, cgY Y t.2.1 t.2.2.2) else (0, Y)) else
  if t.1 = 2 then (if ¬ yC Y t.2.1 7 = 0 ∧ t.2.2.2 ≤ yC Y t.2.1 3 then (1, cgY Y t.2.1 (-t.2.2.2)) else (0, Y)) else
  if t.1 = 3 then (if yCan Y t.2.1 t.2.2.1 = 0 then (0, Y) else (1, neY Y t.2.1 t.2.2.1)) else
  if t.1 = 4 then (match yP Y t.2.1 with
    | none => (0, Y)
    | some _ => (1, unY Y t.2.1)) else
  if yRef Y t.2.1 t.2.2.1 = 0 then (1, trY Y t.2.1 t.2.2.1) else (0, Y)