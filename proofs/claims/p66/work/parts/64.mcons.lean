/-! the model's own check -/
theorem sI_sWf (M : Mem) (w : Nat → Int32) {k : Nat} (i f : Nat) (v : Int32) (hk : ¬ k = 14) : sI (sW M w) k i f v = sW (sI M k i f v) w := by
  refine Prod.ext ?_ rfl
  funext k' i' f'
  show up3 (sW M w).1 k i f v k' i' f' = (if k' = 14 ∧ i' = 0 then w else (sI M k i f v).1 k' i') f'
  by_cases z : k' = 14 ∧ i' = 0
  · rw [if_pos z]
    unfold up3
    rw [if_neg (fun q => hk (q.1.symm.trans z.1))]
    exact congrFun (if_pos z) f'
  · rw [if_neg z]
    show up3 (sW M w).1 k i f v k' i' f' = up3 M.1 k i f v k' i' f'
    unfold up3
    have e : (sW M w).1 k' i' = M.1 k' i' := if_neg z
    rw [e]
/-- the sum that is stored of a crate -/
def SQ (Y : Yd) (c : Nat) : Prop := (∃ r, yC Y c 8 = nI r ∧ r < 2 ^ 31 - 1) ∧ yL Y c 9 = (yC Y c 8).toInt64 * (yC Y c 4).toInt64 + yL Y c 10 + (if rem (yC Y c 8) 2 = 0 then 0 else (yC Y c 12).toInt64)
theorem t32m (x y : Int64) : (x * y).toInt32 = x.toInt32 * y.toInt32 := Int64.toInt32_mul x y