/-! the model's means, prices, refusals -/
/-- a sum that is an int -/
def MO9 (Y : Yd) (c : Nat) : Prop := (yL Y c 9).toInt32.toInt64 = yL Y c 9
section MNS
variable {d c b K m : Nat} {Y : Yd} {w : Nat → Int32} {M : Mem} {Q : Out → Mem → Prop}
end MNS
theorem np1c {x : Int32} (h : 1 ≤ x) : 0 < x := by
  rw [Int32.le_iff_toInt_le] at h
  rw [Int32.lt_iff_toInt_lt]
  have e1 : (1 : Int32).toInt = 1 := by decide
  have e0 : (0 : Int32).toInt = 0 := by decide
  omega