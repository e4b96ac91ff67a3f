/-! what never changes: String constants, the digits, the script -/
def rf (k i : Nat) : Nat := 64 * i + k
def kd (a : Nat) : Nat := a % 64
def ix (a : Nat) : Nat := a / 64
theorem kd_rf (k i : Nat) (h : k < 64) : kd (rf k i) = k := by unfold kd rf; omega
theorem ix_rf (k i : Nat) (h : k < 64) : ix (rf k i) = i := by unfold ix rf; omega
theorem rf_inj {k i k2 i2 : Nat} (h : k < 64) (h2 : k2 < 64) (e : rf k i = rf k2 i2) : k = k2 ∧ i = i2 := by unfold rf at e; omega
theorem rf_kx (a : Nat) : rf (kd a) (ix a) = a := by unfold rf kd ix; omega
theorem kd_lt (a : Nat) : kd a < 64 := by unfold kd; omega
/-- the kinds of cells that the walk may write -/
abbrev KO (k : Nat) : Prop := k < 21 ∨ (32 ≤ k ∧ k < 37)
def sTab : List (String × Nat × String) := [("CrateScale", 75, "crate apple 3 20;crate pear 2 15 in apple;crate plum 5 0;crate fig 1 9 in pear;"), ("CrateScale", 81, "buyer amy 200 3 50;buyer ben 60 1 80;"), ("CrateScale", 83, "noise 4;seed 7;aging 10;readings 2;trust 30;"), ("CrateScale", 319, "not inside another crate of the yard"), ("CrateScaleLaw", 267, "crate "), ("CrateScaleLaw", 279, " in "), ("CrateScale", 376, "no such crate"), ("CrateScale", 379, "no stored readings"), ("CrateScale", 384, "no such buyer"), ("CrateScale", 388, "out of range"), ("CrateScale", 391, "not possible now"), ("CrateScale$Setup", 33, "crate"), ("CrateScale$Setup", 41, "buyer"), ("CrateScale$Setup", 80, "in"), ("CrateScale$Setup", 112, "noise"), ("CrateScale$Setup", 123, "seed"), ("CrateScale$Setup", 128, "aging"), ("CrateScale$Setup", 132, "readings"), ("CrateScale$Setup", 137, "trust"), ("CrateScaleLaw", 284, "buyer a "), ("CrateScaleLaw", 286, ";trust 20;noise "), ("CrateScaleLaw", 288, ";aging "), ("CrateScaleLaw", 290, ";seed ")]
def sByt : List (List Int32) := [[99, 114, 97, 116, 101, 32, 97, 112, 112, 108, 101, 32, 51, 32, 50, 48, 59, 99, 114, 97, 116, 101, 32, 112, 101, 97, 114, 32, 50, 32, 49, 53, 32, 105, 110, 32, 97, 112, 112, 108, 101, 59, 99, 114, 97, 116, 101, 32, 112, 108, 117, 109, 32, 53, 32, 48, 59, 99, 114, 97, 116, 101, 32, 102, 105, 103, 32, 49, 32, 57, 32, 105, 110, 32, 112, 101, 97, 114, 59], [98, 117, 121, 101, 114, 32, 97, 109, 121, 32, 50, 48, 48, 32, 51, 32, 53, 48, 59, 98, 117, 121, 101, 114, 32, 98, 101, 110, 32, 54, 48, 32, 49, 32, 56, 48, 59], [110, 111, 105, 115, 101, 32, 52, 59, 115, 101, 101, 100, 32, 55, 59, 97, 103, 105, 110, 103, 32, 49, 48, 59, 114, 101, 97, 100, 105, 110, 103, 115, 32, 50, 59, 116, 114, 117, 115, 116, 32, 51, 48, 59], [110, 111, 116, 32, 105, 110, 115, 105, 100, 101, 32, 97, 110, 111, 116, 104, 101, 114, 32, 99, 114, 97, 116, 101, 32, 111, 102, 32, 116, 104, 101, 32, 121, 97, 114, 100], [99, 114, 97, 116, 101, 32], [32, 105, 110, 32], [110, 111, 32, 115, 117, 99, 104, 32, 99, 114, 97, 116, 101], [110, 111, 32, 115, 116, 111, 114, 101, 100, 32, 114, 101, 97, 100, 105, 110, 103, 115], [110, 111, 32, 115, 117, 99, 104, 32, 98, 117, 121, 101, 114], [111, 117, 116, 32, 111, 102, 32, 114, 97, 110, 103, 101], [110, 111, 116, 32, 112, 111, 115, 115, 105, 98, 108, 101, 32, 110, 111, 119], [99, 114, 97, 116, 101], [98, 117, 121, 101, 114], [105, 110], [110, 111, 105, 115, 101], [115, 101, 101, 100], [97, 103, 105, 110, 103], [114, 101, 97, 100, 105, 110, 103, 115], [116, 114, 117, 115, 116], [98, 117, 121, 101, 114, 32, 97, 32], [59, 116, 114, 117, 115, 116, 32, 50, 48, 59, 110, 111, 105, 115, 101, 32], [59, 97, 103, 105, 110, 103, 32], [59, 115, 101, 101, 100, 32]]
def sLn (i : Nat) : Nat := (sByt.getD i []).length
def sB (i j : Nat) : Int32 := (sByt.getD i []).getD j 0
def dgT (j : Nat) : Int32 := [48, 48, 48, 48, 48, 48, 48, 48, 48, 48, 49, 49, 49, 49, 49, 49, 49, 49, 49, 49, 50, 50, 50, 50, 50, 50, 50, 50, 50, 50, 51, 51, 51, 51, 51, 51, 51, 51, 51, 51, 52, 52, 52, 52, 52, 52, 52, 52, 52, 52, 53, 53, 53, 53, 53, 53, 53, 53, 53, 53, 54, 54, 54, 54, 54, 54, 54, 54, 54, 54, 55, 55, 55, 55, 55, 55, 55, 55, 55, 55, 56, 56, 56, 56, 56, 56, 56, 56, 56, 56, 57, 57, 57, 57, 57, 57, 57, 57, 57, 57].getD j 0
def dgO (j : Nat) : Int32 := [48, 49, 50, 51, 52, 53, 54, 55, 56, 57, 48, 49, 50, 51, 52, 53, 54, 55, 56, 57, 48, 49, 50, 51, 52, 53, 54, 55, 56, 57, 48, 49, 50, 51, 52, 53, 54, 55, 56, 57, 48, 49, 50, 51, 52, 53, 54, 55, 56, 57, 48, 49, 50, 51, 52, 53, 54, 55, 56, 57, 48, 49, 50, 51, 52, 53, 54, 55, 56, 57, 48, 49, 50, 51, 52, 53, 54, 55, 56, 57, 48, 49, 50, 51, 52, 53, 54, 55, 56, 57, 48, 49, 50, 51, 52, 53, 54, 55, 56, 57].getD j 0
-- string 0: CrateScale 75 'crate apple 3 20;crate pear 2 15 in apple;crate plum 5 0;crate fig 1 9 in pear;'
-- string 1: CrateScale 81 'buyer amy 200 3 50;buyer ben 60 1 80;'
-- string 2: CrateScale 83 'noise 4;seed 7;aging 10;readings 2;trust 30;'
-- string 3: CrateScale 319 'not inside another crate of the yard'
-- string 4: CrateScaleLaw 267 'crate '
-- string 5: CrateScaleLaw 279 ' in '
-- string 6: CrateScale 376 'no such crate'
-- string 7: CrateScale 379 'no stored readings'
-- string 8: CrateScale 384 'no such buyer'
-- string 9: CrateScale 388 'out of range'
-- string 10: CrateScale 391 'not possible now'
-- string 11: CrateScale$Setup 33 'crate'
-- string 12: CrateScale$Setup 41 'buyer'
-- string 13: CrateScale$Setup 80 'in'
-- string 14: CrateScale$Setup 112 'noise'
-- string 15: CrateScale$Setup 123 'seed'
-- string 16: CrateScale$Setup 128 'aging'
-- string 17: CrateScale$Setup 132 'readings'
-- string 18: CrateScale$Setup 137 'trust'
-- string 19: CrateScaleLaw 284 'buyer a '
-- string 20: CrateScaleLaw 286 ';trust 20;noise '
-- string 21: CrateScaleLaw 288 ';aging '
-- string 22: CrateScaleLaw 290 ';seed '
