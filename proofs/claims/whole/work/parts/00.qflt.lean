/-! quotients of numbers are numbers: the floats of the library (stands early: it alone needs the whole library) -/
theorem nn64 {r : UInt64} (h : FP.Core.dIsNaN r = false) : vf_n64 r := by
  unfold vf_n64
  rw [UInt64.le_iff_toNat_le, UInt64.toNat_and]
  have h1 : (0x7fffffffffffffff : UInt64).toNat = 2 ^ 63 - 1 := by decide
  have h2 : (0x7ff0000000000000 : UInt64).toNat = 9218868437227405312 := by decide
  rw [h1, h2, Nat.and_two_pow_sub_one_eq_mod]
  rw [← Bool.not_eq_true, FP.Core.isNaN_bits] at h
  omega
theorem nn32 {r : UInt32} (h : FP.Core.fIsNaN r = false) : vf_n32 r := by
  unfold vf_n32
  rw [UInt32.le_iff_toNat_le, UInt32.toNat_and]
  have h1 : (0x7fffffff : UInt32).toNat = 2 ^ 31 - 1 := by decide
  have h2 : (0x7f800000 : UInt32).toNat = 2139095040 := by decide
  rw [h1, h2, Nat.and_two_pow_sub_one_eq_mod]
  rw [← Bool.not_eq_true, FP.Core.isNaN_bits32] at h
  omega
theorem div_nn (a : Int64) {b : Int32} (hb : ¬ b = 0) : vf_n64 (FP.ddiv (FP.l2d a) (FP.i2d b)) :=
  nn64 (FP.Core.ddiv_out (FP.Core.l2d_fin a).notNaN (FP.Core.i2d_fin b) fun z => FP.Core.i2d_ne_zero hb ((FP.Core.zero_bits2 _).mp z))
theorem div_nni (a : Int32) {b : Int32} (hb : ¬ b = 0) : vf_n64 (FP.ddiv (FP.i2d a) (FP.i2d b)) :=
  nn64 (FP.Core.ddiv_out (FP.Core.i2d_fin a).notNaN (FP.Core.i2d_fin b) fun z => FP.Core.i2d_ne_zero hb ((FP.Core.zero_bits2 _).mp z))
theorem div_nnf (a : Int32) {b : Int32} (hb : ¬ b = 0) : vf_n32 (FP.fdiv (FP.i2f a) (FP.i2f b)) :=
  nn32 (FP.Core.fdiv_out (FP.Core.i2f_fin a).notNaN (FP.Core.i2f_fin b) fun z => FP.Core.i2f_ne_zero hb ((FP.Core.zero_bits232 _).mp z))
