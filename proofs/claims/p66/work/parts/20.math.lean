/-! Math, and the memory read behind a write -/
section MS
variable (M : Mem) (k i f k' i' f' : Nat)
theorem mI_sI (v : Int32) : mI (sI M k i f v) k' i' f' = if k' = k ∧ i' = i ∧ f' = f then v else mI M k' i' f' := rfl
theorem mI_sL (v : Int64) : mI (sL M k i f v) = mI M := rfl
theorem mI_sR (v : Option Nat) : mI (sR M k i f v) = mI M := rfl
theorem mI_sD (v : UInt64) : mI (sD M k i f v) = mI M := rfl
theorem mL_sL (v : Int64) : mL (sL M k i f v) k' i' f' = if k' = k ∧ i' = i ∧ f' = f then v else mL M k' i' f' := rfl
theorem mL_sI (v : Int32) : mL (sI M k i f v) = mL M := rfl
theorem mL_sR (v : Option Nat) : mL (sR M k i f v) = mL M := rfl
theorem mL_sD (v : UInt64) : mL (sD M k i f v) = mL M := rfl
theorem mR_sR (v : Option Nat) : mR (sR M k i f v) k' i' f' = if k' = k ∧ i' = i ∧ f' = f then v else mR M k' i' f' := rfl
theorem mR_sI (v : Int32) : mR (sI M k i f v) = mR M := rfl
theorem mR_sL (v : Int64) : mR (sL M k i f v) = mR M := rfl
theorem mR_sD (v : UInt64) : mR (sD M k i f v) = mR M := rfl
theorem mD_sD (v : UInt64) : mD (sD M k i f v) k' i' f' = if k' = k ∧ i' = i ∧ f' = f then v else mD M k' i' f' := rfl
theorem mD_sI (v : Int32) : mD (sI M k i f v) = mD M := rfl
theorem mD_sL (v : Int64) : mD (sL M k i f v) = mD M := rfl
theorem mD_sR (v : Option Nat) : mD (sR M k i f v) = mD M := rfl
theorem mN_sI (v : Int32) : mN (sI M k i f v) = mN M := rfl
theorem mN_sL (v : Int64) : mN (sL M k i f v) = mN M := rfl
theorem mN_sR (v : Option Nat) : mN (sR M k i f v) = mN M := rfl
theorem mN_sD (v : UInt64) : mN (sD M k i f v) = mN M := rfl
theorem mC_sI (v : Int32) : mC (sI M k i f v) = mC M := rfl
theorem mC_sL (v : Int64) : mC (sL M k i f v) = mC M := rfl
theorem mC_sR (v : Option Nat) : mC (sR M k i f v) = mC M := rfl
theorem mC_sD (v : UInt64) : mC (sD M k i f v) = mC M := rfl
theorem mK_sI (v : Int32) : mK (sI M k i f v) = mK M := rfl
theorem mK_sL (v : Int64) : mK (sL M k i f v) = mK M := rfl
theorem mK_sR (v : Option Nat) : mK (sR M k i f v) = mK M := rfl
theorem mK_sD (v : UInt64) : mK (sD M k i f v) = mK M := rfl
theorem mS_sI (v : Int32) : mS (sI M k i f v) = mS M := rfl
theorem mS_sL (v : Int64) : mS (sL M k i f v) = mS M := rfl
theorem mS_sR (v : Option Nat) : mS (sR M k i f v) = mS M := rfl
theorem mS_sD (v : UInt64) : mS (sD M k i f v) = mS M := rfl
end MS
theorem i_nle {a b : Int32} (h : a < b) : ¬ b ≤ a := by rw [Int32.lt_iff_toInt_lt] at h; rw [Int32.le_iff_toInt_le]; omega
theorem i_nlt {a b : Int32} (h : ¬ a < b) : b ≤ a := by rw [Int32.lt_iff_toInt_lt] at h; rw [Int32.le_iff_toInt_le]; omega
theorem i_nl2 {a b : Int32} (h : a ≤ b) : ¬ b < a := by rw [Int32.le_iff_toInt_le] at h; rw [Int32.lt_iff_toInt_lt]; omega
theorem i_lt {a b : Int32} (h : ¬ a ≤ b) : b < a := by rw [Int32.le_iff_toInt_le] at h; rw [Int32.lt_iff_toInt_lt]; omega
def fabs (x : Int32) : Int32 := if 0 ≤ x then x else -x
def fmax (x y : Int32) : Int32 := if x < y then y else x
def fmin (x y : Int32) : Int32 := if y < x then y else x
def fdivL (x y : Int64) : Int64 := if 0 ≤ lg_cmp (x ^^^ y) 0 then x / y else if lg_cmp (x / y * y) x = 0 then x / y else x / y - 1
def fmodI (x y : Int32) : Int32 := if 0 ≤ (x ^^^ y) then x - x / y * y else if x - x / y * y = 0 then x - x / y * y else x - x / y * y + y
set_option maxHeartbeats 1000000 in
set_option maxRecDepth 4000 in
theorem s_abs {d : Nat} {x : Int32} {M : Mem} {Q : Out → Mem → Prop}  (hq : Q (.inl (some (.int (fabs x)))) M) : WPc d mJ9_abs_0f7a4 [.int x] M Q := by
  refine WPc.of (by decide +kernel) (Nat.le_of_ble_eq_true rfl) rfl ?_
  refine R.iload_n dJ9_abs_0f7a4_0 rfl ?_
  refine R.if_ge (tgt := 9) dJ9_abs_0f7a4_1 (by decide) (fun c1 => ?_) (fun c1 => ?_)
  · have n1 := i_nl2 c1
    refine R.iload_n dJ9_abs_0f7a4_9 rfl ?_
    refine WP.ret (ov := some (.int _)) dJ9_abs_0f7a4_10 ⟨rfl, _, rfl, by first | rfl | assumption⟩ ?_
    simpa [fabs, *] using hq
  · have n1 := i_lt c1
    refine R.iload_n dJ9_abs_0f7a4_4 rfl ?_
    refine R.ineg dJ9_abs_0f7a4_5 ?_
    refine R.goto (tgt := 10) dJ9_abs_0f7a4_6 (by decide) ?_
    refine WP.ret (ov := some (.int _)) dJ9_abs_0f7a4_10 ⟨rfl, _, rfl, by first | rfl | assumption⟩ ?_
    simpa [fabs, *] using hq
set_option maxHeartbeats 1000000 in
set_option maxRecDepth 4000 in
theorem s_max {d : Nat} {x y : Int32} {M : Mem} {Q : Out → Mem → Prop}  (hq : Q (.inl (some (.int (fmax x y)))) M) : WPc d mJ9_max_7cf53 [.int x, .int y] M Q := by
  refine WPc.of (by decide +kernel) (Nat.le_of_ble_eq_true rfl) rfl ?_
  refine R.iload_n dJ9_max_7cf53_0 rfl ?_
  refine R.iload_n dJ9_max_7cf53_1 rfl ?_
  refine R.icmp_lt (tgt := 9) dJ9_max_7cf53_2 (by decide) (fun c2 => ?_) (fun c2 => ?_)
  · have n2 := i_nle c2
    refine R.iload_n dJ9_max_7cf53_9 rfl ?_
    refine WP.ret (ov := some (.int _)) dJ9_max_7cf53_10 ⟨rfl, _, rfl, by first | rfl | assumption⟩ ?_
    simpa [fmax, *] using hq
  · have n2 := i_nlt c2
    refine R.iload_n dJ9_max_7cf53_5 rfl ?_
    refine R.goto (tgt := 10) dJ9_max_7cf53_6 (by decide) ?_
    refine WP.ret (ov := some (.int _)) dJ9_max_7cf53_10 ⟨rfl, _, rfl, by first | rfl | assumption⟩ ?_
    simpa [fmax, *] using hq
set_option maxHeartbeats 1000000 in
set_option maxRecDepth 4000 in
theorem s_min {d : Nat} {x y : Int32} {M : Mem} {Q : Out → Mem → Prop}  (hq : Q (.inl (some (.int (fmin x y)))) M) : WPc d mJ9_min_7cf53 [.int x, .int y] M Q := by
  refine WPc.of (by decide +kernel) (Nat.le_of_ble_eq_true rfl) rfl ?_
  refine R.iload_n dJ9_min_7cf53_0 rfl ?_
  refine R.iload_n dJ9_min_7cf53_1 rfl ?_
  refine R.icmp_gt (tgt := 9) dJ9_min_7cf53_2 (by decide) (fun c2 => ?_) (fun c2 => ?_)
  · have n2 := i_nle c2
    refine R.iload_n dJ9_min_7cf53_9 rfl ?_
    refine WP.ret (ov := some (.int _)) dJ9_min_7cf53_10 ⟨rfl, _, rfl, by first | rfl | assumption⟩ ?_
    simpa [fmin, *] using hq
  · have n2 := i_nlt c2
    refine R.iload_n dJ9_min_7cf53_5 rfl ?_
    refine R.goto (tgt := 10) dJ9_min_7cf53_6 (by decide) ?_
    refine WP.ret (ov := some (.int _)) dJ9_min_7cf53_10 ⟨rfl, _, rfl, by first | rfl | assumption⟩ ?_
    simpa [fmin, *] using hq
set_option maxHeartbeats 1000000 in
set_option maxRecDepth 4000 in
theorem s_floorDiv {d : Nat} {x y : Int64} {M : Mem} {Q : Out → Mem → Prop} (hy : ¬ y = 0) (hq : Q (.inl (some (.long (fdivL x y)))) M) : WPc d mJ9_floorDiv_f86c9 [.long x, .long y] M Q := by
  refine WPc.of (by decide +kernel) (Nat.le_of_ble_eq_true rfl) rfl ?_
  refine R.lload_n dJ9_floorDiv_f86c9_0 rfl ?_
  refine R.lload_n dJ9_floorDiv_f86c9_1 rfl ?_
  refine R.ldiv dJ9_floorDiv_f86c9_2 hy ?_
  refine R.lstore dJ9_floorDiv_f86c9_3 (Nat.le_of_ble_eq_true rfl) (by decide) (by first | rfl | simp [lft, rf_cat]) rfl ?_
  refine R.lload_n dJ9_floorDiv_f86c9_5 rfl ?_
  refine R.lload_n dJ9_floorDiv_f86c9_6 rfl ?_
  refine R.lxor dJ9_floorDiv_f86c9_7 ?_
  refine R.lconst (v := 0) dJ9_floorDiv_f86c9_8 rfl ?_
  refine R.lcmp dJ9_floorDiv_f86c9_9 ?_
  refine R.if_ge (tgt := 27) dJ9_floorDiv_f86c9_10 (by decide) (fun c10 => ?_) (fun c10 => ?_)
  · have n10 := i_nl2 c10
    refine R.lload dJ9_floorDiv_f86c9_27 rfl ?_
    refine WP.ret (ov := some (.long _)) dJ9_floorDiv_f86c9_29 ⟨rfl, rfl⟩ ?_
    simpa [fdivL, *] using hq
  · have n10 := i_lt c10
    refine R.lload dJ9_floorDiv_f86c9_13 rfl ?_
    refine R.lload_n dJ9_floorDiv_f86c9_15 rfl ?_
    refine R.lmul dJ9_floorDiv_f86c9_16 ?_
    refine R.lload_n dJ9_floorDiv_f86c9_17 rfl ?_
    refine R.lcmp dJ9_floorDiv_f86c9_18 ?_
    refine R.if_eq (tgt := 27) dJ9_floorDiv_f86c9_19 (by decide) (fun c19 => ?_) (fun c19 => ?_)
    · refine R.lload dJ9_floorDiv_f86c9_27 rfl ?_
      refine WP.ret (ov := some (.long _)) dJ9_floorDiv_f86c9_29 ⟨rfl, rfl⟩ ?_
      simpa [fdivL, *] using hq
    · refine R.lload dJ9_floorDiv_f86c9_22 rfl ?_
      refine R.lconst (v := 1) dJ9_floorDiv_f86c9_24 rfl ?_
      refine R.lsub dJ9_floorDiv_f86c9_25 ?_
      refine WP.ret (ov := some (.long _)) dJ9_floorDiv_f86c9_26 ⟨rfl, rfl⟩ ?_
      simpa [fdivL, *] using hq
set_option maxHeartbeats 1000000 in
set_option maxRecDepth 4000 in
theorem s_floorMod {d : Nat} {x y : Int32} {M : Mem} {Q : Out → Mem → Prop} (hy : ¬ y = 0) (hq : Q (.inl (some (.int (fmodI x y)))) M) : WPc d mJ9_floorMod_7cf53 [.int x, .int y] M Q := by
  refine WPc.of (by decide +kernel) (Nat.le_of_ble_eq_true rfl) rfl ?_
  refine R.iload_n dJ9_floorMod_7cf53_0 rfl ?_
  refine R.iload_n dJ9_floorMod_7cf53_1 rfl ?_
  refine R.irem dJ9_floorMod_7cf53_2 hy ?_
  refine R.istore_n dJ9_floorMod_7cf53_3 (Nat.le_of_ble_eq_true rfl) (by decide) (by first | rfl | simp [lft, rf_cat]) rfl ?_
  refine R.iload_n dJ9_floorMod_7cf53_4 rfl ?_
  refine R.iload_n dJ9_floorMod_7cf53_5 rfl ?_
  refine R.ixor dJ9_floorMod_7cf53_6 ?_
  refine R.if_ge (tgt := 18) dJ9_floorMod_7cf53_7 (by decide) (fun c7 => ?_) (fun c7 => ?_)
  · have n7 := i_nl2 c7
    refine R.iload_n dJ9_floorMod_7cf53_18 rfl ?_
    refine WP.ret (ov := some (.int _)) dJ9_floorMod_7cf53_19 ⟨rfl, _, rfl, by first | rfl | assumption⟩ ?_
    simpa [fmodI, *] using hq
  · have n7 := i_lt c7
    refine R.iload_n dJ9_floorMod_7cf53_10 rfl ?_
    refine R.if_eq (tgt := 18) dJ9_floorMod_7cf53_11 (by decide) (fun c11 => ?_) (fun c11 => ?_)
    · refine R.iload_n dJ9_floorMod_7cf53_18 rfl ?_
      refine WP.ret (ov := some (.int _)) dJ9_floorMod_7cf53_19 ⟨rfl, _, rfl, by first | rfl | assumption⟩ ?_
      simpa [fmodI, *] using hq
    · refine R.iload_n dJ9_floorMod_7cf53_14 rfl ?_
      refine R.iload_n dJ9_floorMod_7cf53_15 rfl ?_
      refine R.iadd dJ9_floorMod_7cf53_16 ?_
      refine WP.ret (ov := some (.int _)) dJ9_floorMod_7cf53_17 ⟨rfl, _, rfl, by first | rfl | assumption⟩ ?_
      simpa [fmodI, *] using hq
