/-! crates, buyers, the scale, the totals: their own methods -/
theorem oi_p {x : Int32} (h : x = 0 ∨ x = 1) : narrow .boolean (.int x) = .int x := by rcases h with rfl | rfl <;> rfl
theorem nar_b01 {x : Int32} (h : x = 0 ∨ x = 1) : narrow .boolean (.int x) = .int x := by rcases h with rfl | rfl <;> rfl
theorem fit_b01 {x : Int32} (h : x = 0 ∨ x = 1) : fits .boolean (.int x) = true := by rcases h with rfl | rfl <;> rfl
def rem (x y : Int32) : Int32 := x - x / y * y
def cDisc (M : Mem) (c : Nat) : Mem := sI (sI (sL (sL (sI M 1 c 8 0) 1 c 9 0) 1 c 10 0) 1 c 11 0) 1 c 12 0
def cReset (M : Mem) (c : Nat) : Mem := cDisc (sI (sI (sR (sI (sI (sI (sI M 1 c 1 0) 1 c 2 0) 1 c 3 0) 1 c 4 0) 1 c 5 none) 1 c 6 0) 1 c 7 0) c
def cCopy (M : Mem) (c e : Nat) : Mem :=
  let M := sI M 1 c 1 (mI M 1 e 1)
  let M := sI M 1 c 2 (mI M 1 e 2)
  let M := sI M 1 c 3 (mI M 1 e 3)
  let M := sI M 1 c 4 (mI M 1 e 4)
  let M := sI M 1 c 6 (mI M 1 e 6)
  let M := sI M 1 c 7 (mI M 1 e 7)
  let M := sI M 1 c 8 (mI M 1 e 8)
  let M := sL M 1 c 9 (mL M 1 e 9)
  let M := sL M 1 c 10 (mL M 1 e 10)
  let M := sI M 1 c 11 (mI M 1 e 11)
  sI M 1 c 12 (mI M 1 e 12)
def cStore (M : Mem) (c : Nat) (r s : Int32) : Mem :=
  let M := sI M 1 c 8 (mI M 1 c 8 + 1)
  let M := sL M 1 c 9 (mL M 1 c 9 + r.toInt64)
  let M := sL M 1 c 10 (mL M 1 c 10 + s.toInt64)
  sI M 1 c 11 r
def cMean (n : Int32) (s : Int64) : Int32 := if n ≤ 0 then 0 else (fdivL (2 * s + n.toInt64) (2 * n.toInt64)).toInt32
def bReset (M : Mem) (b : Nat) : Mem := sI (sI (sI (sI (sI M 0 b 1 0) 0 b 2 0) 0 b 3 0) 0 b 4 0) 0 b 5 0
def bCopy (M : Mem) (b e : Nat) : Mem :=
  let M := sI M 0 b 1 (mI M 0 e 1)
  let M := sI M 0 b 2 (mI M 0 e 2)
  let M := sI M 0 b 3 (mI M 0 e 3)
  let M := sI M 0 b 4 (mI M 0 e 4)
  sI M 0 b 5 (mI M 0 e 5)
def fTrust (tr tol err : Int32) : Int32 := if fabs err - tol ≤ 0 then fmin 100 (tr + 5) else fmax 0 (tr - (fabs err - tol))
def fRefund (tol err : Int32) : Int32 := if tol < err then err else 0
def tReset (M : Mem) (t : Nat) : Mem := sI (sI (sI (sI (sI (sI (sI M 8 t 0 0) 8 t 1 0) 8 t 2 0) 8 t 3 0) 8 t 4 0) 8 t 5 0) 8 t 6 0
def tCopy (M : Mem) (t e : Nat) : Mem :=
  let M := sI M 8 t 0 (mI M 8 e 0)
  let M := sI M 8 t 1 (mI M 8 e 1)
  let M := sI M 8 t 2 (mI M 8 e 2)
  let M := sI M 8 t 3 (mI M 8 e 3)
  let M := sI M 8 t 4 (mI M 8 e 4)
  let M := sI M 8 t 5 (mI M 8 e 5)
  sI M 8 t 6 (mI M 8 e 6)
def sReset (M : Mem) (t : Nat) : Mem := sI (sI (sI (sI M 3 t 0 1) 3 t 1 5) 3 t 2 50) 3 t 3 0
def sCopy (M : Mem) (t e : Nat) : Mem :=
  let M := sI M 3 t 0 (mI M 3 e 0)
  let M := sI M 3 t 1 (mI M 3 e 1)
  let M := sI M 3 t 2 (mI M 3 e 2)
  sI M 3 t 3 (mI M 3 e 3)
def fSag (ag age : Int32) : Int32 := if ag < 1 then 0 else age / ag
def nxG (g : Int32) : Int32 := rem (75 * g + 74) 65537
def fNz (g a : Int32) : Int32 := rem g (2 * a + 1) - a
theorem odd_ne (a : Int32) : ¬ 2 * a + 1 = 0 := by
  intro h
  have h2 := congrArg Int32.toInt h
  rw [Int32.toInt_add, Int32.toInt_mul] at h2
  have e2 : (2 : Int32).toInt = 2 := by decide
  have e1 : (1 : Int32).toInt = 1 := by decide
  have e0 : (0 : Int32).toInt = 0 := by decide
  rw [e2, e1, e0, Int.bmod_def, Int.bmod_def] at h2
  split at h2 <;> split at h2 <;> omega
def rdFin (M : Mem) (s c : Nat) (e : Int32) : Int32 × Mem :=
  let g := fSag (mI M 3 s 2) (mI M 3 s 3)
  let r := mI M 1 c 4 + g + e
  let M := cStore M c r g
  (r, sI M 3 s 3 (mI M 3 s 3 + 1))
def rdNew (M : Mem) (s c : Nat) : Int32 × Mem :=
  rdFin (sI (sI M 3 s 0 (nxG (mI M 3 s 0))) 1 c 12 (fNz (nxG (mI M 3 s 0)) (mI M 3 s 1))) s c (fNz (nxG (mI M 3 s 0)) (mI M 3 s 1))
def rdM (M : Mem) (s c : Nat) : Int32 × Mem := if rem (mI M 1 c 8) 2 = 0 then rdNew M s c else rdFin M s c (- mI M 1 c 12)
set_option maxHeartbeats 1000000 in
set_option maxRecDepth 4000 in
theorem s_cInit {d : Nat} {c : Nat} {x : Int32} {M : Mem} {Q : Out → Mem → Prop} (hd2 : 2 ≤ d) (hq : Q (.inl none) (sI M 1 c 0 x)) : WPc d mX2_init [.ref (rf 1 c), .int x] M Q := by
  refine WPc.of (by decide +kernel) (Nat.le_of_ble_eq_true rfl) rfl ?_
  refine R.aload_n dX2_init_0 rfl (by first | rfl | exact rfv_rf _) ?_
  refine R.objInit (by decide) oi_X2_3 oi_in oi_co (by omega) (by first | exact Nat.le_of_ble_eq_true rfl | simp [rf_cat, Value.category]) dX2_init_1 ?_
  refine R.aload_n dX2_init_4 rfl (by first | rfl | exact rfv_rf _) ?_
  refine R.iload_n dX2_init_5 rfl ?_
  refine R.putI dX2_init_6 fl_X2_9 (fun q hq => by cases hq; exact Or.inr ⟨rfl, rfl⟩) (by decide) rfl rfl rfl ?_
  refine WP.ret (ov := none) dX2_init_9 ⟨rfl, rfl⟩ ?_
  exact hq
set_option maxHeartbeats 1000000 in
set_option maxRecDepth 4000 in
theorem s_cDisc {d : Nat} {c : Nat} {M : Mem} {Q : Out → Mem → Prop} (hq : Q (.inl none) (cDisc M c)) : WPc d mX2_discardReadings [.ref (rf 1 c)] M Q := by
  refine WPc.of (by decide +kernel) (Nat.le_of_ble_eq_true rfl) rfl ?_
  refine R.aload_n dX2_discardReadings_0 rfl (by first | rfl | exact rfv_rf _) ?_
  refine R.iconst (v := 0) dX2_discardReadings_1 rfl ?_
  refine R.putI dX2_discardReadings_2 fl_X2_41 (fun q hq => by cases hq; exact Or.inl rfl) (by decide) rfl rfl rfl ?_
  refine R.aload_n dX2_discardReadings_5 rfl (by first | rfl | exact rfv_rf _) ?_
  refine R.lconst (v := 0) dX2_discardReadings_6 rfl ?_
  refine R.putL dX2_discardReadings_7 fl_X2_44 (fun q hq => by cases hq; exact Or.inl rfl) rfl ?_
  refine R.aload_n dX2_discardReadings_10 rfl (by first | rfl | exact rfv_rf _) ?_
  refine R.lconst (v := 0) dX2_discardReadings_11 rfl ?_
  refine R.putL dX2_discardReadings_12 fl_X2_48 (fun q hq => by cases hq; exact Or.inl rfl) rfl ?_
  refine R.aload_n dX2_discardReadings_15 rfl (by first | rfl | exact rfv_rf _) ?_
  refine R.iconst (v := 0) dX2_discardReadings_16 rfl ?_
  refine R.putI dX2_discardReadings_17 fl_X2_51 (fun q hq => by cases hq; exact Or.inl rfl) (by decide) rfl rfl rfl ?_
  refine R.aload_n dX2_discardReadings_20 rfl (by first | rfl | exact rfv_rf _) ?_
  refine R.iconst (v := 0) dX2_discardReadings_21 rfl ?_
  refine R.putI dX2_discardReadings_22 fl_X2_54 (fun q hq => by cases hq; exact Or.inl rfl) (by decide) rfl rfl rfl ?_
  refine WP.ret (ov := none) dX2_discardReadings_25 ⟨rfl, rfl⟩ ?_
  exact hq
set_option maxHeartbeats 1000000 in
set_option maxRecDepth 4000 in
theorem s_cReset {d : Nat} {c : Nat} {M : Mem} {Q : Out → Mem → Prop} (hq : Q (.inl none) (cReset M c)) : WPc (d + 1) mX2_reset [.ref (rf 1 c)] M Q := by
  refine WPc.of (by decide +kernel) (Nat.le_of_ble_eq_true rfl) rfl ?_
  refine R.aload_n dX2_reset_0 rfl (by first | rfl | exact rfv_rf _) ?_
  refine R.iconst (v := 0) dX2_reset_1 rfl ?_
  refine R.putI dX2_reset_2 fl_X2_15 (fun q hq => by cases hq; exact Or.inl rfl) (by decide) rfl rfl rfl ?_
  refine R.aload_n dX2_reset_5 rfl (by first | rfl | exact rfv_rf _) ?_
  refine R.iconst (v := 0) dX2_reset_6 rfl ?_
  refine R.putI dX2_reset_7 fl_X2_18 (fun q hq => by cases hq; exact Or.inl rfl) (by decide) rfl rfl rfl ?_
  refine R.aload_n dX2_reset_10 rfl (by first | rfl | exact rfv_rf _) ?_
  refine R.iconst (v := 0) dX2_reset_11 rfl ?_
  refine R.putI dX2_reset_12 fl_X2_21 (fun q hq => by cases hq; exact Or.inl rfl) (by decide) rfl rfl rfl ?_
  refine R.aload_n dX2_reset_15 rfl (by first | rfl | exact rfv_rf _) ?_
  refine R.iconst (v := 0) dX2_reset_16 rfl ?_
  refine R.putI dX2_reset_17 fl_X2_24 (fun q hq => by cases hq; exact Or.inl rfl) (by decide) rfl rfl rfl ?_
  refine R.aload_n dX2_reset_20 rfl (by first | rfl | exact rfv_rf _) ?_
  refine R.null dX2_reset_21 ?_
  first | refine R.putA dX2_reset_22 fl_X2_27 (fun q hq => by cases hq; exact Or.inl rfl) rfl ?_ | refine R.putN dX2_reset_22 fl_X2_27 (fun q hq => by cases hq; exact Or.inl rfl) rfl ?_ | refine R.putR dX2_reset_22 fl_X2_27 (fun q hq => by cases hq; exact Or.inl rfl) rfl ?_
  refine R.aload_n dX2_reset_25 rfl (by first | rfl | exact rfv_rf _) ?_
  refine R.iconst (v := 0) dX2_reset_26 rfl ?_
  refine R.putI dX2_reset_27 fl_X2_31 (fun q hq => by cases hq; exact Or.inl rfl) (by decide) rfl rfl rfl ?_
  refine R.aload_n dX2_reset_30 rfl (by first | rfl | exact rfv_rf _) ?_
  refine R.iconst (v := 0) dX2_reset_31 rfl ?_
  refine R.putI dX2_reset_32 fl_X2_34 (fun q hq => by cases hq; exact Or.inl rfl) (by decide) rfl (by first | rfl | assumption) (by first | rfl | assumption) ?_
  refine R.aload_n dX2_reset_35 rfl (by first | rfl | exact rfv_rf _) ?_
  refine cl_X2_38 rfl rfl (by first | exact Nat.le_of_ble_eq_true rfl | simp [rf_cat, Value.category]) dX2_reset_36 ?_
  refine s_cDisc ?_
  refine WP.ret (ov := none) dX2_reset_39 ⟨rfl, rfl⟩ ?_
  exact hq
set_option maxHeartbeats 1000000 in
set_option maxRecDepth 4000 in
theorem s_cCopy {d : Nat} {c e : Nat} {M : Mem} {Q : Out → Mem → Prop} (hb : mI M 1 e 7 = 0 ∨ mI M 1 e 7 = 1) (hq : Q (.inl none) (cCopy M c e)) : WPc d mX2_copyFrom [.ref (rf 1 c), .ref (rf 1 e)] M Q := by
  refine WPc.of (by decide +kernel) (Nat.le_of_ble_eq_true rfl) rfl ?_
  refine R.aload_n dX2_copyFrom_0 rfl (by first | rfl | exact rfv_rf _) ?_
  refine R.aload_n dX2_copyFrom_1 rfl (by first | rfl | exact rfv_rf _) ?_
  refine R.getI dX2_copyFrom_2 fl_X2_15 (by decide) rfl ?_
  refine R.putI dX2_copyFrom_5 fl_X2_15 (fun q hq => by cases hq; exact Or.inl rfl) (by decide) rfl rfl rfl ?_
  refine R.aload_n dX2_copyFrom_8 rfl (by first | rfl | exact rfv_rf _) ?_
  refine R.aload_n dX2_copyFrom_9 rfl (by first | rfl | exact rfv_rf _) ?_
  refine R.getI dX2_copyFrom_10 fl_X2_18 (by decide) rfl ?_
  refine R.putI dX2_copyFrom_13 fl_X2_18 (fun q hq => by cases hq; exact Or.inl rfl) (by decide) rfl rfl rfl ?_
  refine R.aload_n dX2_copyFrom_16 rfl (by first | rfl | exact rfv_rf _) ?_
  refine R.aload_n dX2_copyFrom_17 rfl (by first | rfl | exact rfv_rf _) ?_
  refine R.getI dX2_copyFrom_18 fl_X2_21 (by decide) rfl ?_
  refine R.putI dX2_copyFrom_21 fl_X2_21 (fun q hq => by cases hq; exact Or.inl rfl) (by decide) rfl rfl rfl ?_
  refine R.aload_n dX2_copyFrom_24 rfl (by first | rfl | exact rfv_rf _) ?_
  refine R.aload_n dX2_copyFrom_25 rfl (by first | rfl | exact rfv_rf _) ?_
  refine R.getI dX2_copyFrom_26 fl_X2_24 (by decide) rfl ?_
  refine R.putI dX2_copyFrom_29 fl_X2_24 (fun q hq => by cases hq; exact Or.inl rfl) (by decide) rfl rfl rfl ?_
  refine R.aload_n dX2_copyFrom_32 rfl (by first | rfl | exact rfv_rf _) ?_
  refine R.aload_n dX2_copyFrom_33 rfl (by first | rfl | exact rfv_rf _) ?_
  refine R.getI dX2_copyFrom_34 fl_X2_31 (by decide) rfl ?_
  refine R.putI dX2_copyFrom_37 fl_X2_31 (fun q hq => by cases hq; exact Or.inl rfl) (by decide) rfl rfl rfl ?_
  refine R.aload_n dX2_copyFrom_40 rfl (by first | rfl | exact rfv_rf _) ?_
  refine R.aload_n dX2_copyFrom_41 rfl (by first | rfl | exact rfv_rf _) ?_
  refine R.getI dX2_copyFrom_42 fl_X2_34 (by decide) rfl ?_
  refine R.putI dX2_copyFrom_45 fl_X2_34 (fun q hq => by cases hq; exact Or.inl rfl) (by decide) rfl (nar_b01 (by simpa [mI_sI] using hb)) (fit_b01 (by simpa [mI_sI] using hb)) ?_
  refine R.aload_n dX2_copyFrom_48 rfl (by first | rfl | exact rfv_rf _) ?_
  refine R.aload_n dX2_copyFrom_49 rfl (by first | rfl | exact rfv_rf _) ?_
  refine R.getI dX2_copyFrom_50 fl_X2_41 (by decide) rfl ?_
  refine R.putI dX2_copyFrom_53 fl_X2_41 (fun q hq => by cases hq; exact Or.inl rfl) (by decide) rfl rfl rfl ?_
  refine R.aload_n dX2_copyFrom_56 rfl (by first | rfl | exact rfv_rf _) ?_
  refine R.aload_n dX2_copyFrom_57 rfl (by first | rfl | exact rfv_rf _) ?_
  refine R.getL dX2_copyFrom_58 fl_X2_44 (by decide) rfl ?_
  refine R.putL dX2_copyFrom_61 fl_X2_44 (fun q hq => by cases hq; exact Or.inl rfl) rfl ?_
  refine R.aload_n dX2_copyFrom_64 rfl (by first | rfl | exact rfv_rf _) ?_
  refine R.aload_n dX2_copyFrom_65 rfl (by first | rfl | exact rfv_rf _) ?_
  refine R.getL dX2_copyFrom_66 fl_X2_48 (by decide) rfl ?_
  refine R.putL dX2_copyFrom_69 fl_X2_48 (fun q hq => by cases hq; exact Or.inl rfl) rfl ?_
  refine R.aload_n dX2_copyFrom_72 rfl (by first | rfl | exact rfv_rf _) ?_
  refine R.aload_n dX2_copyFrom_73 rfl (by first | rfl | exact rfv_rf _) ?_
  refine R.getI dX2_copyFrom_74 fl_X2_51 (by decide) rfl ?_
  refine R.putI dX2_copyFrom_77 fl_X2_51 (fun q hq => by cases hq; exact Or.inl rfl) (by decide) rfl rfl rfl ?_
  refine R.aload_n dX2_copyFrom_80 rfl (by first | rfl | exact rfv_rf _) ?_
  refine R.aload_n dX2_copyFrom_81 rfl (by first | rfl | exact rfv_rf _) ?_
  refine R.getI dX2_copyFrom_82 fl_X2_54 (by decide) rfl ?_
  refine R.putI dX2_copyFrom_85 fl_X2_54 (fun q hq => by cases hq; exact Or.inl rfl) (by decide) rfl rfl rfl ?_
  refine WP.ret (ov := none) dX2_copyFrom_88 ⟨rfl, rfl⟩ ?_
  exact hq
set_option maxHeartbeats 1000000 in
set_option maxRecDepth 4000 in
theorem s_cParN {d : Nat} {c : Nat} {M : Mem} {Q : Out → Mem → Prop} (hp : mR M 1 c 5 = none) (hq : Q (.inl (some (.int (-1)))) M) : WPc d mX2_parentIndex [.ref (rf 1 c)] M Q := by
  refine WPc.of (by decide +kernel) (Nat.le_of_ble_eq_true rfl) rfl ?_
  refine R.aload_n dX2_parentIndex_0 rfl (by first | rfl | exact rfv_rf _) ?_
  refine R.getN (hp) dX2_parentIndex_1 fl_X2_27 (by decide) rfl ?_
  refine R.ifnonnullN (tgt := 11) dX2_parentIndex_4 (by decide) ?_
  refine R.iconst (v := (-1)) dX2_parentIndex_7 rfl ?_
  refine R.goto (tgt := 18) dX2_parentIndex_8 (by decide) ?_
  refine WP.ret (ov := some (.int _)) dX2_parentIndex_18 ⟨rfl, _, rfl, by first | rfl | assumption | exact nar_b01 (by assumption)⟩ ?_
  exact hq
set_option maxHeartbeats 1000000 in
set_option maxRecDepth 4000 in
theorem s_cParS {d : Nat} {c e : Nat} {M : Mem} {Q : Out → Mem → Prop} (hp : mR M 1 c 5 = some (rf 1 e)) (hq : Q (.inl (some (.int (mI M 1 e 0)))) M) : WPc d mX2_parentIndex [.ref (rf 1 c)] M Q := by
  refine WPc.of (by decide +kernel) (Nat.le_of_ble_eq_true rfl) rfl ?_
  refine R.aload_n dX2_parentIndex_0 rfl (by first | rfl | exact rfv_rf _) ?_
  refine R.getS (hp) dX2_parentIndex_1 fl_X2_27 (by decide) rfl ?_
  refine R.ifnonnullS (tgt := 11) (by first | decide | exact Nat.lt_of_le_of_lt (Nat.le_of_eq (kd_rf _ _ (by decide))) (by decide)) dX2_parentIndex_4 (by decide) ?_
  refine R.aload_n dX2_parentIndex_11 rfl (by first | rfl | exact rfv_rf _) ?_
  refine R.getS (hp) dX2_parentIndex_12 fl_X2_27 (by decide) rfl ?_
  refine R.getI dX2_parentIndex_15 fl_X2_9 (by decide) rfl ?_
  refine WP.ret (ov := some (.int _)) dX2_parentIndex_18 ⟨rfl, _, rfl, by first | rfl | assumption | exact nar_b01 (by assumption)⟩ ?_
  exact hq
theorem ne_2n {n : Int32} (h : ¬ n ≤ 0) : ¬ (2 * n.toInt64 : Int64) = 0 := by
  intro e
  have e2 := congrArg Int64.toInt e
  rw [Int64.toInt_mul, Int32.toInt_toInt64] at e2
  have z2 : (2 : Int64).toInt = 2 := by decide
  have z0 : (0 : Int64).toInt = 0 := by decide
  have l1 := n.toInt_lt
  have l2 := n.le_toInt
  rw [Int32.le_iff_toInt_le, Int32.toInt_zero] at h
  rw [z2, z0, Int.bmod_def] at e2
  split at e2 <;> omega
theorem ne_lt1 {n : Int32} (h : ¬ n < 1) : ¬ n = 0 := fun e => h (by rw [e]; decide)
set_option maxHeartbeats 1000000 in
set_option maxRecDepth 4000 in
theorem s_cMean {d : Nat} {c : Nat} {M : Mem} {Q : Out → Mem → Prop} (hq : Q (.inl (some (.int (cMean (mI M 1 c 8) (mL M 1 c 9))))) M) : WPc (d + 1) mX2_mean [.ref (rf 1 c)] M Q := by
  refine WPc.of (by decide +kernel) (Nat.le_of_ble_eq_true rfl) rfl ?_
  refine R.aload_n dX2_mean_0 rfl (by first | rfl | exact rfv_rf _) ?_
  refine R.getI dX2_mean_1 fl_X2_41 (by decide) rfl ?_
  refine R.if_gt (tgt := 9) dX2_mean_4 (by decide) (fun c4 => ?_) (fun c4 => ?_)
  · have n4 := i_nle c4
    refine R.ldc2 dX2_mean_9 kl_X2_57 ?_
    refine R.aload_n dX2_mean_12 rfl (by first | rfl | exact rfv_rf _) ?_
    refine R.getL dX2_mean_13 fl_X2_44 (by decide) rfl ?_
    refine R.lmul dX2_mean_16 ?_
    refine R.aload_n dX2_mean_17 rfl (by first | rfl | exact rfv_rf _) ?_
    refine R.getI dX2_mean_18 fl_X2_41 (by decide) rfl ?_
    refine R.i2l dX2_mean_21 ?_
    refine R.ladd dX2_mean_22 ?_
    refine R.ldc2 dX2_mean_23 kl_X2_57 ?_
    refine R.aload_n dX2_mean_26 rfl (by first | rfl | exact rfv_rf _) ?_
    refine R.getI dX2_mean_27 fl_X2_41 (by decide) rfl ?_
    refine R.i2l dX2_mean_30 ?_
    refine R.lmul dX2_mean_31 ?_
    refine cl_X2_59 rfl rfl (by first | exact Nat.le_of_ble_eq_true rfl | simp [rf_cat, Value.category]) dX2_mean_32 ?_
    refine s_floorDiv (ne_2n (by assumption)) ?_
    refine R.l2i dX2_mean_35 ?_
    refine WP.ret (ov := some (.int _)) dX2_mean_36 ⟨rfl, _, rfl, by first | rfl | assumption | exact nar_b01 (by assumption)⟩ ?_
    simpa [cMean, *] using hq
  · have n4 := i_nlt c4
    refine R.iconst (v := 0) dX2_mean_7 rfl ?_
    refine WP.ret (ov := some (.int _)) dX2_mean_8 ⟨rfl, _, rfl, by first | rfl | assumption | exact nar_b01 (by assumption)⟩ ?_
    simpa [cMean, *] using hq
set_option maxHeartbeats 1000000 in
set_option maxRecDepth 4000 in
theorem s_cErr {d : Nat} {c : Nat} {M : Mem} {Q : Out → Mem → Prop} (hq : Q (.inl (some (.int (cMean (mI M 1 c 8) (mL M 1 c 9) - mI M 1 c 4)))) M) : WPc (d + 2) mX2_error [.ref (rf 1 c)] M Q := by
  refine WPc.of (by decide +kernel) (Nat.le_of_ble_eq_true rfl) rfl ?_
  refine R.aload_n dX2_error_0 rfl (by first | rfl | exact rfv_rf _) ?_
  refine cl_X2_65 rfl rfl (by first | exact Nat.le_of_ble_eq_true rfl | simp [rf_cat, Value.category]) dX2_error_1 ?_
  refine s_cMean ?_
  refine R.aload_n dX2_error_4 rfl (by first | rfl | exact rfv_rf _) ?_
  refine R.getI dX2_error_5 fl_X2_24 (by decide) rfl ?_
  refine R.isub dX2_error_8 ?_
  refine WP.ret (ov := some (.int _)) dX2_error_9 ⟨rfl, _, rfl, by first | rfl | assumption | exact nar_b01 (by assumption)⟩ ?_
  exact hq
set_option maxHeartbeats 1000000 in
set_option maxRecDepth 4000 in
theorem s_cPrice {d : Nat} {c : Nat} {M : Mem} {Q : Out → Mem → Prop} (hq : Q (.inl (some (.int (fmax 0 (cMean (mI M 1 c 8) (mL M 1 c 9)))))) M) : WPc (d + 2) mX2_price [.ref (rf 1 c)] M Q := by
  refine WPc.of (by decide +kernel) (Nat.le_of_ble_eq_true rfl) rfl ?_
  refine R.iconst (v := 0) dX2_price_0 rfl ?_
  refine R.aload_n dX2_price_1 rfl (by first | rfl | exact rfv_rf _) ?_
  refine cl_X2_65 rfl rfl (by first | exact Nat.le_of_ble_eq_true rfl | simp [rf_cat, Value.category]) dX2_price_2 ?_
  refine s_cMean ?_
  refine cl_X2_76 rfl rfl (by first | exact Nat.le_of_ble_eq_true rfl | simp [rf_cat, Value.category]) dX2_price_5 ?_
  refine s_max ?_
  refine WP.ret (ov := some (.int _)) dX2_price_8 ⟨rfl, _, rfl, by first | rfl | assumption | exact nar_b01 (by assumption)⟩ ?_
  exact hq
set_option maxHeartbeats 1000000 in
set_option maxRecDepth 4000 in
theorem s_cStore {d : Nat} {c : Nat} {r s : Int32} {M : Mem} {Q : Out → Mem → Prop} (hq : Q (.inl none) (cStore M c r s)) : WPc d mX2_store [.ref (rf 1 c), .int r, .int s] M Q := by
  refine WPc.of (by decide +kernel) (Nat.le_of_ble_eq_true rfl) rfl ?_
  refine R.aload_n dX2_store_0 rfl (by first | rfl | exact rfv_rf _) ?_
  refine R.dup dX2_store_1 (by first | rfl | exact rf_cat _) ?_
  refine R.getI dX2_store_2 fl_X2_41 (by decide) rfl ?_
  refine R.iconst (v := 1) dX2_store_5 rfl ?_
  refine R.iadd dX2_store_6 ?_
  refine R.putI dX2_store_7 fl_X2_41 (fun q hq => by cases hq; exact Or.inl rfl) (by decide) rfl rfl rfl ?_
  refine R.aload_n dX2_store_10 rfl (by first | rfl | exact rfv_rf _) ?_
  refine R.dup dX2_store_11 (by first | rfl | exact rf_cat _) ?_
  refine R.getL dX2_store_12 fl_X2_44 (by decide) rfl ?_
  refine R.iload_n dX2_store_15 rfl ?_
  refine R.i2l dX2_store_16 ?_
  refine R.ladd dX2_store_17 ?_
  refine R.putL dX2_store_18 fl_X2_44 (fun q hq => by cases hq; exact Or.inl rfl) rfl ?_
  refine R.aload_n dX2_store_21 rfl (by first | rfl | exact rfv_rf _) ?_
  refine R.dup dX2_store_22 (by first | rfl | exact rf_cat _) ?_
  refine R.getL dX2_store_23 fl_X2_48 (by decide) rfl ?_
  refine R.iload_n dX2_store_26 rfl ?_
  refine R.i2l dX2_store_27 ?_
  refine R.ladd dX2_store_28 ?_
  refine R.putL dX2_store_29 fl_X2_48 (fun q hq => by cases hq; exact Or.inl rfl) rfl ?_
  refine R.aload_n dX2_store_32 rfl (by first | rfl | exact rfv_rf _) ?_
  refine R.iload_n dX2_store_33 rfl ?_
  refine R.putI dX2_store_34 fl_X2_51 (fun q hq => by cases hq; exact Or.inl rfl) (by decide) rfl rfl rfl ?_
  refine WP.ret (ov := none) dX2_store_37 ⟨rfl, rfl⟩ ?_
  exact hq
set_option maxHeartbeats 1000000 in
set_option maxRecDepth 4000 in
theorem s_cOpen {d : Nat} {c : Nat} {M : Mem} {Q : Out → Mem → Prop} (hq : Q (.inl (some (.int (if rem (mI M 1 c 8) 2 = 0 then 0 else 1)))) M) : WPc d mX2_hasOpenPair [.ref (rf 1 c)] M Q := by
  refine WPc.of (by decide +kernel) (Nat.le_of_ble_eq_true rfl) rfl ?_
  refine R.aload_n dX2_hasOpenPair_0 rfl (by first | rfl | exact rfv_rf _) ?_
  refine R.getI dX2_hasOpenPair_1 fl_X2_41 (by decide) rfl ?_
  refine R.iconst (v := 2) dX2_hasOpenPair_4 rfl ?_
  refine R.irem dX2_hasOpenPair_5 (by decide) ?_
  refine R.if_eq (tgt := 13) dX2_hasOpenPair_6 (by decide) (fun c6 => ?_) (fun c6 => ?_)
  · refine R.iconst (v := 0) dX2_hasOpenPair_13 rfl ?_
    refine WP.ret (ov := some (.int _)) dX2_hasOpenPair_14 ⟨rfl, _, rfl, by first | rfl | assumption | exact nar_b01 (by assumption)⟩ ?_
    simpa [rem, *] using hq
  · refine R.iconst (v := 1) dX2_hasOpenPair_9 rfl ?_
    refine R.goto (tgt := 14) dX2_hasOpenPair_10 (by decide) ?_
    refine WP.ret (ov := some (.int _)) dX2_hasOpenPair_14 ⟨rfl, _, rfl, by first | rfl | assumption | exact nar_b01 (by assumption)⟩ ?_
    simpa [rem, *] using hq
set_option maxHeartbeats 1000000 in
set_option maxRecDepth 4000 in
theorem s_cTake {d : Nat} {c : Nat} {x : Int32} {M : Mem} {Q : Out → Mem → Prop} (hq : Q (.inl (some (.int (if ¬ mI M 1 c 7 = 0 ∧ mI M 1 c 3 + x ≤ 500 then 1 else 0)))) M) : WPc d mX2_canTakeGoods [.ref (rf 1 c), .int x] M Q := by
  refine WPc.of (by decide +kernel) (Nat.le_of_ble_eq_true rfl) rfl ?_
  refine R.aload_n dX2_canTakeGoods_0 rfl (by first | rfl | exact rfv_rf _) ?_
  refine R.getI dX2_canTakeGoods_1 fl_X2_34 (by decide) rfl ?_
  refine R.if_eq (tgt := 23) dX2_canTakeGoods_4 (by decide) (fun c4 => ?_) (fun c4 => ?_)
  · refine R.iconst (v := 0) dX2_canTakeGoods_23 rfl ?_
    refine WP.ret (ov := some (.int _)) dX2_canTakeGoods_24 ⟨rfl, _, rfl, by first | rfl | assumption | exact nar_b01 (by assumption)⟩ ?_
    simpa [*] using hq
  · refine R.aload_n dX2_canTakeGoods_7 rfl (by first | rfl | exact rfv_rf _) ?_
    refine R.getI dX2_canTakeGoods_8 fl_X2_21 (by decide) rfl ?_
    refine R.iload_n dX2_canTakeGoods_11 rfl ?_
    refine R.iadd dX2_canTakeGoods_12 ?_
    refine R.sipush (v := 500) dX2_canTakeGoods_13 (by decide) ?_
    refine R.icmp_gt (tgt := 23) dX2_canTakeGoods_16 (by decide) (fun c16 => ?_) (fun c16 => ?_)
    · have n16 := i_nle c16
      refine R.iconst (v := 0) dX2_canTakeGoods_23 rfl ?_
      refine WP.ret (ov := some (.int _)) dX2_canTakeGoods_24 ⟨rfl, _, rfl, by first | rfl | assumption | exact nar_b01 (by assumption)⟩ ?_
      simpa [*] using hq
    · have n16 := i_nlt c16
      refine R.iconst (v := 1) dX2_canTakeGoods_19 rfl ?_
      refine R.goto (tgt := 24) dX2_canTakeGoods_20 (by decide) ?_
      refine WP.ret (ov := some (.int _)) dX2_canTakeGoods_24 ⟨rfl, _, rfl, by first | rfl | assumption | exact nar_b01 (by assumption)⟩ ?_
      simpa [*] using hq
set_option maxHeartbeats 1000000 in
set_option maxRecDepth 4000 in
theorem s_cGive {d : Nat} {c : Nat} {x : Int32} {M : Mem} {Q : Out → Mem → Prop} (hq : Q (.inl (some (.int (if ¬ mI M 1 c 7 = 0 ∧ x ≤ mI M 1 c 3 then 1 else 0)))) M) : WPc d mX2_canGiveGoods [.ref (rf 1 c), .int x] M Q := by
  refine WPc.of (by decide +kernel) (Nat.le_of_ble_eq_true rfl) rfl ?_
  refine R.aload_n dX2_canGiveGoods_0 rfl (by first | rfl | exact rfv_rf _) ?_
  refine R.getI dX2_canGiveGoods_1 fl_X2_34 (by decide) rfl ?_
  refine R.if_eq (tgt := 19) dX2_canGiveGoods_4 (by decide) (fun c4 => ?_) (fun c4 => ?_)
  · refine R.iconst (v := 0) dX2_canGiveGoods_19 rfl ?_
    refine WP.ret (ov := some (.int _)) dX2_canGiveGoods_20 ⟨rfl, _, rfl, by first | rfl | assumption | exact nar_b01 (by assumption)⟩ ?_
    simpa [*] using hq
  · refine R.aload_n dX2_canGiveGoods_7 rfl (by first | rfl | exact rfv_rf _) ?_
    refine R.getI dX2_canGiveGoods_8 fl_X2_21 (by decide) rfl ?_
    refine R.iload_n dX2_canGiveGoods_11 rfl ?_
    refine R.icmp_lt (tgt := 19) dX2_canGiveGoods_12 (by decide) (fun c12 => ?_) (fun c12 => ?_)
    · have n12 := i_nle c12
      refine R.iconst (v := 0) dX2_canGiveGoods_19 rfl ?_
      refine WP.ret (ov := some (.int _)) dX2_canGiveGoods_20 ⟨rfl, _, rfl, by first | rfl | assumption | exact nar_b01 (by assumption)⟩ ?_
      simpa [*] using hq
    · have n12 := i_nlt c12
      refine R.iconst (v := 1) dX2_canGiveGoods_15 rfl ?_
      refine R.goto (tgt := 20) dX2_canGiveGoods_16 (by decide) ?_
      refine WP.ret (ov := some (.int _)) dX2_canGiveGoods_20 ⟨rfl, _, rfl, by first | rfl | assumption | exact nar_b01 (by assumption)⟩ ?_
      simpa [*] using hq
set_option maxHeartbeats 1000000 in
set_option maxRecDepth 4000 in
theorem s_cSound {d : Nat} {c : Nat} {M : Mem} {Q : Out → Mem → Prop} (hq : Q (.inl (some (.int (if mL M 1 c 9 = (mI M 1 c 8).toInt64 * (mI M 1 c 4).toInt64 + mL M 1 c 10 + (if rem (mI M 1 c 8) 2 = 0 then 0 else (mI M 1 c 12).toInt64) then 1 else 0)))) M) : WPc (d + 1) mX2_isSumSound [.ref (rf 1 c)] M Q := by
  refine WPc.of (by decide +kernel) (Nat.le_of_ble_eq_true rfl) rfl ?_
  refine R.aload_n dX2_isSumSound_0 rfl (by first | rfl | exact rfv_rf _) ?_
  refine cl_X2_80 rfl rfl (by first | exact Nat.le_of_ble_eq_true rfl | simp [rf_cat, Value.category]) dX2_isSumSound_1 ?_
  refine s_cOpen ?_
  refine R.if_eq (tgt := 15) dX2_isSumSound_4 (by decide) (fun c4 => ?_) (fun c4 => ?_)
  · refine R.lconst (v := 0) dX2_isSumSound_15 rfl ?_
    refine R.lstore_n dX2_isSumSound_16 (Nat.le_of_ble_eq_true rfl) (by decide) (by first | rfl | simp [lft, rf_cat]) rfl ?_
    refine R.aload_n dX2_isSumSound_17 rfl (by first | rfl | exact rfv_rf _) ?_
    refine R.getL dX2_isSumSound_18 fl_X2_44 (by decide) rfl ?_
    refine R.aload_n dX2_isSumSound_21 rfl (by first | rfl | exact rfv_rf _) ?_
    refine R.getI dX2_isSumSound_22 fl_X2_41 (by decide) rfl ?_
    refine R.i2l dX2_isSumSound_25 ?_
    refine R.aload_n dX2_isSumSound_26 rfl (by first | rfl | exact rfv_rf _) ?_
    refine R.getI dX2_isSumSound_27 fl_X2_24 (by decide) rfl ?_
    refine R.i2l dX2_isSumSound_30 ?_
    refine R.lmul dX2_isSumSound_31 ?_
    refine R.aload_n dX2_isSumSound_32 rfl (by first | rfl | exact rfv_rf _) ?_
    refine R.getL dX2_isSumSound_33 fl_X2_48 (by decide) rfl ?_
    refine R.ladd dX2_isSumSound_36 ?_
    refine R.lload_n dX2_isSumSound_37 rfl ?_
    refine R.ladd dX2_isSumSound_38 ?_
    refine R.lcmp dX2_isSumSound_39 ?_
    refine R.if_ne (tgt := 47) dX2_isSumSound_40 (by decide) (fun c40 => ?_) (fun c40 => ?_)
    · refine R.iconst (v := 0) dX2_isSumSound_47 rfl ?_
      refine WP.ret (ov := some (.int _)) dX2_isSumSound_48 ⟨rfl, _, rfl, by first | rfl | assumption | exact nar_b01 (by assumption)⟩ ?_
      have e : rem (mI M 1 c 8) 2 = 0 := by by_cases z : rem (mI M 1 c 8) 2 = 0; exact z; rw [if_neg z] at c4; exact absurd c4 (by decide)
      rw [if_pos e] at hq
      rw [if_neg (fun z => c40 ((lg_cmp_eq _ _).mpr z))] at hq
      exact hq
    · refine R.iconst (v := 1) dX2_isSumSound_43 rfl ?_
      refine R.goto (tgt := 48) dX2_isSumSound_44 (by decide) ?_
      refine WP.ret (ov := some (.int _)) dX2_isSumSound_48 ⟨rfl, _, rfl, by first | rfl | assumption | exact nar_b01 (by assumption)⟩ ?_
      have e : rem (mI M 1 c 8) 2 = 0 := by by_cases z : rem (mI M 1 c 8) 2 = 0; exact z; rw [if_neg z] at c4; exact absurd c4 (by decide)
      rw [if_pos e] at hq
      rw [if_pos ((lg_cmp_eq _ _).mp c40)] at hq
      exact hq
  · refine R.aload_n dX2_isSumSound_7 rfl (by first | rfl | exact rfv_rf _) ?_
    refine R.getI dX2_isSumSound_8 fl_X2_54 (by decide) rfl ?_
    refine R.i2l dX2_isSumSound_11 ?_
    refine R.goto (tgt := 16) dX2_isSumSound_12 (by decide) ?_
    refine R.lstore_n dX2_isSumSound_16 (Nat.le_of_ble_eq_true rfl) (by decide) (by first | rfl | simp [lft, rf_cat]) rfl ?_
    refine R.aload_n dX2_isSumSound_17 rfl (by first | rfl | exact rfv_rf _) ?_
    refine R.getL dX2_isSumSound_18 fl_X2_44 (by decide) rfl ?_
    refine R.aload_n dX2_isSumSound_21 rfl (by first | rfl | exact rfv_rf _) ?_
    refine R.getI dX2_isSumSound_22 fl_X2_41 (by decide) rfl ?_
    refine R.i2l dX2_isSumSound_25 ?_
    refine R.aload_n dX2_isSumSound_26 rfl (by first | rfl | exact rfv_rf _) ?_
    refine R.getI dX2_isSumSound_27 fl_X2_24 (by decide) rfl ?_
    refine R.i2l dX2_isSumSound_30 ?_
    refine R.lmul dX2_isSumSound_31 ?_
    refine R.aload_n dX2_isSumSound_32 rfl (by first | rfl | exact rfv_rf _) ?_
    refine R.getL dX2_isSumSound_33 fl_X2_48 (by decide) rfl ?_
    refine R.ladd dX2_isSumSound_36 ?_
    refine R.lload_n dX2_isSumSound_37 rfl ?_
    refine R.ladd dX2_isSumSound_38 ?_
    refine R.lcmp dX2_isSumSound_39 ?_
    refine R.if_ne (tgt := 47) dX2_isSumSound_40 (by decide) (fun c40 => ?_) (fun c40 => ?_)
    · refine R.iconst (v := 0) dX2_isSumSound_47 rfl ?_
      refine WP.ret (ov := some (.int _)) dX2_isSumSound_48 ⟨rfl, _, rfl, by first | rfl | assumption | exact nar_b01 (by assumption)⟩ ?_
      have e : ¬ rem (mI M 1 c 8) 2 = 0 := by intro z; rw [if_pos z] at c4; exact absurd rfl c4
      rw [if_neg e] at hq
      rw [if_neg (fun z => c40 ((lg_cmp_eq _ _).mpr z))] at hq
      exact hq
    · refine R.iconst (v := 1) dX2_isSumSound_43 rfl ?_
      refine R.goto (tgt := 48) dX2_isSumSound_44 (by decide) ?_
      refine WP.ret (ov := some (.int _)) dX2_isSumSound_48 ⟨rfl, _, rfl, by first | rfl | assumption | exact nar_b01 (by assumption)⟩ ?_
      have e : ¬ rem (mI M 1 c 8) 2 = 0 := by intro z; rw [if_pos z] at c4; exact absurd rfl c4
      rw [if_neg e] at hq
      rw [if_pos ((lg_cmp_eq _ _).mp c40)] at hq
      exact hq
set_option maxHeartbeats 1000000 in
set_option maxRecDepth 4000 in
theorem s_bInit {d : Nat} {b : Nat} {x : Int32} {M : Mem} {Q : Out → Mem → Prop} (hd2 : 2 ≤ d) (hq : Q (.inl none) (sI M 0 b 0 x)) : WPc d mX1_init [.ref (rf 0 b), .int x] M Q := by
  refine WPc.of (by decide +kernel) (Nat.le_of_ble_eq_true rfl) rfl ?_
  refine R.aload_n dX1_init_0 rfl (by first | rfl | exact rfv_rf _) ?_
  refine R.objInit (by decide) oi_X1_3 oi_in oi_co (by omega) (by first | exact Nat.le_of_ble_eq_true rfl | simp [rf_cat, Value.category]) dX1_init_1 ?_
  refine R.aload_n dX1_init_4 rfl (by first | rfl | exact rfv_rf _) ?_
  refine R.iload_n dX1_init_5 rfl ?_
  refine R.putI dX1_init_6 fl_X1_9 (fun q hq => by cases hq; exact Or.inr ⟨rfl, rfl⟩) (by decide) rfl rfl rfl ?_
  refine WP.ret (ov := none) dX1_init_9 ⟨rfl, rfl⟩ ?_
  exact hq
set_option maxHeartbeats 1000000 in
set_option maxRecDepth 4000 in
theorem s_bReset {d : Nat} {b : Nat} {M : Mem} {Q : Out → Mem → Prop} (hq : Q (.inl none) (bReset M b)) : WPc d mX1_reset [.ref (rf 0 b)] M Q := by
  refine WPc.of (by decide +kernel) (Nat.le_of_ble_eq_true rfl) rfl ?_
  refine R.aload_n dX1_reset_0 rfl (by first | rfl | exact rfv_rf _) ?_
  refine R.iconst (v := 0) dX1_reset_1 rfl ?_
  refine R.putI dX1_reset_2 fl_X1_15 (fun q hq => by cases hq; exact Or.inl rfl) (by decide) rfl rfl rfl ?_
  refine R.aload_n dX1_reset_5 rfl (by first | rfl | exact rfv_rf _) ?_
  refine R.iconst (v := 0) dX1_reset_6 rfl ?_
  refine R.putI dX1_reset_7 fl_X1_18 (fun q hq => by cases hq; exact Or.inl rfl) (by decide) rfl rfl rfl ?_
  refine R.aload_n dX1_reset_10 rfl (by first | rfl | exact rfv_rf _) ?_
  refine R.iconst (v := 0) dX1_reset_11 rfl ?_
  refine R.putI dX1_reset_12 fl_X1_21 (fun q hq => by cases hq; exact Or.inl rfl) (by decide) rfl rfl rfl ?_
  refine R.aload_n dX1_reset_15 rfl (by first | rfl | exact rfv_rf _) ?_
  refine R.iconst (v := 0) dX1_reset_16 rfl ?_
  refine R.putI dX1_reset_17 fl_X1_24 (fun q hq => by cases hq; exact Or.inl rfl) (by decide) rfl rfl rfl ?_
  refine R.aload_n dX1_reset_20 rfl (by first | rfl | exact rfv_rf _) ?_
  refine R.iconst (v := 0) dX1_reset_21 rfl ?_
  refine R.putI dX1_reset_22 fl_X1_27 (fun q hq => by cases hq; exact Or.inl rfl) (by decide) rfl rfl rfl ?_
  refine WP.ret (ov := none) dX1_reset_25 ⟨rfl, rfl⟩ ?_
  exact hq
set_option maxHeartbeats 1000000 in
set_option maxRecDepth 4000 in
theorem s_bCopy {d : Nat} {b e : Nat} {M : Mem} {Q : Out → Mem → Prop} (hq : Q (.inl none) (bCopy M b e)) : WPc d mX1_copyFrom [.ref (rf 0 b), .ref (rf 0 e)] M Q := by
  refine WPc.of (by decide +kernel) (Nat.le_of_ble_eq_true rfl) rfl ?_
  refine R.aload_n dX1_copyFrom_0 rfl (by first | rfl | exact rfv_rf _) ?_
  refine R.aload_n dX1_copyFrom_1 rfl (by first | rfl | exact rfv_rf _) ?_
  refine R.getI dX1_copyFrom_2 fl_X1_15 (by decide) rfl ?_
  refine R.putI dX1_copyFrom_5 fl_X1_15 (fun q hq => by cases hq; exact Or.inl rfl) (by decide) rfl rfl rfl ?_
  refine R.aload_n dX1_copyFrom_8 rfl (by first | rfl | exact rfv_rf _) ?_
  refine R.aload_n dX1_copyFrom_9 rfl (by first | rfl | exact rfv_rf _) ?_
  refine R.getI dX1_copyFrom_10 fl_X1_18 (by decide) rfl ?_
  refine R.putI dX1_copyFrom_13 fl_X1_18 (fun q hq => by cases hq; exact Or.inl rfl) (by decide) rfl rfl rfl ?_
  refine R.aload_n dX1_copyFrom_16 rfl (by first | rfl | exact rfv_rf _) ?_
  refine R.aload_n dX1_copyFrom_17 rfl (by first | rfl | exact rfv_rf _) ?_
  refine R.getI dX1_copyFrom_18 fl_X1_21 (by decide) rfl ?_
  refine R.putI dX1_copyFrom_21 fl_X1_21 (fun q hq => by cases hq; exact Or.inl rfl) (by decide) rfl rfl rfl ?_
  refine R.aload_n dX1_copyFrom_24 rfl (by first | rfl | exact rfv_rf _) ?_
  refine R.aload_n dX1_copyFrom_25 rfl (by first | rfl | exact rfv_rf _) ?_
  refine R.getI dX1_copyFrom_26 fl_X1_24 (by decide) rfl ?_
  refine R.putI dX1_copyFrom_29 fl_X1_24 (fun q hq => by cases hq; exact Or.inl rfl) (by decide) rfl rfl rfl ?_
  refine R.aload_n dX1_copyFrom_32 rfl (by first | rfl | exact rfv_rf _) ?_
  refine R.aload_n dX1_copyFrom_33 rfl (by first | rfl | exact rfv_rf _) ?_
  refine R.getI dX1_copyFrom_34 fl_X1_27 (by decide) rfl ?_
  refine R.putI dX1_copyFrom_37 fl_X1_27 (fun q hq => by cases hq; exact Or.inl rfl) (by decide) rfl rfl rfl ?_
  refine WP.ret (ov := none) dX1_copyFrom_40 ⟨rfl, rfl⟩ ?_
  exact hq
set_option maxHeartbeats 1000000 in
set_option maxRecDepth 4000 in
theorem s_bTrust {d : Nat} {b : Nat} {x : Int32} {M : Mem} {Q : Out → Mem → Prop} (hq : Q (.inl (some (.int (fTrust (mI M 0 b 4) (mI M 0 b 3) x)))) M) : WPc (d + 1) mX1_trustAfter [.ref (rf 0 b), .int x] M Q := by
  refine WPc.of (by decide +kernel) (Nat.le_of_ble_eq_true rfl) rfl ?_
  refine R.iload_n dX1_trustAfter_0 rfl ?_
  refine cl_X1_30 rfl rfl (by first | exact Nat.le_of_ble_eq_true rfl | simp [rf_cat, Value.category]) dX1_trustAfter_1 ?_
  refine s_abs ?_
  refine R.aload_n dX1_trustAfter_4 rfl (by first | rfl | exact rfv_rf _) ?_
  refine R.getI dX1_trustAfter_5 fl_X1_21 (by decide) rfl ?_
  refine R.isub dX1_trustAfter_8 ?_
  refine R.istore_n dX1_trustAfter_9 (Nat.le_of_ble_eq_true rfl) (by decide) (by first | rfl | simp [lft, rf_cat]) rfl ?_
  refine R.iload_n dX1_trustAfter_10 rfl ?_
  refine R.if_gt (tgt := 28) dX1_trustAfter_11 (by decide) (fun c11 => ?_) (fun c11 => ?_)
  · have n11 := i_nle c11
    refine R.iconst (v := 0) dX1_trustAfter_28 rfl ?_
    refine R.aload_n dX1_trustAfter_29 rfl (by first | rfl | exact rfv_rf _) ?_
    refine R.getI dX1_trustAfter_30 fl_X1_24 (by decide) rfl ?_
    refine R.iload_n dX1_trustAfter_33 rfl ?_
    refine R.isub dX1_trustAfter_34 ?_
    refine cl_X1_40 rfl rfl (by first | exact Nat.le_of_ble_eq_true rfl | simp [rf_cat, Value.category]) dX1_trustAfter_35 ?_
    refine s_max ?_
    refine WP.ret (ov := some (.int _)) dX1_trustAfter_38 ⟨rfl, _, rfl, by first | rfl | assumption | exact nar_b01 (by assumption)⟩ ?_
    simpa [fTrust, *] using hq
  · have n11 := i_nlt c11
    refine R.bipush (v := 100) dX1_trustAfter_14 (by decide) ?_
    refine R.aload_n dX1_trustAfter_16 rfl (by first | rfl | exact rfv_rf _) ?_
    refine R.getI dX1_trustAfter_17 fl_X1_24 (by decide) rfl ?_
    refine R.iconst (v := 5) dX1_trustAfter_20 rfl ?_
    refine R.iadd dX1_trustAfter_21 ?_
    refine cl_X1_36 rfl rfl (by first | exact Nat.le_of_ble_eq_true rfl | simp [rf_cat, Value.category]) dX1_trustAfter_22 ?_
    refine s_min ?_
    refine R.goto (tgt := 38) dX1_trustAfter_25 (by decide) ?_
    refine WP.ret (ov := some (.int _)) dX1_trustAfter_38 ⟨rfl, _, rfl, by first | rfl | assumption | exact nar_b01 (by assumption)⟩ ?_
    simpa [fTrust, *] using hq
set_option maxHeartbeats 1000000 in
set_option maxRecDepth 4000 in
theorem s_bRefund {d : Nat} {b : Nat} {x : Int32} {M : Mem} {Q : Out → Mem → Prop} (hq : Q (.inl (some (.int (fRefund (mI M 0 b 3) x)))) M) : WPc d mX1_refundFor [.ref (rf 0 b), .int x] M Q := by
  refine WPc.of (by decide +kernel) (Nat.le_of_ble_eq_true rfl) rfl ?_
  refine R.iload_n dX1_refundFor_0 rfl ?_
  refine R.aload_n dX1_refundFor_1 rfl (by first | rfl | exact rfv_rf _) ?_
  refine R.getI dX1_refundFor_2 fl_X1_21 (by decide) rfl ?_
  refine R.icmp_le (tgt := 12) dX1_refundFor_5 (by decide) (fun c5 => ?_) (fun c5 => ?_)
  · have n5 := i_nl2 c5
    refine R.iconst (v := 0) dX1_refundFor_12 rfl ?_
    refine WP.ret (ov := some (.int _)) dX1_refundFor_13 ⟨rfl, _, rfl, by first | rfl | assumption | exact nar_b01 (by assumption)⟩ ?_
    simpa [fRefund, *] using hq
  · have n5 := i_lt c5
    refine R.iload_n dX1_refundFor_8 rfl ?_
    refine R.goto (tgt := 13) dX1_refundFor_9 (by decide) ?_
    refine WP.ret (ov := some (.int _)) dX1_refundFor_13 ⟨rfl, _, rfl, by first | rfl | assumption | exact nar_b01 (by assumption)⟩ ?_
    simpa [fRefund, *] using hq
set_option maxHeartbeats 1000000 in
set_option maxRecDepth 4000 in
theorem s_sInit {d : Nat} {s : Nat} {M : Mem} {Q : Out → Mem → Prop} (hd2 : 2 ≤ d) (hq : Q (.inl none) (M)) : WPc d mX4_init [.ref (rf 3 s)] M Q := by
  refine WPc.of (by decide +kernel) (Nat.le_of_ble_eq_true rfl) rfl ?_
  refine R.aload_n dX4_init_0 rfl (by first | rfl | exact rfv_rf _) ?_
  refine R.objInit (by decide) oi_X4_1 oi_in oi_co (by omega) (by first | exact Nat.le_of_ble_eq_true rfl | simp [rf_cat, Value.category]) dX4_init_1 ?_
  refine WP.ret (ov := none) dX4_init_4 ⟨rfl, rfl⟩ ?_
  exact hq
set_option maxHeartbeats 1000000 in
set_option maxRecDepth 4000 in
theorem s_sReset {d : Nat} {s : Nat} {M : Mem} {Q : Out → Mem → Prop} (hq : Q (.inl none) (sReset M s)) : WPc d mX4_reset [.ref (rf 3 s)] M Q := by
  refine WPc.of (by decide +kernel) (Nat.le_of_ble_eq_true rfl) rfl ?_
  refine R.aload_n dX4_reset_0 rfl (by first | rfl | exact rfv_rf _) ?_
  refine R.iconst (v := 1) dX4_reset_1 rfl ?_
  refine R.putI dX4_reset_2 fl_X4_7 (fun q hq => by cases hq; exact Or.inl rfl) (by decide) rfl rfl rfl ?_
  refine R.aload_n dX4_reset_5 rfl (by first | rfl | exact rfv_rf _) ?_
  refine R.iconst (v := 5) dX4_reset_6 rfl ?_
  refine R.putI dX4_reset_7 fl_X4_13 (fun q hq => by cases hq; exact Or.inl rfl) (by decide) rfl rfl rfl ?_
  refine R.aload_n dX4_reset_10 rfl (by first | rfl | exact rfv_rf _) ?_
  refine R.bipush (v := 50) dX4_reset_11 (by decide) ?_
  refine R.putI dX4_reset_13 fl_X4_16 (fun q hq => by cases hq; exact Or.inl rfl) (by decide) rfl rfl rfl ?_
  refine R.aload_n dX4_reset_16 rfl (by first | rfl | exact rfv_rf _) ?_
  refine R.iconst (v := 0) dX4_reset_17 rfl ?_
  refine R.putI dX4_reset_18 fl_X4_19 (fun q hq => by cases hq; exact Or.inl rfl) (by decide) rfl rfl rfl ?_
  refine WP.ret (ov := none) dX4_reset_21 ⟨rfl, rfl⟩ ?_
  exact hq
set_option maxHeartbeats 1000000 in
set_option maxRecDepth 4000 in
theorem s_sCopy {d : Nat} {s e : Nat} {M : Mem} {Q : Out → Mem → Prop} (hq : Q (.inl none) (sCopy M s e)) : WPc d mX4_copyFrom [.ref (rf 3 s), .ref (rf 3 e)] M Q := by
  refine WPc.of (by decide +kernel) (Nat.le_of_ble_eq_true rfl) rfl ?_
  refine R.aload_n dX4_copyFrom_0 rfl (by first | rfl | exact rfv_rf _) ?_
  refine R.aload_n dX4_copyFrom_1 rfl (by first | rfl | exact rfv_rf _) ?_
  refine R.getI dX4_copyFrom_2 fl_X4_7 (by decide) rfl ?_
  refine R.putI dX4_copyFrom_5 fl_X4_7 (fun q hq => by cases hq; exact Or.inl rfl) (by decide) rfl rfl rfl ?_
  refine R.aload_n dX4_copyFrom_8 rfl (by first | rfl | exact rfv_rf _) ?_
  refine R.aload_n dX4_copyFrom_9 rfl (by first | rfl | exact rfv_rf _) ?_
  refine R.getI dX4_copyFrom_10 fl_X4_13 (by decide) rfl ?_
  refine R.putI dX4_copyFrom_13 fl_X4_13 (fun q hq => by cases hq; exact Or.inl rfl) (by decide) rfl rfl rfl ?_
  refine R.aload_n dX4_copyFrom_16 rfl (by first | rfl | exact rfv_rf _) ?_
  refine R.aload_n dX4_copyFrom_17 rfl (by first | rfl | exact rfv_rf _) ?_
  refine R.getI dX4_copyFrom_18 fl_X4_16 (by decide) rfl ?_
  refine R.putI dX4_copyFrom_21 fl_X4_16 (fun q hq => by cases hq; exact Or.inl rfl) (by decide) rfl rfl rfl ?_
  refine R.aload_n dX4_copyFrom_24 rfl (by first | rfl | exact rfv_rf _) ?_
  refine R.aload_n dX4_copyFrom_25 rfl (by first | rfl | exact rfv_rf _) ?_
  refine R.getI dX4_copyFrom_26 fl_X4_19 (by decide) rfl ?_
  refine R.putI dX4_copyFrom_29 fl_X4_19 (fun q hq => by cases hq; exact Or.inl rfl) (by decide) rfl rfl rfl ?_
  refine WP.ret (ov := none) dX4_copyFrom_32 ⟨rfl, rfl⟩ ?_
  exact hq
set_option maxHeartbeats 1000000 in
set_option maxRecDepth 4000 in
theorem s_sSag {d : Nat} {s : Nat} {M : Mem} {Q : Out → Mem → Prop} (hq : Q (.inl (some (.int (fSag (mI M 3 s 2) (mI M 3 s 3))))) M) : WPc d mX4_sag [.ref (rf 3 s)] M Q := by
  refine WPc.of (by decide +kernel) (Nat.le_of_ble_eq_true rfl) rfl ?_
  refine R.aload_n dX4_sag_0 rfl (by first | rfl | exact rfv_rf _) ?_
  refine R.getI dX4_sag_1 fl_X4_16 (by decide) rfl ?_
  refine R.iconst (v := 1) dX4_sag_4 rfl ?_
  refine R.icmp_ge (tgt := 12) dX4_sag_5 (by decide) (fun c5 => ?_) (fun c5 => ?_)
  · have n5 := i_nl2 c5
    refine R.aload_n dX4_sag_12 rfl (by first | rfl | exact rfv_rf _) ?_
    refine R.getI dX4_sag_13 fl_X4_19 (by decide) rfl ?_
    refine R.aload_n dX4_sag_16 rfl (by first | rfl | exact rfv_rf _) ?_
    refine R.getI dX4_sag_17 fl_X4_16 (by decide) rfl ?_
    refine R.idiv dX4_sag_20 (ne_lt1 (by assumption)) ?_
    refine WP.ret (ov := some (.int _)) dX4_sag_21 ⟨rfl, _, rfl, by first | rfl | assumption | exact nar_b01 (by assumption)⟩ ?_
    simpa [fSag, *] using hq
  · have n5 := i_lt c5
    refine R.iconst (v := 0) dX4_sag_8 rfl ?_
    refine R.goto (tgt := 21) dX4_sag_9 (by decide) ?_
    refine WP.ret (ov := some (.int _)) dX4_sag_21 ⟨rfl, _, rfl, by first | rfl | assumption | exact nar_b01 (by assumption)⟩ ?_
    simpa [fSag, *] using hq
set_option maxHeartbeats 1000000 in
set_option maxRecDepth 4000 in
theorem s_sNoise {d : Nat} {s : Nat} {M : Mem} {Q : Out → Mem → Prop} (hq : Q (.inl (some (.int (fNz (nxG (mI M 3 s 0)) (mI M 3 s 1))))) (sI M 3 s 0 (nxG (mI M 3 s 0)))) : WPc d mX4_nextNoise [.ref (rf 3 s)] M Q := by
  refine WPc.of (by decide +kernel) (Nat.le_of_ble_eq_true rfl) rfl ?_
  refine R.aload_n dX4_nextNoise_0 rfl (by first | rfl | exact rfv_rf _) ?_
  refine R.bipush (v := 75) dX4_nextNoise_1 (by decide) ?_
  refine R.aload_n dX4_nextNoise_3 rfl (by first | rfl | exact rfv_rf _) ?_
  refine R.getI dX4_nextNoise_4 fl_X4_7 (by decide) rfl ?_
  refine R.imul dX4_nextNoise_7 ?_
  refine R.bipush (v := 74) dX4_nextNoise_8 (by decide) ?_
  refine R.iadd dX4_nextNoise_10 ?_
  refine R.ldc dX4_nextNoise_11 ki_X4_22 ?_
  refine R.irem dX4_nextNoise_13 (by decide) ?_
  refine R.putI dX4_nextNoise_14 fl_X4_7 (fun q hq => by cases hq; exact Or.inl rfl) (by decide) rfl rfl rfl ?_
  refine R.aload_n dX4_nextNoise_17 rfl (by first | rfl | exact rfv_rf _) ?_
  refine R.getI dX4_nextNoise_18 fl_X4_7 (by decide) rfl ?_
  refine R.iconst (v := 2) dX4_nextNoise_21 rfl ?_
  refine R.aload_n dX4_nextNoise_22 rfl (by first | rfl | exact rfv_rf _) ?_
  refine R.getI dX4_nextNoise_23 fl_X4_13 (by decide) rfl ?_
  refine R.imul dX4_nextNoise_26 ?_
  refine R.iconst (v := 1) dX4_nextNoise_27 rfl ?_
  refine R.iadd dX4_nextNoise_28 ?_
  refine R.irem dX4_nextNoise_29 (odd_ne _) ?_
  refine R.aload_n dX4_nextNoise_30 rfl (by first | rfl | exact rfv_rf _) ?_
  refine R.getI dX4_nextNoise_31 fl_X4_13 (by decide) rfl ?_
  refine R.isub dX4_nextNoise_34 ?_
  refine WP.ret (ov := some (.int _)) dX4_nextNoise_35 ⟨rfl, _, rfl, by first | rfl | assumption | exact nar_b01 (by assumption)⟩ ?_
  simpa [fNz, nxG, rem, mI_sI] using hq
set_option maxHeartbeats 1000000 in
set_option maxRecDepth 4000 in
theorem s_sRead {d : Nat} {s c : Nat} {M : Mem} {Q : Out → Mem → Prop} (hq : Q (.inl (some (.int (rdM M s c).1))) (rdM M s c).2) : WPc (d + 1) mX4_read [.ref (rf 3 s), .ref (rf 1 c)] M Q := by
  refine WPc.of (by decide +kernel) (Nat.le_of_ble_eq_true rfl) rfl ?_
  refine R.aload_n dX4_read_0 rfl (by first | rfl | exact rfv_rf _) ?_
  refine R.getI dX4_read_1 fl_X4_23 (by decide) rfl ?_
  refine R.ineg dX4_read_4 ?_
  refine R.istore_n dX4_read_5 (Nat.le_of_ble_eq_true rfl) (by decide) (by first | rfl | simp [lft, rf_cat]) rfl ?_
  refine R.aload_n dX4_read_6 rfl (by first | rfl | exact rfv_rf _) ?_
  refine cl_X4_28 rfl rfl (by first | exact Nat.le_of_ble_eq_true rfl | simp [rf_cat, Value.category]) dX4_read_7 ?_
  refine s_cOpen ?_
  refine R.if_ne (tgt := 23) dX4_read_10 (by decide) (fun c10 => ?_) (fun c10 => ?_)
  · refine R.aload_n dX4_read_23 rfl (by first | rfl | exact rfv_rf _) ?_
    refine cl_X4_36 rfl rfl (by first | exact Nat.le_of_ble_eq_true rfl | simp [rf_cat, Value.category]) dX4_read_24 ?_
    refine s_sSag ?_
    refine R.istore_n dX4_read_27 (Nat.le_of_ble_eq_true rfl) (by decide) (by first | rfl | simp [lft, rf_cat]) rfl ?_
    refine R.aload_n dX4_read_28 rfl (by first | rfl | exact rfv_rf _) ?_
    refine R.getI dX4_read_29 fl_X4_39 (by decide) rfl ?_
    refine R.iload_n dX4_read_32 rfl ?_
    refine R.iadd dX4_read_33 ?_
    refine R.iload_n dX4_read_34 rfl ?_
    refine R.iadd dX4_read_35 ?_
    refine R.istore dX4_read_36 (Nat.le_of_ble_eq_true rfl) (by decide) (by first | rfl | simp [lft, rf_cat]) rfl ?_
    refine R.aload_n dX4_read_38 rfl (by first | rfl | exact rfv_rf _) ?_
    refine R.iload dX4_read_39 rfl ?_
    refine R.iload_n dX4_read_41 rfl ?_
    refine cl_X4_42 rfl rfl (by first | exact Nat.le_of_ble_eq_true rfl | simp [rf_cat, Value.category]) dX4_read_42 ?_
    refine s_cStore ?_
    refine R.aload_n dX4_read_45 rfl (by first | rfl | exact rfv_rf _) ?_
    refine R.dup dX4_read_46 (by first | rfl | exact rf_cat _) ?_
    refine R.getI dX4_read_47 fl_X4_19 (by decide) rfl ?_
    refine R.iconst (v := 1) dX4_read_50 rfl ?_
    refine R.iadd dX4_read_51 ?_
    refine R.putI dX4_read_52 fl_X4_19 (fun q hq => by cases hq; exact Or.inl rfl) (by decide) rfl rfl rfl ?_
    refine R.iload dX4_read_55 rfl ?_
    refine WP.ret (ov := some (.int _)) dX4_read_57 ⟨rfl, _, rfl, by first | rfl | assumption | exact nar_b01 (by assumption)⟩ ?_
    have e : ¬ rem (mI M 1 c 8) 2 = 0 := by intro z; simp [z] at c10
    rw [rdM, if_neg e] at hq
    exact hq
  · refine R.aload_n dX4_read_13 rfl (by first | rfl | exact rfv_rf _) ?_
    refine cl_X4_32 rfl rfl (by first | exact Nat.le_of_ble_eq_true rfl | simp [rf_cat, Value.category]) dX4_read_14 ?_
    refine s_sNoise ?_
    refine R.istore_n dX4_read_17 (Nat.le_of_ble_eq_true rfl) (by decide) (by first | rfl | simp [lft, rf_cat]) rfl ?_
    refine R.aload_n dX4_read_18 rfl (by first | rfl | exact rfv_rf _) ?_
    refine R.iload_n dX4_read_19 rfl ?_
    refine R.putI dX4_read_20 fl_X4_23 (fun q hq => by cases hq; exact Or.inl rfl) (by decide) rfl rfl rfl ?_
    refine R.aload_n dX4_read_23 rfl (by first | rfl | exact rfv_rf _) ?_
    refine cl_X4_36 rfl rfl (by first | exact Nat.le_of_ble_eq_true rfl | simp [rf_cat, Value.category]) dX4_read_24 ?_
    refine s_sSag ?_
    refine R.istore_n dX4_read_27 (Nat.le_of_ble_eq_true rfl) (by decide) (by first | rfl | simp [lft, rf_cat]) rfl ?_
    refine R.aload_n dX4_read_28 rfl (by first | rfl | exact rfv_rf _) ?_
    refine R.getI dX4_read_29 fl_X4_39 (by decide) rfl ?_
    refine R.iload_n dX4_read_32 rfl ?_
    refine R.iadd dX4_read_33 ?_
    refine R.iload_n dX4_read_34 rfl ?_
    refine R.iadd dX4_read_35 ?_
    refine R.istore dX4_read_36 (Nat.le_of_ble_eq_true rfl) (by decide) (by first | rfl | simp [lft, rf_cat]) rfl ?_
    refine R.aload_n dX4_read_38 rfl (by first | rfl | exact rfv_rf _) ?_
    refine R.iload dX4_read_39 rfl ?_
    refine R.iload_n dX4_read_41 rfl ?_
    refine cl_X4_42 rfl rfl (by first | exact Nat.le_of_ble_eq_true rfl | simp [rf_cat, Value.category]) dX4_read_42 ?_
    refine s_cStore ?_
    refine R.aload_n dX4_read_45 rfl (by first | rfl | exact rfv_rf _) ?_
    refine R.dup dX4_read_46 (by first | rfl | exact rf_cat _) ?_
    refine R.getI dX4_read_47 fl_X4_19 (by decide) rfl ?_
    refine R.iconst (v := 1) dX4_read_50 rfl ?_
    refine R.iadd dX4_read_51 ?_
    refine R.putI dX4_read_52 fl_X4_19 (fun q hq => by cases hq; exact Or.inl rfl) (by decide) rfl rfl rfl ?_
    refine R.iload dX4_read_55 rfl ?_
    refine WP.ret (ov := some (.int _)) dX4_read_57 ⟨rfl, _, rfl, by first | rfl | assumption | exact nar_b01 (by assumption)⟩ ?_
    have e : rem (mI M 1 c 8) 2 = 0 := by by_cases z : rem (mI M 1 c 8) 2 = 0; exact z; simp [z] at c10
    rw [rdM, if_pos e] at hq
    exact hq
set_option maxHeartbeats 1000000 in
set_option maxRecDepth 4000 in
theorem s_tInit {d : Nat} {t : Nat} {M : Mem} {Q : Out → Mem → Prop} (hd2 : 2 ≤ d) (hq : Q (.inl none) (M)) : WPc d mX9_init [.ref (rf 8 t)] M Q := by
  refine WPc.of (by decide +kernel) (Nat.le_of_ble_eq_true rfl) rfl ?_
  refine R.aload_n dX9_init_0 rfl (by first | rfl | exact rfv_rf _) ?_
  refine R.objInit (by decide) oi_X9_1 oi_in oi_co (by omega) (by first | exact Nat.le_of_ble_eq_true rfl | simp [rf_cat, Value.category]) dX9_init_1 ?_
  refine WP.ret (ov := none) dX9_init_4 ⟨rfl, rfl⟩ ?_
  exact hq
set_option maxHeartbeats 1000000 in
set_option maxRecDepth 4000 in
theorem s_tReset {d : Nat} {t : Nat} {M : Mem} {Q : Out → Mem → Prop} (hq : Q (.inl none) (tReset M t)) : WPc d mX9_reset [.ref (rf 8 t)] M Q := by
  refine WPc.of (by decide +kernel) (Nat.le_of_ble_eq_true rfl) rfl ?_
  refine R.aload_n dX9_reset_0 rfl (by first | rfl | exact rfv_rf _) ?_
  refine R.iconst (v := 0) dX9_reset_1 rfl ?_
  refine R.putI dX9_reset_2 fl_X9_7 (fun q hq => by cases hq; exact Or.inl rfl) (by decide) rfl rfl rfl ?_
  refine R.aload_n dX9_reset_5 rfl (by first | rfl | exact rfv_rf _) ?_
  refine R.iconst (v := 0) dX9_reset_6 rfl ?_
  refine R.putI dX9_reset_7 fl_X9_13 (fun q hq => by cases hq; exact Or.inl rfl) (by decide) rfl rfl rfl ?_
  refine R.aload_n dX9_reset_10 rfl (by first | rfl | exact rfv_rf _) ?_
  refine R.iconst (v := 0) dX9_reset_11 rfl ?_
  refine R.putI dX9_reset_12 fl_X9_16 (fun q hq => by cases hq; exact Or.inl rfl) (by decide) rfl rfl rfl ?_
  refine R.aload_n dX9_reset_15 rfl (by first | rfl | exact rfv_rf _) ?_
  refine R.iconst (v := 0) dX9_reset_16 rfl ?_
  refine R.putI dX9_reset_17 fl_X9_19 (fun q hq => by cases hq; exact Or.inl rfl) (by decide) rfl rfl rfl ?_
  refine R.aload_n dX9_reset_20 rfl (by first | rfl | exact rfv_rf _) ?_
  refine R.iconst (v := 0) dX9_reset_21 rfl ?_
  refine R.putI dX9_reset_22 fl_X9_22 (fun q hq => by cases hq; exact Or.inl rfl) (by decide) rfl rfl rfl ?_
  refine R.aload_n dX9_reset_25 rfl (by first | rfl | exact rfv_rf _) ?_
  refine R.iconst (v := 0) dX9_reset_26 rfl ?_
  refine R.putI dX9_reset_27 fl_X9_25 (fun q hq => by cases hq; exact Or.inl rfl) (by decide) rfl rfl rfl ?_
  refine R.aload_n dX9_reset_30 rfl (by first | rfl | exact rfv_rf _) ?_
  refine R.iconst (v := 0) dX9_reset_31 rfl ?_
  refine R.putI dX9_reset_32 fl_X9_28 (fun q hq => by cases hq; exact Or.inl rfl) (by decide) rfl rfl rfl ?_
  refine WP.ret (ov := none) dX9_reset_35 ⟨rfl, rfl⟩ ?_
  exact hq
set_option maxHeartbeats 1000000 in
set_option maxRecDepth 4000 in
theorem s_tCopy {d : Nat} {t e : Nat} {M : Mem} {Q : Out → Mem → Prop} (hq : Q (.inl none) (tCopy M t e)) : WPc d mX9_copyFrom [.ref (rf 8 t), .ref (rf 8 e)] M Q := by
  refine WPc.of (by decide +kernel) (Nat.le_of_ble_eq_true rfl) rfl ?_
  refine R.aload_n dX9_copyFrom_0 rfl (by first | rfl | exact rfv_rf _) ?_
  refine R.aload_n dX9_copyFrom_1 rfl (by first | rfl | exact rfv_rf _) ?_
  refine R.getI dX9_copyFrom_2 fl_X9_7 (by decide) rfl ?_
  refine R.putI dX9_copyFrom_5 fl_X9_7 (fun q hq => by cases hq; exact Or.inl rfl) (by decide) rfl rfl rfl ?_
  refine R.aload_n dX9_copyFrom_8 rfl (by first | rfl | exact rfv_rf _) ?_
  refine R.aload_n dX9_copyFrom_9 rfl (by first | rfl | exact rfv_rf _) ?_
  refine R.getI dX9_copyFrom_10 fl_X9_13 (by decide) rfl ?_
  refine R.putI dX9_copyFrom_13 fl_X9_13 (fun q hq => by cases hq; exact Or.inl rfl) (by decide) rfl rfl rfl ?_
  refine R.aload_n dX9_copyFrom_16 rfl (by first | rfl | exact rfv_rf _) ?_
  refine R.aload_n dX9_copyFrom_17 rfl (by first | rfl | exact rfv_rf _) ?_
  refine R.getI dX9_copyFrom_18 fl_X9_16 (by decide) rfl ?_
  refine R.putI dX9_copyFrom_21 fl_X9_16 (fun q hq => by cases hq; exact Or.inl rfl) (by decide) rfl rfl rfl ?_
  refine R.aload_n dX9_copyFrom_24 rfl (by first | rfl | exact rfv_rf _) ?_
  refine R.aload_n dX9_copyFrom_25 rfl (by first | rfl | exact rfv_rf _) ?_
  refine R.getI dX9_copyFrom_26 fl_X9_19 (by decide) rfl ?_
  refine R.putI dX9_copyFrom_29 fl_X9_19 (fun q hq => by cases hq; exact Or.inl rfl) (by decide) rfl rfl rfl ?_
  refine R.aload_n dX9_copyFrom_32 rfl (by first | rfl | exact rfv_rf _) ?_
  refine R.aload_n dX9_copyFrom_33 rfl (by first | rfl | exact rfv_rf _) ?_
  refine R.getI dX9_copyFrom_34 fl_X9_22 (by decide) rfl ?_
  refine R.putI dX9_copyFrom_37 fl_X9_22 (fun q hq => by cases hq; exact Or.inl rfl) (by decide) rfl rfl rfl ?_
  refine R.aload_n dX9_copyFrom_40 rfl (by first | rfl | exact rfv_rf _) ?_
  refine R.aload_n dX9_copyFrom_41 rfl (by first | rfl | exact rfv_rf _) ?_
  refine R.getI dX9_copyFrom_42 fl_X9_25 (by decide) rfl ?_
  refine R.putI dX9_copyFrom_45 fl_X9_25 (fun q hq => by cases hq; exact Or.inl rfl) (by decide) rfl rfl rfl ?_
  refine R.aload_n dX9_copyFrom_48 rfl (by first | rfl | exact rfv_rf _) ?_
  refine R.aload_n dX9_copyFrom_49 rfl (by first | rfl | exact rfv_rf _) ?_
  refine R.getI dX9_copyFrom_50 fl_X9_28 (by decide) rfl ?_
  refine R.putI dX9_copyFrom_53 fl_X9_28 (fun q hq => by cases hq; exact Or.inl rfl) (by decide) rfl rfl rfl ?_
  refine WP.ret (ov := none) dX9_copyFrom_56 ⟨rfl, rfl⟩ ?_
  exact hq
