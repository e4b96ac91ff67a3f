/-! the law's thirty rounds -/
def mL_law : MRec := (yL_law, cL_law, 10, some .boolean, [])
set_option maxHeartbeats 2000000 in
set_option maxRecDepth 8000 in
theorem lw_loop {d : Nat} {x3 x5 : Int32} {v4 : Value} {M0 : Mem} {Q : Out → Mem → Prop} (hq : ∀ M', mK M' ≤ mK M0 + 60000 → mS M' ≤ mS M0 + 160000 → Q (.inl (some (.int 1))) M') : ∀ (f n T : Nat) (S : KS) (p : Nat) (W : LW) (M : Mem) (v7 v8 v9 : Value), n + f = 30 → T + f ≤ 39 → p ≤ n → mN M 27 0 < 2 ^ 31 → CSt M S p → LM M W → IV (kY S) W T → mK M ≤ mK M0 + 1600 * n → mS M ≤ mS M0 + 4400 * n → WP mL_law (d + 23) 443 [.ref (rf 27 0), .ref (rf 10 0), .ref (rf 32 0), .int x3, v4, .int x5, .int (nI n), v7, v8, v9] [] M Q := by
  intro f
  induction f with
  | zero =>
    intro n T S p W M v7 v8 v9 hn hT hp hm hC hW hI b1 b2
    have e : n = 30 := by omega
    subst e
    have hT9 := hI.t39
    refine R.iload dL_law_443 rfl ?_
    refine R.bipush (v := nI 30) dL_law_445 (by decide) ?_
    refine R.icmp_ge (tgt := 483) dL_law_447 (by decide) (fun _ => ?_) (fun z => absurd (Int32.le_refl _) z)
    refine R.aload_n dL_law_483 rfl (by first | rfl | exact rfv_rf _) ?_
    refine cl_L_311 rfl rfl (by first | exact Nat.le_of_ble_eq_true rfl | simp [rf_cat, Value.category]) dL_law_484 ?_
    refine c_isConsistent (d := d + 2) hC hI.pv.acy (chE_all (hI.pv.sb (by omega))) ?_
    rw [hI.co]
    refine WP.ret (ov := some (.int _)) dL_law_487 ⟨rfl, _, rfl, by first | rfl | assumption | exact nar_b01 (by assumption)⟩ ?_
    exact hq M (by omega) (by omega)
  | succ f ih =>
    intro n T S p W M v7 v8 v9 hn hT hp hm hC hW hI b1 b2
    refine R.iload dL_law_443 rfl ?_
    refine R.bipush (v := nI 30) dL_law_445 (by decide) ?_
    refine R.icmp_ge (tgt := 483) dL_law_447 (by decide) (fun z => absurd (nI_lt (show n < 30 by omega) (by omega)) (Int32.not_lt.mpr z)) (fun _ => ?_)
    refine R.aload_n dL_law_450 rfl (by first | rfl | exact rfv_rf _) ?_
    refine R.aload_n dL_law_451 rfl (by first | rfl | exact rfv_rf _) ?_
    refine R.aload_n dL_law_452 rfl (by first | rfl | exact rfv_rf _) ?_
    refine R.bipush (v := nI 11) dL_law_453 (by decide) ?_
    refine R.iload dL_law_455 rfl ?_
    refine R.iadd dL_law_457 ?_
    rw [nI_add]
    refine cl_L_257 rfl rfl (by first | exact Nat.le_of_ble_eq_true rfl | simp [rf_cat, Value.category]) dL_law_458 ?_
    refine s_cell (by omega) hm (fun x => ?_)
    skip
    refine cl_L_307 rfl rfl (by first | exact Nat.le_of_ble_eq_true rfl | simp [rf_cat, Value.category]) dL_law_461 ?_
    refine WPc.mono (s_event (T := T) (Q := fun o M1 => o = .inl (some (.int 1)) ∧ ∃ S1 p1 W1, CSt M1 S1 p1 ∧ LM M1 W1 ∧ IV (kY S1) W1 (T + 1) ∧ p1 ≤ p + 1 ∧ mK M1 ≤ mK M + 1500 ∧ mS M1 ≤ mS M + 4000) ⟨hC, hW, hI, by omega, by omega⟩ (fun M1 S1 p1 W1 a1 a2 a3 a4 a5 a6 => ⟨rfl, S1, p1, W1, a1, a2, a3, a4, a5, a6⟩)) (fun o9 M1 hmo ho => ?_)
    obtain ⟨rfl, S1, p1, W1, a1, a2, a3, a4, a5, a6⟩ := ho
    have hm1 : mN M1 27 0 < 2 ^ 31 := by rw [hmo.2.2.2.1]; exact hm
    refine R.if_eq (tgt := 475) dL_law_464 (by decide) (fun z => absurd z (by decide)) (fun _ => ?_)
    skip
    refine R.aload_n dL_law_467 rfl (by first | rfl | exact rfv_rf _) ?_
    refine R.aload_n dL_law_468 rfl (by first | rfl | exact rfv_rf _) ?_
    refine cl_L_303 rfl rfl (by first | exact Nat.le_of_ble_eq_true rfl | simp [rf_cat, Value.category]) dL_law_469 ?_
    refine WPc.mono (s_isWhole (d := d + 1) (Q := fun o M2 => o = .inl (some (.int 1)) ∧ LM M2 W1 ∧ Fx Sz 91 364 M1 M2) a1 a2 a3.wh (fun M2 c1 c2 => ⟨rfl, c1, c2⟩)) (fun o9 M2 hmo2 ho => ?_)
    obtain ⟨rfl, hM2, F2⟩ := ho
    have hm2 : mN M2 27 0 < 2 ^ 31 := by rw [hmo2.2.2.2.1]; exact hm1
    refine R.if_ne (tgt := 477) dL_law_472 (by decide) (fun _ => ?_) (fun z => absurd z (by decide))
    refine R.iinc dL_law_477 (Nat.le_of_ble_eq_true rfl) (by decide) (by first | rfl | simp [lft, rf_cat]) rfl (inc_nI _) rfl ?_
    refine R.goto (tgt := 443) dL_law_480 (by decide) ?_
    skip
    have b3 := F2.2.2.2.1
    have b4 := F2.2.2.2.2
    exact ih (n + 1) (T + 1) S1 p1 W1 M2 v7 v8 v9 (by omega) (by omega) (by omega) hm2 (a1.fz F2) hM2 a3 (by omega) (by omega)
/-- list i is fresh: empty, with the array that all share -/
theorem Ls.nw {M : Mem} {i : Nat} (h0 : i < mC M 33) (h1 : mI M 33 i 2 = 0) (h2 : mR M 33 i 1 = some (rf 31 0)) : Ls M i [] none := ⟨h0, h1, rfl, h2⟩
/-- a list more -/
def mkL (M : Mem) : Mem := sR (sI (al M 33 0 3) 33 (mC M 33) 0 0) 33 (mC M 33) 1 (some (rf 31 0))
theorem mkL_C (M : Mem) (k : Nat) : mC (mkL M) k = if k = 33 then mC M 33 + 1 else mC M k := rfl
theorem mkL_I (M : Mem) (k i f : Nat) : mI (mkL M) k i f = if k = 33 ∧ i = mC M 33 then 0 else mI M k i f := by
  show mI (sI (al M 33 0 3) 33 (mC M 33) 0 0) k i f = _
  rw [mI_sI, mI_al]
  by_cases z : k = 33 ∧ i = mC M 33
  · rw [if_pos z]
    split <;> rfl
  · rw [if_neg (fun q => z ⟨q.1, q.2.1⟩), if_neg z]
theorem mkL_R (M : Mem) (k i f : Nat) : mR (mkL M) k i f = if k = 33 ∧ i = mC M 33 then (if f = 1 then some (rf 31 0) else none) else mR M k i f := by
  show mR (sR (sI (al M 33 0 3) 33 (mC M 33) 0 0) 33 (mC M 33) 1 (some (rf 31 0))) k i f = _
  rw [mR_sR]
  by_cases z : k = 33 ∧ i = mC M 33
  · rw [if_pos z]
    by_cases q : f = 1
    · rw [if_pos ⟨z.1, z.2, q⟩, if_pos q]
    · rw [if_neg (fun w => q w.2.2), if_neg q]
      show mR (al M 33 0 3) k i f = none
      rw [mR_al, if_pos z]
  · rw [if_neg (fun q => z ⟨q.1, q.2.1⟩), if_neg z]
    show mR (al M 33 0 3) k i f = _
    rw [mR_al, if_neg z]
theorem mkL_N (M : Mem) (k i : Nat) : mN (mkL M) k i = if k = 33 ∧ i = mC M 33 then 0 else mN M k i := rfl
def crM (M : Mem) (k : Nat) (a b c : Int32) : Mem := sI (sI (sI (sR (mkL (sR (mkL M) 11 k 7 (some (rf 33 (mC M 33))))) 11 k 8 (some (rf 33 (mC (sR (mkL M) 11 k 7 (some (rf 33 (mC M 33)))) 33)))) 11 k 0 a) 11 k 1 b) 11 k 2 c
set_option maxHeartbeats 1000000 in
set_option maxRecDepth 8000 in
theorem s_crInit {d k : Nat} {a b c : Int32} {M : Mem} {Q : Out → Mem → Prop} (hq : Q (.inl none) (crM M k a b c)) : WPc (d + 5) mX13_init [.ref (rf 11 k), .int a, .int b, .int c] M Q := by
  refine WPc.of (by decide +kernel) (Nat.le_of_ble_eq_true rfl) rfl ?_
  refine R.aload_n dX13_init_0 rfl (by first | rfl | exact rfv_rf _) ?_
  refine R.objInit (by decide) oi_X13_1 oi_in oi_co (by omega) (by first | exact Nat.le_of_ble_eq_true rfl | simp [rf_cat, Value.category]) dX13_init_1 ?_
  refine R.aload_n dX13_init_4 rfl (by first | rfl | exact rfv_rf _) ?_
  refine R.new (k := 33) rfl cw_X13_7 mk_33 iz_33 dX13_init_5 ?_
  refine R.dup dX13_init_8 (by first | rfl | exact rf_cat _) ?_
  refine cl_X13_9 rfl rfl (by first | exact Nat.le_of_ble_eq_true rfl | simp [rf_cat, Value.category]) dX13_init_9 ?_
  refine s_alInit ?_
  first | refine R.putA dX13_init_12 fl_X13_10 (fun q hq => by cases hq; exact Or.inr ⟨rfl, rfl⟩) rfl ?_ | refine R.putN dX13_init_12 fl_X13_10 (fun q hq => by cases hq; exact Or.inr ⟨rfl, rfl⟩) rfl ?_ | refine R.putR dX13_init_12 fl_X13_10 (fun q hq => by cases hq; exact Or.inr ⟨rfl, rfl⟩) rfl ?_
  refine R.aload_n dX13_init_15 rfl (by first | rfl | exact rfv_rf _) ?_
  refine R.new (k := 33) rfl cw_X13_7 mk_33 iz_33 dX13_init_16 ?_
  refine R.dup dX13_init_19 (by first | rfl | exact rf_cat _) ?_
  refine cl_X13_9 rfl rfl (by first | exact Nat.le_of_ble_eq_true rfl | simp [rf_cat, Value.category]) dX13_init_20 ?_
  refine s_alInit ?_
  first | refine R.putA dX13_init_23 fl_X13_16 (fun q hq => by cases hq; exact Or.inr ⟨rfl, rfl⟩) rfl ?_ | refine R.putN dX13_init_23 fl_X13_16 (fun q hq => by cases hq; exact Or.inr ⟨rfl, rfl⟩) rfl ?_ | refine R.putR dX13_init_23 fl_X13_16 (fun q hq => by cases hq; exact Or.inr ⟨rfl, rfl⟩) rfl ?_
  refine R.aload_n dX13_init_26 rfl (by first | rfl | exact rfv_rf _) ?_
  refine R.iload_n dX13_init_27 rfl ?_
  refine R.putI dX13_init_28 fl_X13_19 (fun q hq => by cases hq; exact Or.inr ⟨rfl, rfl⟩) (by decide) rfl rfl rfl ?_
  refine R.aload_n dX13_init_31 rfl (by first | rfl | exact rfv_rf _) ?_
  refine R.iload_n dX13_init_32 rfl ?_
  refine R.putI dX13_init_33 fl_X13_23 (fun q hq => by cases hq; exact Or.inr ⟨rfl, rfl⟩) (by decide) rfl rfl rfl ?_
  refine R.aload_n dX13_init_36 rfl (by first | rfl | exact rfv_rf _) ?_
  refine R.iload_n dX13_init_37 rfl ?_
  refine R.putI dX13_init_38 fl_X13_26 (fun q hq => by cases hq; exact Or.inl rfl) (by decide) rfl rfl rfl ?_
  refine WP.ret (ov := none) dX13_init_41 ⟨rfl, rfl⟩ ?_
  exact hq
set_option maxHeartbeats 1000000 in
set_option maxRecDepth 8000 in
theorem s_ydInit {d : Nat} {M : Mem} {Q : Out → Mem → Prop} (hq : Q (.inl none) (sR (mkL M) 32 0 0 (some (rf 33 (mC M 33))))) : WPc (d + 5) mX14_init [.ref (rf 32 0)] M Q := by
  refine WPc.of (by decide +kernel) (Nat.le_of_ble_eq_true rfl) rfl ?_
  refine R.aload_n dX14_init_0 rfl (by first | rfl | exact rfv_rf _) ?_
  refine R.objInit (by decide) oi_X14_1 oi_in oi_co (by omega) (by first | exact Nat.le_of_ble_eq_true rfl | simp [rf_cat, Value.category]) dX14_init_1 ?_
  refine R.aload_n dX14_init_4 rfl (by first | rfl | exact rfv_rf _) ?_
  refine R.new (k := 33) rfl cw_X14_7 mk_33 iz_33 dX14_init_5 ?_
  refine R.dup dX14_init_8 (by first | rfl | exact rf_cat _) ?_
  refine cl_X14_9 rfl rfl (by first | exact Nat.le_of_ble_eq_true rfl | simp [rf_cat, Value.category]) dX14_init_9 ?_
  refine s_alInit ?_
  first | refine R.putA dX14_init_12 fl_X14_10 (fun q hq => by cases hq; exact Or.inr ⟨rfl, rfl⟩) rfl ?_ | refine R.putN dX14_init_12 fl_X14_10 (fun q hq => by cases hq; exact Or.inr ⟨rfl, rfl⟩) rfl ?_ | refine R.putR dX14_init_12 fl_X14_10 (fun q hq => by cases hq; exact Or.inr ⟨rfl, rfl⟩) rfl ?_
  refine WP.ret (ov := none) dX14_init_15 ⟨rfl, rfl⟩ ?_
  exact hq
