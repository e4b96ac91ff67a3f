/-! the model reads a script -/
/-- an order of the model's, and a statement -/
def OT (t : St) (its a x : Int32) : Prop := its = nI (t.1 + 1) ∧ t.1 < 9 ∧ (nCr t.1 = true → a = nI t.2.1) ∧ (t.1 = 0 ∨ t.1 = 1 ∨ t.1 = 2 → x = t.2.2.2) ∧ (t.1 = 3 ∨ t.1 = 6 → x = nI t.2.2.1) ∧ (t.1 = 7 ∨ t.1 = 8 → a = t.2.2.2)
def RS9 (ac : List St) (RR : OR9) : Prop := RR.1 = nI ac.length ∧ ac.length ≤ 30 ∧ ∀ k t, ac[k]? = some t → OT t (RR.2.1 k) (RR.2.2 (2 * k)) (RR.2.2 (2 * k + 1))
/-- what a statement of a script answers -/
def PRQ (Q : Out → Mem → Prop) (M0 : Mem) (b : Nat → Int32) (n : Nat) (w : Nat → Int32) (RR : OR9) (v : Nat) (r : QR) : Prop := match r with
  | .inl (cd, s) => ∀ M', PX M0 M' cd s w → Q (.inl (some (.int 0))) M'
  | .inr (e', t) => ∀ M' N', PQ M0 M' b n e' w N' RR → OT t (nI (v + 1)) (N' 0) (N' 1) → Q (.inl (some (.int 1))) M'
/-- the verbs, by the model's words -/
def vW9 (v : Nat) : Nat := [38, 39, 40, 41, 42, 43, 44, 33, 35].getD v 0
theorem vW9_e : ∀ v, v < 9 → sByt.getD (vW9 v) [] = sByt.getD (vWd v) [] := by decide +kernel
def shF (o : Option Nat) : Int32 := match o with
  | none => 0
  | some v => nI (v + 1)
set_option maxHeartbeats 4000000 in
set_option maxRecDepth 4000 in
theorem p_scH {d n e : Nat} {b w N : Nat → Int32} {RR : OR9} {M0 M : Mem} {Q : Out → Mem → Prop} (h : PQ M0 M b n e w N RR) (hq : Q (.inl (some (.int (shF (vbF b (tS b n e) (tE b n e) (tK b n e) 9 0))))) M) : WPc (d + 5) mX13_scriptHere [.ref (rf 11 0)] M Q := by
  refine WPc.of (by decide +kernel) (Nat.le_of_ble_eq_true rfl) rfl ?_
  rw [vbF] at hq
  by_cases y0 : isW b (tS b n e) (tE b n e) (tK b n e) (vWd 0) = true
  case pos =>
    have w0 : isW b (tS b n e) (tE b n e) (tK b n e) 38 = true := by rw [isW_e (v := 38) (v' := vWd 0) (vW9_e 0 (by decide))]; exact y0
    rw [if_pos y0] at hq
    refine R.aload_n dX13_scriptHere_0 rfl (by first | rfl | exact rfv_rf _) ?_
    refine R.ldcwS (i := 38) rfl dX13_scriptHere_1 ?_
    refine cl_X13_254 rfl rfl (by first | exact Nat.le_of_ble_eq_true rfl | simp [rf_cat, Value.category]) dX13_scriptHere_4 ?_
    refine p_isW (v := 38) h (by decide) ?_
    rw [if_pos w0]
    refine R.if_eq (tgt := 12) dX13_scriptHere_7 (by decide) (fun c9 => absurd c9 (by decide)) (fun _ => ?_)
    refine R.iconst (v := 1) dX13_scriptHere_10 rfl ?_
    refine WP.ret (ov := some (.int _)) dX13_scriptHere_11 ⟨rfl, _, rfl, by first | rfl | assumption | exact nar_b01 (by assumption)⟩ ?_
    exact hq
  have w0 : ¬ isW b (tS b n e) (tE b n e) (tK b n e) 38 = true := by rw [isW_e (v := 38) (v' := vWd 0) (vW9_e 0 (by decide))]; exact y0
  rw [if_neg y0] at hq
  rw [vbF] at hq
  by_cases y1 : isW b (tS b n e) (tE b n e) (tK b n e) (vWd 1) = true
  case pos =>
    have w1 : isW b (tS b n e) (tE b n e) (tK b n e) 39 = true := by rw [isW_e (v := 39) (v' := vWd 1) (vW9_e 1 (by decide))]; exact y1
    rw [if_pos y1] at hq
    refine R.aload_n dX13_scriptHere_0 rfl (by first | rfl | exact rfv_rf _) ?_
    refine R.ldcwS (i := 38) rfl dX13_scriptHere_1 ?_
    refine cl_X13_254 rfl rfl (by first | exact Nat.le_of_ble_eq_true rfl | simp [rf_cat, Value.category]) dX13_scriptHere_4 ?_
    refine p_isW (v := 38) h (by decide) ?_
    rw [if_neg w0]
    refine R.if_eq (tgt := 12) dX13_scriptHere_7 (by decide) (fun _ => ?_) (fun c9 => absurd (rfl) c9)
    refine R.aload_n dX13_scriptHere_12 rfl (by first | rfl | exact rfv_rf _) ?_
    refine R.ldcwS (i := 39) rfl dX13_scriptHere_13 ?_
    refine cl_X13_254 rfl rfl (by first | exact Nat.le_of_ble_eq_true rfl | simp [rf_cat, Value.category]) dX13_scriptHere_16 ?_
    refine p_isW (v := 39) h (by decide) ?_
    rw [if_pos w1]
    refine R.if_eq (tgt := 24) dX13_scriptHere_19 (by decide) (fun c9 => absurd c9 (by decide)) (fun _ => ?_)
    refine R.iconst (v := 2) dX13_scriptHere_22 rfl ?_
    refine WP.ret (ov := some (.int _)) dX13_scriptHere_23 ⟨rfl, _, rfl, by first | rfl | assumption | exact nar_b01 (by assumption)⟩ ?_
    exact hq
  have w1 : ¬ isW b (tS b n e) (tE b n e) (tK b n e) 39 = true := by rw [isW_e (v := 39) (v' := vWd 1) (vW9_e 1 (by decide))]; exact y1
  rw [if_neg y1] at hq
  rw [vbF] at hq
  by_cases y2 : isW b (tS b n e) (tE b n e) (tK b n e) (vWd 2) = true
  case pos =>
    have w2 : isW b (tS b n e) (tE b n e) (tK b n e) 40 = true := by rw [isW_e (v := 40) (v' := vWd 2) (vW9_e 2 (by decide))]; exact y2
    rw [if_pos y2] at hq
    refine R.aload_n dX13_scriptHere_0 rfl (by first | rfl | exact rfv_rf _) ?_
    refine R.ldcwS (i := 38) rfl dX13_scriptHere_1 ?_
    refine cl_X13_254 rfl rfl (by first | exact Nat.le_of_ble_eq_true rfl | simp [rf_cat, Value.category]) dX13_scriptHere_4 ?_
    refine p_isW (v := 38) h (by decide) ?_
    rw [if_neg w0]
    refine R.if_eq (tgt := 12) dX13_scriptHere_7 (by decide) (fun _ => ?_) (fun c9 => absurd (rfl) c9)
    refine R.aload_n dX13_scriptHere_12 rfl (by first | rfl | exact rfv_rf _) ?_
    refine R.ldcwS (i := 39) rfl dX13_scriptHere_13 ?_
    refine cl_X13_254 rfl rfl (by first | exact Nat.le_of_ble_eq_true rfl | simp [rf_cat, Value.category]) dX13_scriptHere_16 ?_
    refine p_isW (v := 39) h (by decide) ?_
    rw [if_neg w1]
    refine R.if_eq (tgt := 24) dX13_scriptHere_19 (by decide) (fun _ => ?_) (fun c9 => absurd (rfl) c9)
    refine R.aload_n dX13_scriptHere_24 rfl (by first | rfl | exact rfv_rf _) ?_
    refine R.ldcwS (i := 40) rfl dX13_scriptHere_25 ?_
    refine cl_X13_254 rfl rfl (by first | exact Nat.le_of_ble_eq_true rfl | simp [rf_cat, Value.category]) dX13_scriptHere_28 ?_
    refine p_isW (v := 40) h (by decide) ?_
    rw [if_pos w2]
    refine R.if_eq (tgt := 36) dX13_scriptHere_31 (by decide) (fun c9 => absurd c9 (by decide)) (fun _ => ?_)
    refine R.iconst (v := 3) dX13_scriptHere_34 rfl ?_
    refine WP.ret (ov := some (.int _)) dX13_scriptHere_35 ⟨rfl, _, rfl, by first | rfl | assumption | exact nar_b01 (by assumption)⟩ ?_
    exact hq
  have w2 : ¬ isW b (tS b n e) (tE b n e) (tK b n e) 40 = true := by rw [isW_e (v := 40) (v' := vWd 2) (vW9_e 2 (by decide))]; exact y2
  rw [if_neg y2] at hq
  rw [vbF] at hq
  by_cases y3 : isW b (tS b n e) (tE b n e) (tK b n e) (vWd 3) = true
  case pos =>
    have w3 : isW b (tS b n e) (tE b n e) (tK b n e) 41 = true := by rw [isW_e (v := 41) (v' := vWd 3) (vW9_e 3 (by decide))]; exact y3
    rw [if_pos y3] at hq
    refine R.aload_n dX13_scriptHere_0 rfl (by first | rfl | exact rfv_rf _) ?_
    refine R.ldcwS (i := 38) rfl dX13_scriptHere_1 ?_
    refine cl_X13_254 rfl rfl (by first | exact Nat.le_of_ble_eq_true rfl | simp [rf_cat, Value.category]) dX13_scriptHere_4 ?_
    refine p_isW (v := 38) h (by decide) ?_
    rw [if_neg w0]
    refine R.if_eq (tgt := 12) dX13_scriptHere_7 (by decide) (fun _ => ?_) (fun c9 => absurd (rfl) c9)
    refine R.aload_n dX13_scriptHere_12 rfl (by first | rfl | exact rfv_rf _) ?_
    refine R.ldcwS (i := 39) rfl dX13_scriptHere_13 ?_
    refine cl_X13_254 rfl rfl (by first | exact Nat.le_of_ble_eq_true rfl | simp [rf_cat, Value.category]) dX13_scriptHere_16 ?_
    refine p_isW (v := 39) h (by decide) ?_
    rw [if_neg w1]
    refine R.if_eq (tgt := 24) dX13_scriptHere_19 (by decide) (fun _ => ?_) (fun c9 => absurd (rfl) c9)
    refine R.aload_n dX13_scriptHere_24 rfl (by first | rfl | exact rfv_rf _) ?_
    refine R.ldcwS (i := 40) rfl dX13_scriptHere_25 ?_
    refine cl_X13_254 rfl rfl (by first | exact Nat.le_of_ble_eq_true rfl | simp [rf_cat, Value.category]) dX13_scriptHere_28 ?_
    refine p_isW (v := 40) h (by decide) ?_
    rw [if_neg w2]
    refine R.if_eq (tgt := 36) dX13_scriptHere_31 (by decide) (fun _ => ?_) (fun c9 => absurd (rfl) c9)
    refine R.aload_n dX13_scriptHere_36 rfl (by first | rfl | exact rfv_rf _) ?_
    refine R.ldcwS (i := 41) rfl dX13_scriptHere_37 ?_
    refine cl_X13_254 rfl rfl (by first | exact Nat.le_of_ble_eq_true rfl | simp [rf_cat, Value.category]) dX13_scriptHere_40 ?_
    refine p_isW (v := 41) h (by decide) ?_
    rw [if_pos w3]
    refine R.if_eq (tgt := 48) dX13_scriptHere_43 (by decide) (fun c9 => absurd c9 (by decide)) (fun _ => ?_)
    refine R.iconst (v := 4) dX13_scriptHere_46 rfl ?_
    refine WP.ret (ov := some (.int _)) dX13_scriptHere_47 ⟨rfl, _, rfl, by first | rfl | assumption | exact nar_b01 (by assumption)⟩ ?_
    exact hq
  have w3 : ¬ isW b (tS b n e) (tE b n e) (tK b n e) 41 = true := by rw [isW_e (v := 41) (v' := vWd 3) (vW9_e 3 (by decide))]; exact y3
  rw [if_neg y3] at hq
  rw [vbF] at hq
  by_cases y4 : isW b (tS b n e) (tE b n e) (tK b n e) (vWd 4) = true
  case pos =>
    have w4 : isW b (tS b n e) (tE b n e) (tK b n e) 42 = true := by rw [isW_e (v := 42) (v' := vWd 4) (vW9_e 4 (by decide))]; exact y4
    rw [if_pos y4] at hq
    refine R.aload_n dX13_scriptHere_0 rfl (by first | rfl | exact rfv_rf _) ?_
    refine R.ldcwS (i := 38) rfl dX13_scriptHere_1 ?_
    refine cl_X13_254 rfl rfl (by first | exact Nat.le_of_ble_eq_true rfl | simp [rf_cat, Value.category]) dX13_scriptHere_4 ?_
    refine p_isW (v := 38) h (by decide) ?_
    rw [if_neg w0]
    refine R.if_eq (tgt := 12) dX13_scriptHere_7 (by decide) (fun _ => ?_) (fun c9 => absurd (rfl) c9)
    refine R.aload_n dX13_scriptHere_12 rfl (by first | rfl | exact rfv_rf _) ?_
    refine R.ldcwS (i := 39) rfl dX13_scriptHere_13 ?_
    refine cl_X13_254 rfl rfl (by first | exact Nat.le_of_ble_eq_true rfl | simp [rf_cat, Value.category]) dX13_scriptHere_16 ?_
    refine p_isW (v := 39) h (by decide) ?_
    rw [if_neg w1]
    refine R.if_eq (tgt := 24) dX13_scriptHere_19 (by decide) (fun _ => ?_) (fun c9 => absurd (rfl) c9)
    refine R.aload_n dX13_scriptHere_24 rfl (by first | rfl | exact rfv_rf _) ?_
    refine R.ldcwS (i := 40) rfl dX13_scriptHere_25 ?_
    refine cl_X13_254 rfl rfl (by first | exact Nat.le_of_ble_eq_true rfl | simp [rf_cat, Value.category]) dX13_scriptHere_28 ?_
    refine p_isW (v := 40) h (by decide) ?_
    rw [if_neg w2]
    refine R.if_eq (tgt := 36) dX13_scriptHere_31 (by decide) (fun _ => ?_) (fun c9 => absurd (rfl) c9)
    refine R.aload_n dX13_scriptHere_36 rfl (by first | rfl | exact rfv_rf _) ?_
    refine R.ldcwS (i := 41) rfl dX13_scriptHere_37 ?_
    refine cl_X13_254 rfl rfl (by first | exact Nat.le_of_ble_eq_true rfl | simp [rf_cat, Value.category]) dX13_scriptHere_40 ?_
    refine p_isW (v := 41) h (by decide) ?_
    rw [if_neg w3]
    refine R.if_eq (tgt := 48) dX13_scriptHere_43 (by decide) (fun _ => ?_) (fun c9 => absurd (rfl) c9)
    refine R.aload_n dX13_scriptHere_48 rfl (by first | rfl | exact rfv_rf _) ?_
    refine R.ldcwS (i := 42) rfl dX13_scriptHere_49 ?_
    refine cl_X13_254 rfl rfl (by first | exact Nat.le_of_ble_eq_true rfl | simp [rf_cat, Value.category]) dX13_scriptHere_52 ?_
    refine p_isW (v := 42) h (by decide) ?_
    rw [if_pos w4]
    refine R.if_eq (tgt := 60) dX13_scriptHere_55 (by decide) (fun c9 => absurd c9 (by decide)) (fun _ => ?_)
    refine R.iconst (v := 5) dX13_scriptHere_58 rfl ?_
    refine WP.ret (ov := some (.int _)) dX13_scriptHere_59 ⟨rfl, _, rfl, by first | rfl | assumption | exact nar_b01 (by assumption)⟩ ?_
    exact hq
  have w4 : ¬ isW b (tS b n e) (tE b n e) (tK b n e) 42 = true := by rw [isW_e (v := 42) (v' := vWd 4) (vW9_e 4 (by decide))]; exact y4
  rw [if_neg y4] at hq
  rw [vbF] at hq
  by_cases y5 : isW b (tS b n e) (tE b n e) (tK b n e) (vWd 5) = true
  case pos =>
    have w5 : isW b (tS b n e) (tE b n e) (tK b n e) 43 = true := by rw [isW_e (v := 43) (v' := vWd 5) (vW9_e 5 (by decide))]; exact y5
    rw [if_pos y5] at hq
    refine R.aload_n dX13_scriptHere_0 rfl (by first | rfl | exact rfv_rf _) ?_
    refine R.ldcwS (i := 38) rfl dX13_scriptHere_1 ?_
    refine cl_X13_254 rfl rfl (by first | exact Nat.le_of_ble_eq_true rfl | simp [rf_cat, Value.category]) dX13_scriptHere_4 ?_
    refine p_isW (v := 38) h (by decide) ?_
    rw [if_neg w0]
    refine R.if_eq (tgt := 12) dX13_scriptHere_7 (by decide) (fun _ => ?_) (fun c9 => absurd (rfl) c9)
    refine R.aload_n dX13_scriptHere_12 rfl (by first | rfl | exact rfv_rf _) ?_
    refine R.ldcwS (i := 39) rfl dX13_scriptHere_13 ?_
    refine cl_X13_254 rfl rfl (by first | exact Nat.le_of_ble_eq_true rfl | simp [rf_cat, Value.category]) dX13_scriptHere_16 ?_
    refine p_isW (v := 39) h (by decide) ?_
    rw [if_neg w1]
    refine R.if_eq (tgt := 24) dX13_scriptHere_19 (by decide) (fun _ => ?_) (fun c9 => absurd (rfl) c9)
    refine R.aload_n dX13_scriptHere_24 rfl (by first | rfl | exact rfv_rf _) ?_
    refine R.ldcwS (i := 40) rfl dX13_scriptHere_25 ?_
    refine cl_X13_254 rfl rfl (by first | exact Nat.le_of_ble_eq_true rfl | simp [rf_cat, Value.category]) dX13_scriptHere_28 ?_
    refine p_isW (v := 40) h (by decide) ?_
    rw [if_neg w2]
    refine R.if_eq (tgt := 36) dX13_scriptHere_31 (by decide) (fun _ => ?_) (fun c9 => absurd (rfl) c9)
    refine R.aload_n dX13_scriptHere_36 rfl (by first | rfl | exact rfv_rf _) ?_
    refine R.ldcwS (i := 41) rfl dX13_scriptHere_37 ?_
    refine cl_X13_254 rfl rfl (by first | exact Nat.le_of_ble_eq_true rfl | simp [rf_cat, Value.category]) dX13_scriptHere_40 ?_
    refine p_isW (v := 41) h (by decide) ?_
    rw [if_neg w3]
    refine R.if_eq (tgt := 48) dX13_scriptHere_43 (by decide) (fun _ => ?_) (fun c9 => absurd (rfl) c9)
    refine R.aload_n dX13_scriptHere_48 rfl (by first | rfl | exact rfv_rf _) ?_
    refine R.ldcwS (i := 42) rfl dX13_scriptHere_49 ?_
    refine cl_X13_254 rfl rfl (by first | exact Nat.le_of_ble_eq_true rfl | simp [rf_cat, Value.category]) dX13_scriptHere_52 ?_
    refine p_isW (v := 42) h (by decide) ?_
    rw [if_neg w4]
    refine R.if_eq (tgt := 60) dX13_scriptHere_55 (by decide) (fun _ => ?_) (fun c9 => absurd (rfl) c9)
    refine R.aload_n dX13_scriptHere_60 rfl (by first | rfl | exact rfv_rf _) ?_
    refine R.ldcwS (i := 43) rfl dX13_scriptHere_61 ?_
    refine cl_X13_254 rfl rfl (by first | exact Nat.le_of_ble_eq_true rfl | simp [rf_cat, Value.category]) dX13_scriptHere_64 ?_
    refine p_isW (v := 43) h (by decide) ?_
    rw [if_pos w5]
    refine R.if_eq (tgt := 73) dX13_scriptHere_67 (by decide) (fun c9 => absurd c9 (by decide)) (fun _ => ?_)
    refine R.bipush (v := 6) dX13_scriptHere_70 (by decide) ?_
    refine WP.ret (ov := some (.int _)) dX13_scriptHere_72 ⟨rfl, _, rfl, by first | rfl | assumption | exact nar_b01 (by assumption)⟩ ?_
    exact hq
  have w5 : ¬ isW b (tS b n e) (tE b n e) (tK b n e) 43 = true := by rw [isW_e (v := 43) (v' := vWd 5) (vW9_e 5 (by decide))]; exact y5
  rw [if_neg y5] at hq
  rw [vbF] at hq
  by_cases y6 : isW b (tS b n e) (tE b n e) (tK b n e) (vWd 6) = true
  case pos =>
    have w6 : isW b (tS b n e) (tE b n e) (tK b n e) 44 = true := by rw [isW_e (v := 44) (v' := vWd 6) (vW9_e 6 (by decide))]; exact y6
    rw [if_pos y6] at hq
    refine R.aload_n dX13_scriptHere_0 rfl (by first | rfl | exact rfv_rf _) ?_
    refine R.ldcwS (i := 38) rfl dX13_scriptHere_1 ?_
    refine cl_X13_254 rfl rfl (by first | exact Nat.le_of_ble_eq_true rfl | simp [rf_cat, Value.category]) dX13_scriptHere_4 ?_
    refine p_isW (v := 38) h (by decide) ?_
    rw [if_neg w0]
    refine R.if_eq (tgt := 12) dX13_scriptHere_7 (by decide) (fun _ => ?_) (fun c9 => absurd (rfl) c9)
    refine R.aload_n dX13_scriptHere_12 rfl (by first | rfl | exact rfv_rf _) ?_
    refine R.ldcwS (i := 39) rfl dX13_scriptHere_13 ?_
    refine cl_X13_254 rfl rfl (by first | exact Nat.le_of_ble_eq_true rfl | simp [rf_cat, Value.category]) dX13_scriptHere_16 ?_
    refine p_isW (v := 39) h (by decide) ?_
    rw [if_neg w1]
    refine R.if_eq (tgt := 24) dX13_scriptHere_19 (by decide) (fun _ => ?_) (fun c9 => absurd (rfl) c9)
    refine R.aload_n dX13_scriptHere_24 rfl (by first | rfl | exact rfv_rf _) ?_
    refine R.ldcwS (i := 40) rfl dX13_scriptHere_25 ?_
    refine cl_X13_254 rfl rfl (by first | exact Nat.le_of_ble_eq_true rfl | simp [rf_cat, Value.category]) dX13_scriptHere_28 ?_
    refine p_isW (v := 40) h (by decide) ?_
    rw [if_neg w2]
    refine R.if_eq (tgt := 36) dX13_scriptHere_31 (by decide) (fun _ => ?_) (fun c9 => absurd (rfl) c9)
    refine R.aload_n dX13_scriptHere_36 rfl (by first | rfl | exact rfv_rf _) ?_
    refine R.ldcwS (i := 41) rfl dX13_scriptHere_37 ?_
    refine cl_X13_254 rfl rfl (by first | exact Nat.le_of_ble_eq_true rfl | simp [rf_cat, Value.category]) dX13_scriptHere_40 ?_
    refine p_isW (v := 41) h (by decide) ?_
    rw [if_neg w3]
    refine R.if_eq (tgt := 48) dX13_scriptHere_43 (by decide) (fun _ => ?_) (fun c9 => absurd (rfl) c9)
    refine R.aload_n dX13_scriptHere_48 rfl (by first | rfl | exact rfv_rf _) ?_
    refine R.ldcwS (i := 42) rfl dX13_scriptHere_49 ?_
    refine cl_X13_254 rfl rfl (by first | exact Nat.le_of_ble_eq_true rfl | simp [rf_cat, Value.category]) dX13_scriptHere_52 ?_
    refine p_isW (v := 42) h (by decide) ?_
    rw [if_neg w4]
    refine R.if_eq (tgt := 60) dX13_scriptHere_55 (by decide) (fun _ => ?_) (fun c9 => absurd (rfl) c9)
    refine R.aload_n dX13_scriptHere_60 rfl (by first | rfl | exact rfv_rf _) ?_
    refine R.ldcwS (i := 43) rfl dX13_scriptHere_61 ?_
    refine cl_X13_254 rfl rfl (by first | exact Nat.le_of_ble_eq_true rfl | simp [rf_cat, Value.category]) dX13_scriptHere_64 ?_
    refine p_isW (v := 43) h (by decide) ?_
    rw [if_neg w5]
    refine R.if_eq (tgt := 73) dX13_scriptHere_67 (by decide) (fun _ => ?_) (fun c9 => absurd (rfl) c9)
    refine R.aload_n dX13_scriptHere_73 rfl (by first | rfl | exact rfv_rf _) ?_
    refine R.ldcwS (i := 44) rfl dX13_scriptHere_74 ?_
    refine cl_X13_254 rfl rfl (by first | exact Nat.le_of_ble_eq_true rfl | simp [rf_cat, Value.category]) dX13_scriptHere_77 ?_
    refine p_isW (v := 44) h (by decide) ?_
    rw [if_pos w6]
    refine R.if_eq (tgt := 86) dX13_scriptHere_80 (by decide) (fun c9 => absurd c9 (by decide)) (fun _ => ?_)
    refine R.bipush (v := 7) dX13_scriptHere_83 (by decide) ?_
    refine WP.ret (ov := some (.int _)) dX13_scriptHere_85 ⟨rfl, _, rfl, by first | rfl | assumption | exact nar_b01 (by assumption)⟩ ?_
    exact hq
  have w6 : ¬ isW b (tS b n e) (tE b n e) (tK b n e) 44 = true := by rw [isW_e (v := 44) (v' := vWd 6) (vW9_e 6 (by decide))]; exact y6
  rw [if_neg y6] at hq
  rw [vbF] at hq
  by_cases y7 : isW b (tS b n e) (tE b n e) (tK b n e) (vWd 7) = true
  case pos =>
    have w7 : isW b (tS b n e) (tE b n e) (tK b n e) 33 = true := by rw [isW_e (v := 33) (v' := vWd 7) (vW9_e 7 (by decide))]; exact y7
    rw [if_pos y7] at hq
    refine R.aload_n dX13_scriptHere_0 rfl (by first | rfl | exact rfv_rf _) ?_
    refine R.ldcwS (i := 38) rfl dX13_scriptHere_1 ?_
    refine cl_X13_254 rfl rfl (by first | exact Nat.le_of_ble_eq_true rfl | simp [rf_cat, Value.category]) dX13_scriptHere_4 ?_
    refine p_isW (v := 38) h (by decide) ?_
    rw [if_neg w0]
    refine R.if_eq (tgt := 12) dX13_scriptHere_7 (by decide) (fun _ => ?_) (fun c9 => absurd (rfl) c9)
    refine R.aload_n dX13_scriptHere_12 rfl (by first | rfl | exact rfv_rf _) ?_
    refine R.ldcwS (i := 39) rfl dX13_scriptHere_13 ?_
    refine cl_X13_254 rfl rfl (by first | exact Nat.le_of_ble_eq_true rfl | simp [rf_cat, Value.category]) dX13_scriptHere_16 ?_
    refine p_isW (v := 39) h (by decide) ?_
    rw [if_neg w1]
    refine R.if_eq (tgt := 24) dX13_scriptHere_19 (by decide) (fun _ => ?_) (fun c9 => absurd (rfl) c9)
    refine R.aload_n dX13_scriptHere_24 rfl (by first | rfl | exact rfv_rf _) ?_
    refine R.ldcwS (i := 40) rfl dX13_scriptHere_25 ?_
    refine cl_X13_254 rfl rfl (by first | exact Nat.le_of_ble_eq_true rfl | simp [rf_cat, Value.category]) dX13_scriptHere_28 ?_
    refine p_isW (v := 40) h (by decide) ?_
    rw [if_neg w2]
    refine R.if_eq (tgt := 36) dX13_scriptHere_31 (by decide) (fun _ => ?_) (fun c9 => absurd (rfl) c9)
    refine R.aload_n dX13_scriptHere_36 rfl (by first | rfl | exact rfv_rf _) ?_
    refine R.ldcwS (i := 41) rfl dX13_scriptHere_37 ?_
    refine cl_X13_254 rfl rfl (by first | exact Nat.le_of_ble_eq_true rfl | simp [rf_cat, Value.category]) dX13_scriptHere_40 ?_
    refine p_isW (v := 41) h (by decide) ?_
    rw [if_neg w3]
    refine R.if_eq (tgt := 48) dX13_scriptHere_43 (by decide) (fun _ => ?_) (fun c9 => absurd (rfl) c9)
    refine R.aload_n dX13_scriptHere_48 rfl (by first | rfl | exact rfv_rf _) ?_
    refine R.ldcwS (i := 42) rfl dX13_scriptHere_49 ?_
    refine cl_X13_254 rfl rfl (by first | exact Nat.le_of_ble_eq_true rfl | simp [rf_cat, Value.category]) dX13_scriptHere_52 ?_
    refine p_isW (v := 42) h (by decide) ?_
    rw [if_neg w4]
    refine R.if_eq (tgt := 60) dX13_scriptHere_55 (by decide) (fun _ => ?_) (fun c9 => absurd (rfl) c9)
    refine R.aload_n dX13_scriptHere_60 rfl (by first | rfl | exact rfv_rf _) ?_
    refine R.ldcwS (i := 43) rfl dX13_scriptHere_61 ?_
    refine cl_X13_254 rfl rfl (by first | exact Nat.le_of_ble_eq_true rfl | simp [rf_cat, Value.category]) dX13_scriptHere_64 ?_
    refine p_isW (v := 43) h (by decide) ?_
    rw [if_neg w5]
    refine R.if_eq (tgt := 73) dX13_scriptHere_67 (by decide) (fun _ => ?_) (fun c9 => absurd (rfl) c9)
    refine R.aload_n dX13_scriptHere_73 rfl (by first | rfl | exact rfv_rf _) ?_
    refine R.ldcwS (i := 44) rfl dX13_scriptHere_74 ?_
    refine cl_X13_254 rfl rfl (by first | exact Nat.le_of_ble_eq_true rfl | simp [rf_cat, Value.category]) dX13_scriptHere_77 ?_
    refine p_isW (v := 44) h (by decide) ?_
    rw [if_neg w6]
    refine R.if_eq (tgt := 86) dX13_scriptHere_80 (by decide) (fun _ => ?_) (fun c9 => absurd (rfl) c9)
    refine R.aload_n dX13_scriptHere_86 rfl (by first | rfl | exact rfv_rf _) ?_
    refine R.ldcwS (i := 33) rfl dX13_scriptHere_87 ?_
    refine cl_X13_254 rfl rfl (by first | exact Nat.le_of_ble_eq_true rfl | simp [rf_cat, Value.category]) dX13_scriptHere_90 ?_
    refine p_isW (v := 33) h (by decide) ?_
    rw [if_pos w7]
    refine R.if_eq (tgt := 99) dX13_scriptHere_93 (by decide) (fun c9 => absurd c9 (by decide)) (fun _ => ?_)
    refine R.bipush (v := 8) dX13_scriptHere_96 (by decide) ?_
    refine WP.ret (ov := some (.int _)) dX13_scriptHere_98 ⟨rfl, _, rfl, by first | rfl | assumption | exact nar_b01 (by assumption)⟩ ?_
    exact hq
  have w7 : ¬ isW b (tS b n e) (tE b n e) (tK b n e) 33 = true := by rw [isW_e (v := 33) (v' := vWd 7) (vW9_e 7 (by decide))]; exact y7
  rw [if_neg y7] at hq
  rw [vbF] at hq
  by_cases y8 : isW b (tS b n e) (tE b n e) (tK b n e) (vWd 8) = true
  case pos =>
    have w8 : isW b (tS b n e) (tE b n e) (tK b n e) 35 = true := by rw [isW_e (v := 35) (v' := vWd 8) (vW9_e 8 (by decide))]; exact y8
    rw [if_pos y8] at hq
    refine R.aload_n dX13_scriptHere_0 rfl (by first | rfl | exact rfv_rf _) ?_
    refine R.ldcwS (i := 38) rfl dX13_scriptHere_1 ?_
    refine cl_X13_254 rfl rfl (by first | exact Nat.le_of_ble_eq_true rfl | simp [rf_cat, Value.category]) dX13_scriptHere_4 ?_
    refine p_isW (v := 38) h (by decide) ?_
    rw [if_neg w0]
    refine R.if_eq (tgt := 12) dX13_scriptHere_7 (by decide) (fun _ => ?_) (fun c9 => absurd (rfl) c9)
    refine R.aload_n dX13_scriptHere_12 rfl (by first | rfl | exact rfv_rf _) ?_
    refine R.ldcwS (i := 39) rfl dX13_scriptHere_13 ?_
    refine cl_X13_254 rfl rfl (by first | exact Nat.le_of_ble_eq_true rfl | simp [rf_cat, Value.category]) dX13_scriptHere_16 ?_
    refine p_isW (v := 39) h (by decide) ?_
    rw [if_neg w1]
    refine R.if_eq (tgt := 24) dX13_scriptHere_19 (by decide) (fun _ => ?_) (fun c9 => absurd (rfl) c9)
    refine R.aload_n dX13_scriptHere_24 rfl (by first | rfl | exact rfv_rf _) ?_
    refine R.ldcwS (i := 40) rfl dX13_scriptHere_25 ?_
    refine cl_X13_254 rfl rfl (by first | exact Nat.le_of_ble_eq_true rfl | simp [rf_cat, Value.category]) dX13_scriptHere_28 ?_
    refine p_isW (v := 40) h (by decide) ?_
    rw [if_neg w2]
    refine R.if_eq (tgt := 36) dX13_scriptHere_31 (by decide) (fun _ => ?_) (fun c9 => absurd (rfl) c9)
    refine R.aload_n dX13_scriptHere_36 rfl (by first | rfl | exact rfv_rf _) ?_
    refine R.ldcwS (i := 41) rfl dX13_scriptHere_37 ?_
    refine cl_X13_254 rfl rfl (by first | exact Nat.le_of_ble_eq_true rfl | simp [rf_cat, Value.category]) dX13_scriptHere_40 ?_
    refine p_isW (v := 41) h (by decide) ?_
    rw [if_neg w3]
    refine R.if_eq (tgt := 48) dX13_scriptHere_43 (by decide) (fun _ => ?_) (fun c9 => absurd (rfl) c9)
    refine R.aload_n dX13_scriptHere_48 rfl (by first | rfl | exact rfv_rf _) ?_
    refine R.ldcwS (i := 42) rfl dX13_scriptHere_49 ?_
    refine cl_X13_254 rfl rfl (by first | exact Nat.le_of_ble_eq_true rfl | simp [rf_cat, Value.category]) dX13_scriptHere_52 ?_
    refine p_isW (v := 42) h (by decide) ?_
    rw [if_neg w4]
    refine R.if_eq (tgt := 60) dX13_scriptHere_55 (by decide) (fun _ => ?_) (fun c9 => absurd (rfl) c9)
    refine R.aload_n dX13_scriptHere_60 rfl (by first | rfl | exact rfv_rf _) ?_
    refine R.ldcwS (i := 43) rfl dX13_scriptHere_61 ?_
    refine cl_X13_254 rfl rfl (by first | exact Nat.le_of_ble_eq_true rfl | simp [rf_cat, Value.category]) dX13_scriptHere_64 ?_
    refine p_isW (v := 43) h (by decide) ?_
    rw [if_neg w5]
    refine R.if_eq (tgt := 73) dX13_scriptHere_67 (by decide) (fun _ => ?_) (fun c9 => absurd (rfl) c9)
    refine R.aload_n dX13_scriptHere_73 rfl (by first | rfl | exact rfv_rf _) ?_
    refine R.ldcwS (i := 44) rfl dX13_scriptHere_74 ?_
    refine cl_X13_254 rfl rfl (by first | exact Nat.le_of_ble_eq_true rfl | simp [rf_cat, Value.category]) dX13_scriptHere_77 ?_
    refine p_isW (v := 44) h (by decide) ?_
    rw [if_neg w6]
    refine R.if_eq (tgt := 86) dX13_scriptHere_80 (by decide) (fun _ => ?_) (fun c9 => absurd (rfl) c9)
    refine R.aload_n dX13_scriptHere_86 rfl (by first | rfl | exact rfv_rf _) ?_
    refine R.ldcwS (i := 33) rfl dX13_scriptHere_87 ?_
    refine cl_X13_254 rfl rfl (by first | exact Nat.le_of_ble_eq_true rfl | simp [rf_cat, Value.category]) dX13_scriptHere_90 ?_
    refine p_isW (v := 33) h (by decide) ?_
    rw [if_neg w7]
    refine R.if_eq (tgt := 99) dX13_scriptHere_93 (by decide) (fun _ => ?_) (fun c9 => absurd (rfl) c9)
    refine R.aload_n dX13_scriptHere_99 rfl (by first | rfl | exact rfv_rf _) ?_
    refine R.ldcwS (i := 35) rfl dX13_scriptHere_100 ?_
    refine cl_X13_254 rfl rfl (by first | exact Nat.le_of_ble_eq_true rfl | simp [rf_cat, Value.category]) dX13_scriptHere_103 ?_
    refine p_isW (v := 35) h (by decide) ?_
    rw [if_pos w8]
    refine R.if_eq (tgt := 114) dX13_scriptHere_106 (by decide) (fun c9 => absurd c9 (by decide)) (fun _ => ?_)
    refine R.bipush (v := 9) dX13_scriptHere_109 (by decide) ?_
    refine R.goto (tgt := 115) dX13_scriptHere_111 (by decide) ?_
    refine WP.ret (ov := some (.int _)) dX13_scriptHere_115 ⟨rfl, _, rfl, by first | rfl | assumption | exact nar_b01 (by assumption)⟩ ?_
    exact hq
  have w8 : ¬ isW b (tS b n e) (tE b n e) (tK b n e) 35 = true := by rw [isW_e (v := 35) (v' := vWd 8) (vW9_e 8 (by decide))]; exact y8
  rw [if_neg y8] at hq
  refine R.aload_n dX13_scriptHere_0 rfl (by first | rfl | exact rfv_rf _) ?_
  refine R.ldcwS (i := 38) rfl dX13_scriptHere_1 ?_
  refine cl_X13_254 rfl rfl (by first | exact Nat.le_of_ble_eq_true rfl | simp [rf_cat, Value.category]) dX13_scriptHere_4 ?_
  refine p_isW (v := 38) h (by decide) ?_
  rw [if_neg w0]
  refine R.if_eq (tgt := 12) dX13_scriptHere_7 (by decide) (fun _ => ?_) (fun c9 => absurd (rfl) c9)
  refine R.aload_n dX13_scriptHere_12 rfl (by first | rfl | exact rfv_rf _) ?_
  refine R.ldcwS (i := 39) rfl dX13_scriptHere_13 ?_
  refine cl_X13_254 rfl rfl (by first | exact Nat.le_of_ble_eq_true rfl | simp [rf_cat, Value.category]) dX13_scriptHere_16 ?_
  refine p_isW (v := 39) h (by decide) ?_
  rw [if_neg w1]
  refine R.if_eq (tgt := 24) dX13_scriptHere_19 (by decide) (fun _ => ?_) (fun c9 => absurd (rfl) c9)
  refine R.aload_n dX13_scriptHere_24 rfl (by first | rfl | exact rfv_rf _) ?_
  refine R.ldcwS (i := 40) rfl dX13_scriptHere_25 ?_
  refine cl_X13_254 rfl rfl (by first | exact Nat.le_of_ble_eq_true rfl | simp [rf_cat, Value.category]) dX13_scriptHere_28 ?_
  refine p_isW (v := 40) h (by decide) ?_
  rw [if_neg w2]
  refine R.if_eq (tgt := 36) dX13_scriptHere_31 (by decide) (fun _ => ?_) (fun c9 => absurd (rfl) c9)
  refine R.aload_n dX13_scriptHere_36 rfl (by first | rfl | exact rfv_rf _) ?_
  refine R.ldcwS (i := 41) rfl dX13_scriptHere_37 ?_
  refine cl_X13_254 rfl rfl (by first | exact Nat.le_of_ble_eq_true rfl | simp [rf_cat, Value.category]) dX13_scriptHere_40 ?_
  refine p_isW (v := 41) h (by decide) ?_
  rw [if_neg w3]
  refine R.if_eq (tgt := 48) dX13_scriptHere_43 (by decide) (fun _ => ?_) (fun c9 => absurd (rfl) c9)
  refine R.aload_n dX13_scriptHere_48 rfl (by first | rfl | exact rfv_rf _) ?_
  refine R.ldcwS (i := 42) rfl dX13_scriptHere_49 ?_
  refine cl_X13_254 rfl rfl (by first | exact Nat.le_of_ble_eq_true rfl | simp [rf_cat, Value.category]) dX13_scriptHere_52 ?_
  refine p_isW (v := 42) h (by decide) ?_
  rw [if_neg w4]
  refine R.if_eq (tgt := 60) dX13_scriptHere_55 (by decide) (fun _ => ?_) (fun c9 => absurd (rfl) c9)
  refine R.aload_n dX13_scriptHere_60 rfl (by first | rfl | exact rfv_rf _) ?_
  refine R.ldcwS (i := 43) rfl dX13_scriptHere_61 ?_
  refine cl_X13_254 rfl rfl (by first | exact Nat.le_of_ble_eq_true rfl | simp [rf_cat, Value.category]) dX13_scriptHere_64 ?_
  refine p_isW (v := 43) h (by decide) ?_
  rw [if_neg w5]
  refine R.if_eq (tgt := 73) dX13_scriptHere_67 (by decide) (fun _ => ?_) (fun c9 => absurd (rfl) c9)
  refine R.aload_n dX13_scriptHere_73 rfl (by first | rfl | exact rfv_rf _) ?_
  refine R.ldcwS (i := 44) rfl dX13_scriptHere_74 ?_
  refine cl_X13_254 rfl rfl (by first | exact Nat.le_of_ble_eq_true rfl | simp [rf_cat, Value.category]) dX13_scriptHere_77 ?_
  refine p_isW (v := 44) h (by decide) ?_
  rw [if_neg w6]
  refine R.if_eq (tgt := 86) dX13_scriptHere_80 (by decide) (fun _ => ?_) (fun c9 => absurd (rfl) c9)
  refine R.aload_n dX13_scriptHere_86 rfl (by first | rfl | exact rfv_rf _) ?_
  refine R.ldcwS (i := 33) rfl dX13_scriptHere_87 ?_
  refine cl_X13_254 rfl rfl (by first | exact Nat.le_of_ble_eq_true rfl | simp [rf_cat, Value.category]) dX13_scriptHere_90 ?_
  refine p_isW (v := 33) h (by decide) ?_
  rw [if_neg w7]
  refine R.if_eq (tgt := 99) dX13_scriptHere_93 (by decide) (fun _ => ?_) (fun c9 => absurd (rfl) c9)
  refine R.aload_n dX13_scriptHere_99 rfl (by first | rfl | exact rfv_rf _) ?_
  refine R.ldcwS (i := 35) rfl dX13_scriptHere_100 ?_
  refine cl_X13_254 rfl rfl (by first | exact Nat.le_of_ble_eq_true rfl | simp [rf_cat, Value.category]) dX13_scriptHere_103 ?_
  refine p_isW (v := 35) h (by decide) ?_
  rw [if_neg w8]
  refine R.if_eq (tgt := 114) dX13_scriptHere_106 (by decide) (fun _ => ?_) (fun c9 => absurd (rfl) c9)
  refine R.iconst (v := 0) dX13_scriptHere_114 rfl ?_
  refine WP.ret (ov := some (.int _)) dX13_scriptHere_115 ⟨rfl, _, rfl, by first | rfl | assumption | exact nar_b01 (by assumption)⟩ ?_
  exact hq
theorem nc_z {b : Nat → Int32} {n e m w : Nat} {Y : Yd} (hB : CrB Y m w) (h : ncC b n e Y = 0) : nnC b n e = 0 ∧ ∃ j, cnF Y (nmF b (tS b n e) (tE b n e)) 16 0 = some j ∧ j < 16 := by
  unfold ncC at h
  by_cases c : nnC b n e = 0
  · rw [if_pos c] at h
    cases hj : cnF Y (nmF b (tS b n e) (tE b n e)) 16 0 with
    | none => rw [hj] at h; exact absurd h (by decide)
    | some j => exact ⟨c, j, rfl, cnF_lt 16 0 (by omega) hj⟩
  · rw [if_neg c] at h; exact absurd h c
theorem ny_z {b : Nat → Int32} {n e m w : Nat} {Y : Yd} (hB : CrB Y m w) (h : nyC b n e Y = 0) : nnC b n e = 0 ∧ ∃ j, bnF Y (nmF b (tS b n e) (tE b n e)) 6 0 = some j ∧ j < 16 := by
  unfold nyC at h
  by_cases c : nnC b n e = 0
  · rw [if_pos c] at h
    cases hj : bnF Y (nmF b (tS b n e) (tE b n e)) 6 0 with
    | none => rw [hj] at h; exact absurd h (by decide)
    | some j =>
      have h1 := bn_lt hB c hj
      have h2 := hB.2.1
      exact ⟨c, j, rfl, by omega⟩
  · rw [if_neg c] at h; exact absurd h c
set_option maxHeartbeats 4000000 in
set_option maxRecDepth 4000 in
theorem p_tr0 {d n e : Nat} {b w N : Nat → Int32} {RR : OR9} {M0 M : Mem} {Q : Out → Mem → Prop} {Y : Yd} {m b9 K : Nat} (h : PQ M0 M b n e w N RR) (hR : RW Y m b9 K w) (hB : CrB Y m b9) (hq : PRQ Q M0 b n w RR 0 (sqP b n (tE b n e) 0 Y)) : WPc (d + 6) mX13_takesRest [.ref (rf 11 0), .int (nI 1)] M Q := by
  refine WPc.of (by decide +kernel) (Nat.le_of_ble_eq_true rfl) rfl ?_
  unfold sqP at hq
  rw [if_pos rfl] at hq
  by_cases c1 : ncC b n (tE b n e) Y = 0
  case neg =>
    rw [qC_no c1] at hq
    refine R.aload_n dX13_takesRest_0 rfl (by first | rfl | exact rfv_rf _) ?_
    refine cl_X13_233 rfl rfl (by first | exact Nat.le_of_ble_eq_true rfl | simp [rf_cat, Value.category]) dX13_takesRest_1 ?_
    refine p_adv h (fun M1 h1 => ?_)
    refine R.iload_n dX13_takesRest_4 rfl ?_
    refine R.tableIn (tgt := 52) dX13_takesRest_5 (by decide) (by decide) rfl (by decide) ?_
    refine R.aload_n dX13_takesRest_52 rfl (by first | rfl | exact rfv_rf _) ?_
    refine R.iconst (v := 0) dX13_takesRest_53 rfl ?_
    refine cl_X13_332 rfl rfl (by first | exact Nat.le_of_ble_eq_true rfl | simp [rf_cat, Value.category]) dX13_takesRest_54 ?_
    refine p_tcN (k := 0) h1 hR hB (by omega) c1 (fun M2 h2 => ?_)
    refine R.if_eq (tgt := 75) dX13_takesRest_57 (by decide) (fun _ => ?_) (fun c9 => absurd (rfl) c9)
    refine R.iconst (v := 0) dX13_takesRest_75 rfl ?_
    refine WP.ret (ov := some (.int _)) dX13_takesRest_76 ⟨rfl, _, rfl, by first | rfl | assumption | exact nar_b01 (by assumption)⟩ ?_
    exact hq M2 h2
  obtain ⟨c0, j, hcj, hj⟩ := nc_z hB c1
  rw [qC_ok c1 hcj] at hq
  unfold qN at hq
  by_cases c2 : nbC b n (tE b n (tE b n e)) 1 50 = 0
  · rw [if_pos c2] at hq
    refine R.aload_n dX13_takesRest_0 rfl (by first | rfl | exact rfv_rf _) ?_
    refine cl_X13_233 rfl rfl (by first | exact Nat.le_of_ble_eq_true rfl | simp [rf_cat, Value.category]) dX13_takesRest_1 ?_
    refine p_adv h (fun M1 h1 => ?_)
    refine R.iload_n dX13_takesRest_4 rfl ?_
    refine R.tableIn (tgt := 52) dX13_takesRest_5 (by decide) (by decide) rfl (by decide) ?_
    refine R.aload_n dX13_takesRest_52 rfl (by first | rfl | exact rfv_rf _) ?_
    refine R.iconst (v := 0) dX13_takesRest_53 rfl ?_
    refine cl_X13_332 rfl rfl (by first | exact Nat.le_of_ble_eq_true rfl | simp [rf_cat, Value.category]) dX13_takesRest_54 ?_
    refine p_tcS (k := 0) h1 hR hB (by omega) c0 hcj (by omega) (fun M2 h2 => ?_)
    refine R.if_eq (tgt := 75) dX13_takesRest_57 (by decide) (fun c9 => absurd c9 (by decide)) (fun _ => ?_)
    refine R.aload_n dX13_takesRest_60 rfl (by first | rfl | exact rfv_rf _) ?_
    refine R.iconst (v := 1) dX13_takesRest_61 rfl ?_
    refine R.iconst (v := 1) dX13_takesRest_62 rfl ?_
    refine R.bipush (v := 50) dX13_takesRest_63 (by decide) ?_
    refine cl_X13_262 rfl rfl (by first | exact Nat.le_of_ble_eq_true rfl | simp [rf_cat, Value.category]) dX13_takesRest_65 ?_
    refine p_tkS (k := 1) h2 (by omega) c2 (fun M3 h3 => ?_)
    refine R.if_eq (tgt := 75) dX13_takesRest_68 (by decide) (fun c9 => absurd c9 (by decide)) (fun _ => ?_)
    refine R.iconst (v := 1) dX13_takesRest_71 rfl ?_
    refine R.goto (tgt := 76) dX13_takesRest_72 (by decide) ?_
    refine WP.ret (ov := some (.int _)) dX13_takesRest_76 ⟨rfl, _, rfl, by first | rfl | assumption | exact nar_b01 (by assumption)⟩ ?_
    exact hq M3 _ h3 ⟨rfl, by simp [nCr], fun _ => rfl, fun _ => rfl, fun q => absurd q (by simp [nCr]), fun q => absurd q (by simp [nCr])⟩
  · rw [if_neg c2] at hq
    refine R.aload_n dX13_takesRest_0 rfl (by first | rfl | exact rfv_rf _) ?_
    refine cl_X13_233 rfl rfl (by first | exact Nat.le_of_ble_eq_true rfl | simp [rf_cat, Value.category]) dX13_takesRest_1 ?_
    refine p_adv h (fun M1 h1 => ?_)
    refine R.iload_n dX13_takesRest_4 rfl ?_
    refine R.tableIn (tgt := 52) dX13_takesRest_5 (by decide) (by decide) rfl (by decide) ?_
    refine R.aload_n dX13_takesRest_52 rfl (by first | rfl | exact rfv_rf _) ?_
    refine R.iconst (v := 0) dX13_takesRest_53 rfl ?_
    refine cl_X13_332 rfl rfl (by first | exact Nat.le_of_ble_eq_true rfl | simp [rf_cat, Value.category]) dX13_takesRest_54 ?_
    refine p_tcS (k := 0) h1 hR hB (by omega) c0 hcj (by omega) (fun M2 h2 => ?_)
    refine R.if_eq (tgt := 75) dX13_takesRest_57 (by decide) (fun c9 => absurd c9 (by decide)) (fun _ => ?_)
    refine R.aload_n dX13_takesRest_60 rfl (by first | rfl | exact rfv_rf _) ?_
    refine R.iconst (v := 1) dX13_takesRest_61 rfl ?_
    refine R.iconst (v := 1) dX13_takesRest_62 rfl ?_
    refine R.bipush (v := 50) dX13_takesRest_63 (by decide) ?_
    refine cl_X13_262 rfl rfl (by first | exact Nat.le_of_ble_eq_true rfl | simp [rf_cat, Value.category]) dX13_takesRest_65 ?_
    refine p_tkN (k := 1) h2 c2 (fun M3 h3 => ?_)
    refine R.if_eq (tgt := 75) dX13_takesRest_68 (by decide) (fun _ => ?_) (fun c9 => absurd (rfl) c9)
    refine R.iconst (v := 0) dX13_takesRest_75 rfl ?_
    refine WP.ret (ov := some (.int _)) dX13_takesRest_76 ⟨rfl, _, rfl, by first | rfl | assumption | exact nar_b01 (by assumption)⟩ ?_
    exact hq M3 h3
set_option maxHeartbeats 4000000 in
set_option maxRecDepth 4000 in
theorem p_tr1 {d n e : Nat} {b w N : Nat → Int32} {RR : OR9} {M0 M : Mem} {Q : Out → Mem → Prop} {Y : Yd} {m b9 K : Nat} (h : PQ M0 M b n e w N RR) (hR : RW Y m b9 K w) (hB : CrB Y m b9) (hq : PRQ Q M0 b n w RR 1 (sqP b n (tE b n e) 1 Y)) : WPc (d + 6) mX13_takesRest [.ref (rf 11 0), .int (nI 2)] M Q := by
  refine WPc.of (by decide +kernel) (Nat.le_of_ble_eq_true rfl) rfl ?_
  unfold sqP at hq
  rw [if_neg (by decide : ¬ (1 : Nat) = 0)] at hq
  rw [if_pos rfl] at hq
  by_cases c1 : ncC b n (tE b n e) Y = 0
  case neg =>
    rw [qC_no c1] at hq
    refine R.aload_n dX13_takesRest_0 rfl (by first | rfl | exact rfv_rf _) ?_
    refine cl_X13_233 rfl rfl (by first | exact Nat.le_of_ble_eq_true rfl | simp [rf_cat, Value.category]) dX13_takesRest_1 ?_
    refine p_adv h (fun M1 h1 => ?_)
    refine R.iload_n dX13_takesRest_4 rfl ?_
    refine R.tableIn (tgt := 77) dX13_takesRest_5 (by decide) (by decide) rfl (by decide) ?_
    refine R.aload_n dX13_takesRest_77 rfl (by first | rfl | exact rfv_rf _) ?_
    refine R.iconst (v := 0) dX13_takesRest_78 rfl ?_
    refine cl_X13_332 rfl rfl (by first | exact Nat.le_of_ble_eq_true rfl | simp [rf_cat, Value.category]) dX13_takesRest_79 ?_
    refine p_tcN (k := 0) h1 hR hB (by omega) c1 (fun M2 h2 => ?_)
    refine R.if_eq (tgt := 101) dX13_takesRest_82 (by decide) (fun _ => ?_) (fun c9 => absurd (rfl) c9)
    refine R.iconst (v := 0) dX13_takesRest_101 rfl ?_
    refine WP.ret (ov := some (.int _)) dX13_takesRest_102 ⟨rfl, _, rfl, by first | rfl | assumption | exact nar_b01 (by assumption)⟩ ?_
    exact hq M2 h2
  obtain ⟨c0, j, hcj, hj⟩ := nc_z hB c1
  rw [qC_ok c1 hcj] at hq
  unfold qN at hq
  by_cases c2 : nbC b n (tE b n (tE b n e)) 1 500 = 0
  · rw [if_pos c2] at hq
    refine R.aload_n dX13_takesRest_0 rfl (by first | rfl | exact rfv_rf _) ?_
    refine cl_X13_233 rfl rfl (by first | exact Nat.le_of_ble_eq_true rfl | simp [rf_cat, Value.category]) dX13_takesRest_1 ?_
    refine p_adv h (fun M1 h1 => ?_)
    refine R.iload_n dX13_takesRest_4 rfl ?_
    refine R.tableIn (tgt := 77) dX13_takesRest_5 (by decide) (by decide) rfl (by decide) ?_
    refine R.aload_n dX13_takesRest_77 rfl (by first | rfl | exact rfv_rf _) ?_
    refine R.iconst (v := 0) dX13_takesRest_78 rfl ?_
    refine cl_X13_332 rfl rfl (by first | exact Nat.le_of_ble_eq_true rfl | simp [rf_cat, Value.category]) dX13_takesRest_79 ?_
    refine p_tcS (k := 0) h1 hR hB (by omega) c0 hcj (by omega) (fun M2 h2 => ?_)
    refine R.if_eq (tgt := 101) dX13_takesRest_82 (by decide) (fun c9 => absurd c9 (by decide)) (fun _ => ?_)
    refine R.aload_n dX13_takesRest_85 rfl (by first | rfl | exact rfv_rf _) ?_
    refine R.iconst (v := 1) dX13_takesRest_86 rfl ?_
    refine R.iconst (v := 1) dX13_takesRest_87 rfl ?_
    refine R.sipush (v := 500) dX13_takesRest_88 (by decide) ?_
    refine cl_X13_262 rfl rfl (by first | exact Nat.le_of_ble_eq_true rfl | simp [rf_cat, Value.category]) dX13_takesRest_91 ?_
    refine p_tkS (k := 1) h2 (by omega) c2 (fun M3 h3 => ?_)
    refine R.if_eq (tgt := 101) dX13_takesRest_94 (by decide) (fun c9 => absurd c9 (by decide)) (fun _ => ?_)
    refine R.iconst (v := 1) dX13_takesRest_97 rfl ?_
    refine R.goto (tgt := 102) dX13_takesRest_98 (by decide) ?_
    refine WP.ret (ov := some (.int _)) dX13_takesRest_102 ⟨rfl, _, rfl, by first | rfl | assumption | exact nar_b01 (by assumption)⟩ ?_
    exact hq M3 _ h3 ⟨rfl, by simp [nCr], fun _ => rfl, fun _ => rfl, fun q => absurd q (by simp [nCr]), fun q => absurd q (by simp [nCr])⟩
  · rw [if_neg c2] at hq
    refine R.aload_n dX13_takesRest_0 rfl (by first | rfl | exact rfv_rf _) ?_
    refine cl_X13_233 rfl rfl (by first | exact Nat.le_of_ble_eq_true rfl | simp [rf_cat, Value.category]) dX13_takesRest_1 ?_
    refine p_adv h (fun M1 h1 => ?_)
    refine R.iload_n dX13_takesRest_4 rfl ?_
    refine R.tableIn (tgt := 77) dX13_takesRest_5 (by decide) (by decide) rfl (by decide) ?_
    refine R.aload_n dX13_takesRest_77 rfl (by first | rfl | exact rfv_rf _) ?_
    refine R.iconst (v := 0) dX13_takesRest_78 rfl ?_
    refine cl_X13_332 rfl rfl (by first | exact Nat.le_of_ble_eq_true rfl | simp [rf_cat, Value.category]) dX13_takesRest_79 ?_
    refine p_tcS (k := 0) h1 hR hB (by omega) c0 hcj (by omega) (fun M2 h2 => ?_)
    refine R.if_eq (tgt := 101) dX13_takesRest_82 (by decide) (fun c9 => absurd c9 (by decide)) (fun _ => ?_)
    refine R.aload_n dX13_takesRest_85 rfl (by first | rfl | exact rfv_rf _) ?_
    refine R.iconst (v := 1) dX13_takesRest_86 rfl ?_
    refine R.iconst (v := 1) dX13_takesRest_87 rfl ?_
    refine R.sipush (v := 500) dX13_takesRest_88 (by decide) ?_
    refine cl_X13_262 rfl rfl (by first | exact Nat.le_of_ble_eq_true rfl | simp [rf_cat, Value.category]) dX13_takesRest_91 ?_
    refine p_tkN (k := 1) h2 c2 (fun M3 h3 => ?_)
    refine R.if_eq (tgt := 101) dX13_takesRest_94 (by decide) (fun _ => ?_) (fun c9 => absurd (rfl) c9)
    refine R.iconst (v := 0) dX13_takesRest_101 rfl ?_
    refine WP.ret (ov := some (.int _)) dX13_takesRest_102 ⟨rfl, _, rfl, by first | rfl | assumption | exact nar_b01 (by assumption)⟩ ?_
    exact hq M3 h3
set_option maxHeartbeats 4000000 in
set_option maxRecDepth 4000 in
theorem p_tr2 {d n e : Nat} {b w N : Nat → Int32} {RR : OR9} {M0 M : Mem} {Q : Out → Mem → Prop} {Y : Yd} {m b9 K : Nat} (h : PQ M0 M b n e w N RR) (hR : RW Y m b9 K w) (hB : CrB Y m b9) (hq : PRQ Q M0 b n w RR 2 (sqP b n (tE b n e) 2 Y)) : WPc (d + 6) mX13_takesRest [.ref (rf 11 0), .int (nI 3)] M Q := by
  refine WPc.of (by decide +kernel) (Nat.le_of_ble_eq_true rfl) rfl ?_
  unfold sqP at hq
  rw [if_neg (by decide : ¬ (2 : Nat) = 0)] at hq
  rw [if_neg (by decide : ¬ (2 : Nat) = 1)] at hq
  rw [if_pos rfl] at hq
  by_cases c1 : ncC b n (tE b n e) Y = 0
  case neg =>
    rw [qC_no c1] at hq
    refine R.aload_n dX13_takesRest_0 rfl (by first | rfl | exact rfv_rf _) ?_
    refine cl_X13_233 rfl rfl (by first | exact Nat.le_of_ble_eq_true rfl | simp [rf_cat, Value.category]) dX13_takesRest_1 ?_
    refine p_adv h (fun M1 h1 => ?_)
    refine R.iload_n dX13_takesRest_4 rfl ?_
    refine R.tableIn (tgt := 77) dX13_takesRest_5 (by decide) (by decide) rfl (by decide) ?_
    refine R.aload_n dX13_takesRest_77 rfl (by first | rfl | exact rfv_rf _) ?_
    refine R.iconst (v := 0) dX13_takesRest_78 rfl ?_
    refine cl_X13_332 rfl rfl (by first | exact Nat.le_of_ble_eq_true rfl | simp [rf_cat, Value.category]) dX13_takesRest_79 ?_
    refine p_tcN (k := 0) h1 hR hB (by omega) c1 (fun M2 h2 => ?_)
    refine R.if_eq (tgt := 101) dX13_takesRest_82 (by decide) (fun _ => ?_) (fun c9 => absurd (rfl) c9)
    refine R.iconst (v := 0) dX13_takesRest_101 rfl ?_
    refine WP.ret (ov := some (.int _)) dX13_takesRest_102 ⟨rfl, _, rfl, by first | rfl | assumption | exact nar_b01 (by assumption)⟩ ?_
    exact hq M2 h2
  obtain ⟨c0, j, hcj, hj⟩ := nc_z hB c1
  rw [qC_ok c1 hcj] at hq
  unfold qN at hq
  by_cases c2 : nbC b n (tE b n (tE b n e)) 1 500 = 0
  · rw [if_pos c2] at hq
    refine R.aload_n dX13_takesRest_0 rfl (by first | rfl | exact rfv_rf _) ?_
    refine cl_X13_233 rfl rfl (by first | exact Nat.le_of_ble_eq_true rfl | simp [rf_cat, Value.category]) dX13_takesRest_1 ?_
    refine p_adv h (fun M1 h1 => ?_)
    refine R.iload_n dX13_takesRest_4 rfl ?_
    refine R.tableIn (tgt := 77) dX13_takesRest_5 (by decide) (by decide) rfl (by decide) ?_
    refine R.aload_n dX13_takesRest_77 rfl (by first | rfl | exact rfv_rf _) ?_
    refine R.iconst (v := 0) dX13_takesRest_78 rfl ?_
    refine cl_X13_332 rfl rfl (by first | exact Nat.le_of_ble_eq_true rfl | simp [rf_cat, Value.category]) dX13_takesRest_79 ?_
    refine p_tcS (k := 0) h1 hR hB (by omega) c0 hcj (by omega) (fun M2 h2 => ?_)
    refine R.if_eq (tgt := 101) dX13_takesRest_82 (by decide) (fun c9 => absurd c9 (by decide)) (fun _ => ?_)
    refine R.aload_n dX13_takesRest_85 rfl (by first | rfl | exact rfv_rf _) ?_
    refine R.iconst (v := 1) dX13_takesRest_86 rfl ?_
    refine R.iconst (v := 1) dX13_takesRest_87 rfl ?_
    refine R.sipush (v := 500) dX13_takesRest_88 (by decide) ?_
    refine cl_X13_262 rfl rfl (by first | exact Nat.le_of_ble_eq_true rfl | simp [rf_cat, Value.category]) dX13_takesRest_91 ?_
    refine p_tkS (k := 1) h2 (by omega) c2 (fun M3 h3 => ?_)
    refine R.if_eq (tgt := 101) dX13_takesRest_94 (by decide) (fun c9 => absurd c9 (by decide)) (fun _ => ?_)
    refine R.iconst (v := 1) dX13_takesRest_97 rfl ?_
    refine R.goto (tgt := 102) dX13_takesRest_98 (by decide) ?_
    refine WP.ret (ov := some (.int _)) dX13_takesRest_102 ⟨rfl, _, rfl, by first | rfl | assumption | exact nar_b01 (by assumption)⟩ ?_
    exact hq M3 _ h3 ⟨rfl, by simp [nCr], fun _ => rfl, fun _ => rfl, fun q => absurd q (by simp [nCr]), fun q => absurd q (by simp [nCr])⟩
  · rw [if_neg c2] at hq
    refine R.aload_n dX13_takesRest_0 rfl (by first | rfl | exact rfv_rf _) ?_
    refine cl_X13_233 rfl rfl (by first | exact Nat.le_of_ble_eq_true rfl | simp [rf_cat, Value.category]) dX13_takesRest_1 ?_
    refine p_adv h (fun M1 h1 => ?_)
    refine R.iload_n dX13_takesRest_4 rfl ?_
    refine R.tableIn (tgt := 77) dX13_takesRest_5 (by decide) (by decide) rfl (by decide) ?_
    refine R.aload_n dX13_takesRest_77 rfl (by first | rfl | exact rfv_rf _) ?_
    refine R.iconst (v := 0) dX13_takesRest_78 rfl ?_
    refine cl_X13_332 rfl rfl (by first | exact Nat.le_of_ble_eq_true rfl | simp [rf_cat, Value.category]) dX13_takesRest_79 ?_
    refine p_tcS (k := 0) h1 hR hB (by omega) c0 hcj (by omega) (fun M2 h2 => ?_)
    refine R.if_eq (tgt := 101) dX13_takesRest_82 (by decide) (fun c9 => absurd c9 (by decide)) (fun _ => ?_)
    refine R.aload_n dX13_takesRest_85 rfl (by first | rfl | exact rfv_rf _) ?_
    refine R.iconst (v := 1) dX13_takesRest_86 rfl ?_
    refine R.iconst (v := 1) dX13_takesRest_87 rfl ?_
    refine R.sipush (v := 500) dX13_takesRest_88 (by decide) ?_
    refine cl_X13_262 rfl rfl (by first | exact Nat.le_of_ble_eq_true rfl | simp [rf_cat, Value.category]) dX13_takesRest_91 ?_
    refine p_tkN (k := 1) h2 c2 (fun M3 h3 => ?_)
    refine R.if_eq (tgt := 101) dX13_takesRest_94 (by decide) (fun _ => ?_) (fun c9 => absurd (rfl) c9)
    refine R.iconst (v := 0) dX13_takesRest_101 rfl ?_
    refine WP.ret (ov := some (.int _)) dX13_takesRest_102 ⟨rfl, _, rfl, by first | rfl | assumption | exact nar_b01 (by assumption)⟩ ?_
    exact hq M3 h3
set_option maxHeartbeats 4000000 in
set_option maxRecDepth 4000 in
theorem p_tr3 {d n e : Nat} {b w N : Nat → Int32} {RR : OR9} {M0 M : Mem} {Q : Out → Mem → Prop} {Y : Yd} {m b9 K : Nat} (h : PQ M0 M b n e w N RR) (hR : RW Y m b9 K w) (hB : CrB Y m b9) (hq : PRQ Q M0 b n w RR 3 (sqP b n (tE b n e) 3 Y)) : WPc (d + 6) mX13_takesRest [.ref (rf 11 0), .int (nI 4)] M Q := by
  refine WPc.of (by decide +kernel) (Nat.le_of_ble_eq_true rfl) rfl ?_
  unfold sqP at hq
  rw [if_neg (by decide : ¬ (3 : Nat) = 0)] at hq
  rw [if_neg (by decide : ¬ (3 : Nat) = 1)] at hq
  rw [if_neg (by decide : ¬ (3 : Nat) = 2)] at hq
  rw [if_pos rfl] at hq
  by_cases c1 : ncC b n (tE b n e) Y = 0
  case neg =>
    rw [qC_no c1] at hq
    refine R.aload_n dX13_takesRest_0 rfl (by first | rfl | exact rfv_rf _) ?_
    refine cl_X13_233 rfl rfl (by first | exact Nat.le_of_ble_eq_true rfl | simp [rf_cat, Value.category]) dX13_takesRest_1 ?_
    refine p_adv h (fun M1 h1 => ?_)
    refine R.iload_n dX13_takesRest_4 rfl ?_
    refine R.tableIn (tgt := 103) dX13_takesRest_5 (by decide) (by decide) rfl (by decide) ?_
    refine R.aload_n dX13_takesRest_103 rfl (by first | rfl | exact rfv_rf _) ?_
    refine R.iconst (v := 0) dX13_takesRest_104 rfl ?_
    refine cl_X13_332 rfl rfl (by first | exact Nat.le_of_ble_eq_true rfl | simp [rf_cat, Value.category]) dX13_takesRest_105 ?_
    refine p_tcN (k := 0) h1 hR hB (by omega) c1 (fun M2 h2 => ?_)
    refine R.if_eq (tgt := 137) dX13_takesRest_108 (by decide) (fun _ => ?_) (fun c9 => absurd (rfl) c9)
    refine R.iconst (v := 0) dX13_takesRest_137 rfl ?_
    refine WP.ret (ov := some (.int _)) dX13_takesRest_138 ⟨rfl, _, rfl, by first | rfl | assumption | exact nar_b01 (by assumption)⟩ ?_
    exact hq M2 h2
  obtain ⟨c0, j, hcj, hj⟩ := nc_z hB c1
  rw [qC_ok c1 hcj] at hq
  unfold qW at hq
  by_cases hw0 : isW b (tS b n (tE b n (tE b n e))) (tE b n (tE b n (tE b n e))) (tK b n (tE b n (tE b n e))) 19 = true
  case neg =>
    have hw : ¬ isW b (tS b n (tE b n (tE b n e))) (tE b n (tE b n (tE b n e))) (tK b n (tE b n (tE b n e))) 45 = true := by rw [isW_e (v := 45) (v' := 19) rfl]; exact hw0
    have e1 : nwC b n (tE b n (tE b n e)) 19 = 1 := by unfold nwC; rw [if_neg hw0]
    rw [e1, if_neg (by decide : ¬ (1 : Int32) = 0)] at hq
    refine R.aload_n dX13_takesRest_0 rfl (by first | rfl | exact rfv_rf _) ?_
    refine cl_X13_233 rfl rfl (by first | exact Nat.le_of_ble_eq_true rfl | simp [rf_cat, Value.category]) dX13_takesRest_1 ?_
    refine p_adv h (fun M1 h1 => ?_)
    refine R.iload_n dX13_takesRest_4 rfl ?_
    refine R.tableIn (tgt := 103) dX13_takesRest_5 (by decide) (by decide) rfl (by decide) ?_
    refine R.aload_n dX13_takesRest_103 rfl (by first | rfl | exact rfv_rf _) ?_
    refine R.iconst (v := 0) dX13_takesRest_104 rfl ?_
    refine cl_X13_332 rfl rfl (by first | exact Nat.le_of_ble_eq_true rfl | simp [rf_cat, Value.category]) dX13_takesRest_105 ?_
    refine p_tcS (k := 0) h1 hR hB (by omega) c0 hcj (by omega) (fun M2 h2 => ?_)
    refine R.if_eq (tgt := 137) dX13_takesRest_108 (by decide) (fun c9 => absurd c9 (by decide)) (fun _ => ?_)
    refine R.aload_n dX13_takesRest_111 rfl (by first | rfl | exact rfv_rf _) ?_
    refine R.aload_n dX13_takesRest_112 rfl (by first | rfl | exact rfv_rf _) ?_
    refine R.ldcwS (i := 45) rfl dX13_takesRest_113 ?_
    refine cl_X13_254 rfl rfl (by first | exact Nat.le_of_ble_eq_true rfl | simp [rf_cat, Value.category]) dX13_takesRest_116 ?_
    refine p_isW (v := 45) h2 (by decide) ?_
    rw [if_neg hw]
    refine cl_X13_337 rfl rfl (by first | exact Nat.le_of_ble_eq_true rfl | simp [rf_cat, Value.category]) dX13_takesRest_119 ?_
    refine p_wdN h2 (fun M3 h3 => ?_)
    refine R.if_eq (tgt := 137) dX13_takesRest_122 (by decide) (fun _ => ?_) (fun c9 => absurd (rfl) c9)
    refine R.iconst (v := 0) dX13_takesRest_137 rfl ?_
    refine WP.ret (ov := some (.int _)) dX13_takesRest_138 ⟨rfl, _, rfl, by first | rfl | assumption | exact nar_b01 (by assumption)⟩ ?_
    exact hq M3 h3
  have hw : isW b (tS b n (tE b n (tE b n e))) (tE b n (tE b n (tE b n e))) (tK b n (tE b n (tE b n e))) 45 = true := by rw [isW_e (v := 45) (v' := 19) rfl]; exact hw0
  have e1 : nwC b n (tE b n (tE b n e)) 19 = 0 := by unfold nwC; rw [if_pos hw0]
  rw [if_pos e1] at hq
  dsimp only at hq
  by_cases c3 : ncC b n (tE b n (tE b n (tE b n e))) Y = 0
  case neg =>
    rw [qC_no c3] at hq
    refine R.aload_n dX13_takesRest_0 rfl (by first | rfl | exact rfv_rf _) ?_
    refine cl_X13_233 rfl rfl (by first | exact Nat.le_of_ble_eq_true rfl | simp [rf_cat, Value.category]) dX13_takesRest_1 ?_
    refine p_adv h (fun M1 h1 => ?_)
    refine R.iload_n dX13_takesRest_4 rfl ?_
    refine R.tableIn (tgt := 103) dX13_takesRest_5 (by decide) (by decide) rfl (by decide) ?_
    refine R.aload_n dX13_takesRest_103 rfl (by first | rfl | exact rfv_rf _) ?_
    refine R.iconst (v := 0) dX13_takesRest_104 rfl ?_
    refine cl_X13_332 rfl rfl (by first | exact Nat.le_of_ble_eq_true rfl | simp [rf_cat, Value.category]) dX13_takesRest_105 ?_
    refine p_tcS (k := 0) h1 hR hB (by omega) c0 hcj (by omega) (fun M2 h2 => ?_)
    refine R.if_eq (tgt := 137) dX13_takesRest_108 (by decide) (fun c9 => absurd c9 (by decide)) (fun _ => ?_)
    refine R.aload_n dX13_takesRest_111 rfl (by first | rfl | exact rfv_rf _) ?_
    refine R.aload_n dX13_takesRest_112 rfl (by first | rfl | exact rfv_rf _) ?_
    refine R.ldcwS (i := 45) rfl dX13_takesRest_113 ?_
    refine cl_X13_254 rfl rfl (by first | exact Nat.le_of_ble_eq_true rfl | simp [rf_cat, Value.category]) dX13_takesRest_116 ?_
    refine p_isW (v := 45) h2 (by decide) ?_
    rw [if_pos hw]
    refine cl_X13_337 rfl rfl (by first | exact Nat.le_of_ble_eq_true rfl | simp [rf_cat, Value.category]) dX13_takesRest_119 ?_
    refine p_wdS h2 (fun M3 h3 => ?_)
    refine R.if_eq (tgt := 137) dX13_takesRest_122 (by decide) (fun c9 => absurd c9 (by decide)) (fun _ => ?_)
    refine R.aload_n dX13_takesRest_125 rfl (by first | rfl | exact rfv_rf _) ?_
    refine R.iconst (v := 1) dX13_takesRest_126 rfl ?_
    refine cl_X13_332 rfl rfl (by first | exact Nat.le_of_ble_eq_true rfl | simp [rf_cat, Value.category]) dX13_takesRest_127 ?_
    refine p_tcN (k := 1) h3 hR hB (by omega) c3 (fun M4 h4 => ?_)
    refine R.if_eq (tgt := 137) dX13_takesRest_130 (by decide) (fun _ => ?_) (fun c9 => absurd (rfl) c9)
    refine R.iconst (v := 0) dX13_takesRest_137 rfl ?_
    refine WP.ret (ov := some (.int _)) dX13_takesRest_138 ⟨rfl, _, rfl, by first | rfl | assumption | exact nar_b01 (by assumption)⟩ ?_
    exact hq M4 h4
  obtain ⟨c4, j2, hcj2, hj2⟩ := nc_z hB c3
  rw [qC_ok c3 hcj2] at hq
  refine R.aload_n dX13_takesRest_0 rfl (by first | rfl | exact rfv_rf _) ?_
  refine cl_X13_233 rfl rfl (by first | exact Nat.le_of_ble_eq_true rfl | simp [rf_cat, Value.category]) dX13_takesRest_1 ?_
  refine p_adv h (fun M1 h1 => ?_)
  refine R.iload_n dX13_takesRest_4 rfl ?_
  refine R.tableIn (tgt := 103) dX13_takesRest_5 (by decide) (by decide) rfl (by decide) ?_
  refine R.aload_n dX13_takesRest_103 rfl (by first | rfl | exact rfv_rf _) ?_
  refine R.iconst (v := 0) dX13_takesRest_104 rfl ?_
  refine cl_X13_332 rfl rfl (by first | exact Nat.le_of_ble_eq_true rfl | simp [rf_cat, Value.category]) dX13_takesRest_105 ?_
  refine p_tcS (k := 0) h1 hR hB (by omega) c0 hcj (by omega) (fun M2 h2 => ?_)
  refine R.if_eq (tgt := 137) dX13_takesRest_108 (by decide) (fun c9 => absurd c9 (by decide)) (fun _ => ?_)
  refine R.aload_n dX13_takesRest_111 rfl (by first | rfl | exact rfv_rf _) ?_
  refine R.aload_n dX13_takesRest_112 rfl (by first | rfl | exact rfv_rf _) ?_
  refine R.ldcwS (i := 45) rfl dX13_takesRest_113 ?_
  refine cl_X13_254 rfl rfl (by first | exact Nat.le_of_ble_eq_true rfl | simp [rf_cat, Value.category]) dX13_takesRest_116 ?_
  refine p_isW (v := 45) h2 (by decide) ?_
  rw [if_pos hw]
  refine cl_X13_337 rfl rfl (by first | exact Nat.le_of_ble_eq_true rfl | simp [rf_cat, Value.category]) dX13_takesRest_119 ?_
  refine p_wdS h2 (fun M3 h3 => ?_)
  refine R.if_eq (tgt := 137) dX13_takesRest_122 (by decide) (fun c9 => absurd c9 (by decide)) (fun _ => ?_)
  refine R.aload_n dX13_takesRest_125 rfl (by first | rfl | exact rfv_rf _) ?_
  refine R.iconst (v := 1) dX13_takesRest_126 rfl ?_
  refine cl_X13_332 rfl rfl (by first | exact Nat.le_of_ble_eq_true rfl | simp [rf_cat, Value.category]) dX13_takesRest_127 ?_
  refine p_tcS (k := 1) h3 hR hB (by omega) c4 hcj2 (by omega) (fun M4 h4 => ?_)
  refine R.if_eq (tgt := 137) dX13_takesRest_130 (by decide) (fun c9 => absurd c9 (by decide)) (fun _ => ?_)
  refine R.iconst (v := 1) dX13_takesRest_133 rfl ?_
  refine R.goto (tgt := 138) dX13_takesRest_134 (by decide) ?_
  refine WP.ret (ov := some (.int _)) dX13_takesRest_138 ⟨rfl, _, rfl, by first | rfl | assumption | exact nar_b01 (by assumption)⟩ ?_
  exact hq M4 _ h4 ⟨rfl, by simp [nCr], fun _ => rfl, fun q => absurd q (by simp [nCr]), fun _ => rfl, fun q => absurd q (by simp [nCr])⟩
set_option maxHeartbeats 4000000 in
set_option maxRecDepth 4000 in
theorem p_tr4 {d n e : Nat} {b w N : Nat → Int32} {RR : OR9} {M0 M : Mem} {Q : Out → Mem → Prop} {Y : Yd} {m b9 K : Nat} (h : PQ M0 M b n e w N RR) (hR : RW Y m b9 K w) (hB : CrB Y m b9) (hq : PRQ Q M0 b n w RR 4 (sqP b n (tE b n e) 4 Y)) : WPc (d + 6) mX13_takesRest [.ref (rf 11 0), .int (nI 5)] M Q := by
  refine WPc.of (by decide +kernel) (Nat.le_of_ble_eq_true rfl) rfl ?_
  unfold sqP at hq
  rw [if_neg (by decide : ¬ (4 : Nat) = 0)] at hq
  rw [if_neg (by decide : ¬ (4 : Nat) = 1)] at hq
  rw [if_neg (by decide : ¬ (4 : Nat) = 2)] at hq
  rw [if_neg (by decide : ¬ (4 : Nat) = 3)] at hq
  rw [if_pos rfl] at hq
  by_cases c1 : ncC b n (tE b n e) Y = 0
  case neg =>
    rw [qC_no c1] at hq
    refine R.aload_n dX13_takesRest_0 rfl (by first | rfl | exact rfv_rf _) ?_
    refine cl_X13_233 rfl rfl (by first | exact Nat.le_of_ble_eq_true rfl | simp [rf_cat, Value.category]) dX13_takesRest_1 ?_
    refine p_adv h (fun M1 h1 => ?_)
    refine R.iload_n dX13_takesRest_4 rfl ?_
    refine R.tableIn (tgt := 139) dX13_takesRest_5 (by decide) (by decide) rfl (by decide) ?_
    refine R.aload_n dX13_takesRest_139 rfl (by first | rfl | exact rfv_rf _) ?_
    refine R.iconst (v := 0) dX13_takesRest_140 rfl ?_
    refine cl_X13_332 rfl rfl (by first | exact Nat.le_of_ble_eq_true rfl | simp [rf_cat, Value.category]) dX13_takesRest_141 ?_
    refine p_tcN (k := 0) h1 hR hB (by omega) c1 (fun M2 h2 => ?_)
    refine WP.ret (ov := some (.int _)) dX13_takesRest_144 ⟨rfl, _, rfl, by first | rfl | assumption | exact nar_b01 (by assumption)⟩ ?_
    exact hq M2 h2
  obtain ⟨c0, j, hcj, hj⟩ := nc_z hB c1
  rw [qC_ok c1 hcj] at hq
  refine R.aload_n dX13_takesRest_0 rfl (by first | rfl | exact rfv_rf _) ?_
  refine cl_X13_233 rfl rfl (by first | exact Nat.le_of_ble_eq_true rfl | simp [rf_cat, Value.category]) dX13_takesRest_1 ?_
  refine p_adv h (fun M1 h1 => ?_)
  refine R.iload_n dX13_takesRest_4 rfl ?_
  refine R.tableIn (tgt := 139) dX13_takesRest_5 (by decide) (by decide) rfl (by decide) ?_
  refine R.aload_n dX13_takesRest_139 rfl (by first | rfl | exact rfv_rf _) ?_
  refine R.iconst (v := 0) dX13_takesRest_140 rfl ?_
  refine cl_X13_332 rfl rfl (by first | exact Nat.le_of_ble_eq_true rfl | simp [rf_cat, Value.category]) dX13_takesRest_141 ?_
  refine p_tcS (k := 0) h1 hR hB (by omega) c0 hcj (by omega) (fun M2 h2 => ?_)
  refine WP.ret (ov := some (.int _)) dX13_takesRest_144 ⟨rfl, _, rfl, by first | rfl | assumption | exact nar_b01 (by assumption)⟩ ?_
  exact hq M2 _ h2 ⟨rfl, by simp [nCr], fun _ => rfl, fun q => absurd q (by simp [nCr]), fun q => absurd q (by simp [nCr]), fun q => absurd q (by simp [nCr])⟩
set_option maxHeartbeats 4000000 in
set_option maxRecDepth 4000 in
theorem p_tr5 {d n e : Nat} {b w N : Nat → Int32} {RR : OR9} {M0 M : Mem} {Q : Out → Mem → Prop} {Y : Yd} {m b9 K : Nat} (h : PQ M0 M b n e w N RR) (hR : RW Y m b9 K w) (hB : CrB Y m b9) (hq : PRQ Q M0 b n w RR 5 (sqP b n (tE b n e) 5 Y)) : WPc (d + 6) mX13_takesRest [.ref (rf 11 0), .int (nI 6)] M Q := by
  refine WPc.of (by decide +kernel) (Nat.le_of_ble_eq_true rfl) rfl ?_
  unfold sqP at hq
  rw [if_neg (by decide : ¬ (5 : Nat) = 0)] at hq
  rw [if_neg (by decide : ¬ (5 : Nat) = 1)] at hq
  rw [if_neg (by decide : ¬ (5 : Nat) = 2)] at hq
  rw [if_neg (by decide : ¬ (5 : Nat) = 3)] at hq
  rw [if_neg (by decide : ¬ (5 : Nat) = 4)] at hq
  rw [if_pos rfl] at hq
  refine R.aload_n dX13_takesRest_0 rfl (by first | rfl | exact rfv_rf _) ?_
  refine cl_X13_233 rfl rfl (by first | exact Nat.le_of_ble_eq_true rfl | simp [rf_cat, Value.category]) dX13_takesRest_1 ?_
  refine p_adv h (fun M1 h1 => ?_)
  refine R.iload_n dX13_takesRest_4 rfl ?_
  refine R.tableIn (tgt := 145) dX13_takesRest_5 (by decide) (by decide) rfl (by decide) ?_
  refine R.iconst (v := 1) dX13_takesRest_145 rfl ?_
  refine WP.ret (ov := some (.int _)) dX13_takesRest_146 ⟨rfl, _, rfl, by first | rfl | assumption | exact nar_b01 (by assumption)⟩ ?_
  exact hq M1 _ h1 ⟨rfl, by simp [nCr], fun q => absurd q (by simp [nCr]), fun q => absurd q (by simp [nCr]), fun q => absurd q (by simp [nCr]), fun q => absurd q (by simp [nCr])⟩
set_option maxHeartbeats 4000000 in
set_option maxRecDepth 4000 in
theorem p_tr6 {d n e : Nat} {b w N : Nat → Int32} {RR : OR9} {M0 M : Mem} {Q : Out → Mem → Prop} {Y : Yd} {m b9 K : Nat} (h : PQ M0 M b n e w N RR) (hR : RW Y m b9 K w) (hB : CrB Y m b9) (hq : PRQ Q M0 b n w RR 6 (sqP b n (tE b n e) 6 Y)) : WPc (d + 6) mX13_takesRest [.ref (rf 11 0), .int (nI 7)] M Q := by
  refine WPc.of (by decide +kernel) (Nat.le_of_ble_eq_true rfl) rfl ?_
  unfold sqP at hq
  rw [if_neg (by decide : ¬ (6 : Nat) = 0)] at hq
  rw [if_neg (by decide : ¬ (6 : Nat) = 1)] at hq
  rw [if_neg (by decide : ¬ (6 : Nat) = 2)] at hq
  rw [if_neg (by decide : ¬ (6 : Nat) = 3)] at hq
  rw [if_neg (by decide : ¬ (6 : Nat) = 4)] at hq
  rw [if_neg (by decide : ¬ (6 : Nat) = 5)] at hq
  rw [if_pos rfl] at hq
  by_cases c1 : ncC b n (tE b n e) Y = 0
  case neg =>
    rw [qC_no c1] at hq
    refine R.aload_n dX13_takesRest_0 rfl (by first | rfl | exact rfv_rf _) ?_
    refine cl_X13_233 rfl rfl (by first | exact Nat.le_of_ble_eq_true rfl | simp [rf_cat, Value.category]) dX13_takesRest_1 ?_
    refine p_adv h (fun M1 h1 => ?_)
    refine R.iload_n dX13_takesRest_4 rfl ?_
    refine R.tableIn (tgt := 147) dX13_takesRest_5 (by decide) (by decide) rfl (by decide) ?_
    refine R.aload_n dX13_takesRest_147 rfl (by first | rfl | exact rfv_rf _) ?_
    refine R.iconst (v := 0) dX13_takesRest_148 rfl ?_
    refine cl_X13_332 rfl rfl (by first | exact Nat.le_of_ble_eq_true rfl | simp [rf_cat, Value.category]) dX13_takesRest_149 ?_
    refine p_tcN (k := 0) h1 hR hB (by omega) c1 (fun M2 h2 => ?_)
    refine R.if_eq (tgt := 181) dX13_takesRest_152 (by decide) (fun _ => ?_) (fun c9 => absurd (rfl) c9)
    refine R.iconst (v := 0) dX13_takesRest_181 rfl ?_
    refine WP.ret (ov := some (.int _)) dX13_takesRest_182 ⟨rfl, _, rfl, by first | rfl | assumption | exact nar_b01 (by assumption)⟩ ?_
    exact hq M2 h2
  obtain ⟨c0, j, hcj, hj⟩ := nc_z hB c1
  rw [qC_ok c1 hcj] at hq
  unfold qW at hq
  by_cases hw0 : isW b (tS b n (tE b n (tE b n e))) (tE b n (tE b n (tE b n e))) (tK b n (tE b n (tE b n e))) 20 = true
  case neg =>
    have hw : ¬ isW b (tS b n (tE b n (tE b n e))) (tE b n (tE b n (tE b n e))) (tK b n (tE b n (tE b n e))) 46 = true := by rw [isW_e (v := 46) (v' := 20) rfl]; exact hw0
    have e1 : nwC b n (tE b n (tE b n e)) 20 = 1 := by unfold nwC; rw [if_neg hw0]
    rw [e1, if_neg (by decide : ¬ (1 : Int32) = 0)] at hq
    refine R.aload_n dX13_takesRest_0 rfl (by first | rfl | exact rfv_rf _) ?_
    refine cl_X13_233 rfl rfl (by first | exact Nat.le_of_ble_eq_true rfl | simp [rf_cat, Value.category]) dX13_takesRest_1 ?_
    refine p_adv h (fun M1 h1 => ?_)
    refine R.iload_n dX13_takesRest_4 rfl ?_
    refine R.tableIn (tgt := 147) dX13_takesRest_5 (by decide) (by decide) rfl (by decide) ?_
    refine R.aload_n dX13_takesRest_147 rfl (by first | rfl | exact rfv_rf _) ?_
    refine R.iconst (v := 0) dX13_takesRest_148 rfl ?_
    refine cl_X13_332 rfl rfl (by first | exact Nat.le_of_ble_eq_true rfl | simp [rf_cat, Value.category]) dX13_takesRest_149 ?_
    refine p_tcS (k := 0) h1 hR hB (by omega) c0 hcj (by omega) (fun M2 h2 => ?_)
    refine R.if_eq (tgt := 181) dX13_takesRest_152 (by decide) (fun c9 => absurd c9 (by decide)) (fun _ => ?_)
    refine R.aload_n dX13_takesRest_155 rfl (by first | rfl | exact rfv_rf _) ?_
    refine R.aload_n dX13_takesRest_156 rfl (by first | rfl | exact rfv_rf _) ?_
    refine R.ldcwS (i := 46) rfl dX13_takesRest_157 ?_
    refine cl_X13_254 rfl rfl (by first | exact Nat.le_of_ble_eq_true rfl | simp [rf_cat, Value.category]) dX13_takesRest_160 ?_
    refine p_isW (v := 46) h2 (by decide) ?_
    rw [if_neg hw]
    refine cl_X13_337 rfl rfl (by first | exact Nat.le_of_ble_eq_true rfl | simp [rf_cat, Value.category]) dX13_takesRest_163 ?_
    refine p_wdN h2 (fun M3 h3 => ?_)
    refine R.if_eq (tgt := 181) dX13_takesRest_166 (by decide) (fun _ => ?_) (fun c9 => absurd (rfl) c9)
    refine R.iconst (v := 0) dX13_takesRest_181 rfl ?_
    refine WP.ret (ov := some (.int _)) dX13_takesRest_182 ⟨rfl, _, rfl, by first | rfl | assumption | exact nar_b01 (by assumption)⟩ ?_
    exact hq M3 h3
  have hw : isW b (tS b n (tE b n (tE b n e))) (tE b n (tE b n (tE b n e))) (tK b n (tE b n (tE b n e))) 46 = true := by rw [isW_e (v := 46) (v' := 20) rfl]; exact hw0
  have e1 : nwC b n (tE b n (tE b n e)) 20 = 0 := by unfold nwC; rw [if_pos hw0]
  rw [if_pos e1] at hq
  dsimp only at hq
  by_cases c3 : nyC b n (tE b n (tE b n (tE b n e))) Y = 0
  case neg =>
    rw [qB_no c3] at hq
    refine R.aload_n dX13_takesRest_0 rfl (by first | rfl | exact rfv_rf _) ?_
    refine cl_X13_233 rfl rfl (by first | exact Nat.le_of_ble_eq_true rfl | simp [rf_cat, Value.category]) dX13_takesRest_1 ?_
    refine p_adv h (fun M1 h1 => ?_)
    refine R.iload_n dX13_takesRest_4 rfl ?_
    refine R.tableIn (tgt := 147) dX13_takesRest_5 (by decide) (by decide) rfl (by decide) ?_
    refine R.aload_n dX13_takesRest_147 rfl (by first | rfl | exact rfv_rf _) ?_
    refine R.iconst (v := 0) dX13_takesRest_148 rfl ?_
    refine cl_X13_332 rfl rfl (by first | exact Nat.le_of_ble_eq_true rfl | simp [rf_cat, Value.category]) dX13_takesRest_149 ?_
    refine p_tcS (k := 0) h1 hR hB (by omega) c0 hcj (by omega) (fun M2 h2 => ?_)
    refine R.if_eq (tgt := 181) dX13_takesRest_152 (by decide) (fun c9 => absurd c9 (by decide)) (fun _ => ?_)
    refine R.aload_n dX13_takesRest_155 rfl (by first | rfl | exact rfv_rf _) ?_
    refine R.aload_n dX13_takesRest_156 rfl (by first | rfl | exact rfv_rf _) ?_
    refine R.ldcwS (i := 46) rfl dX13_takesRest_157 ?_
    refine cl_X13_254 rfl rfl (by first | exact Nat.le_of_ble_eq_true rfl | simp [rf_cat, Value.category]) dX13_takesRest_160 ?_
    refine p_isW (v := 46) h2 (by decide) ?_
    rw [if_pos hw]
    refine cl_X13_337 rfl rfl (by first | exact Nat.le_of_ble_eq_true rfl | simp [rf_cat, Value.category]) dX13_takesRest_163 ?_
    refine p_wdS h2 (fun M3 h3 => ?_)
    refine R.if_eq (tgt := 181) dX13_takesRest_166 (by decide) (fun c9 => absurd c9 (by decide)) (fun _ => ?_)
    refine R.aload_n dX13_takesRest_169 rfl (by first | rfl | exact rfv_rf _) ?_
    refine R.iconst (v := 1) dX13_takesRest_170 rfl ?_
    refine cl_X13_343 rfl rfl (by first | exact Nat.le_of_ble_eq_true rfl | simp [rf_cat, Value.category]) dX13_takesRest_171 ?_
    refine p_tbN (k := 1) h3 hR hB (by omega) c3 (fun M4 h4 => ?_)
    refine R.if_eq (tgt := 181) dX13_takesRest_174 (by decide) (fun _ => ?_) (fun c9 => absurd (rfl) c9)
    refine R.iconst (v := 0) dX13_takesRest_181 rfl ?_
    refine WP.ret (ov := some (.int _)) dX13_takesRest_182 ⟨rfl, _, rfl, by first | rfl | assumption | exact nar_b01 (by assumption)⟩ ?_
    exact hq M4 h4
  obtain ⟨c4, j2, hcj2, hj2⟩ := ny_z hB c3
  rw [qB_ok c3 hcj2] at hq
  refine R.aload_n dX13_takesRest_0 rfl (by first | rfl | exact rfv_rf _) ?_
  refine cl_X13_233 rfl rfl (by first | exact Nat.le_of_ble_eq_true rfl | simp [rf_cat, Value.category]) dX13_takesRest_1 ?_
  refine p_adv h (fun M1 h1 => ?_)
  refine R.iload_n dX13_takesRest_4 rfl ?_
  refine R.tableIn (tgt := 147) dX13_takesRest_5 (by decide) (by decide) rfl (by decide) ?_
  refine R.aload_n dX13_takesRest_147 rfl (by first | rfl | exact rfv_rf _) ?_
  refine R.iconst (v := 0) dX13_takesRest_148 rfl ?_
  refine cl_X13_332 rfl rfl (by first | exact Nat.le_of_ble_eq_true rfl | simp [rf_cat, Value.category]) dX13_takesRest_149 ?_
  refine p_tcS (k := 0) h1 hR hB (by omega) c0 hcj (by omega) (fun M2 h2 => ?_)
  refine R.if_eq (tgt := 181) dX13_takesRest_152 (by decide) (fun c9 => absurd c9 (by decide)) (fun _ => ?_)
  refine R.aload_n dX13_takesRest_155 rfl (by first | rfl | exact rfv_rf _) ?_
  refine R.aload_n dX13_takesRest_156 rfl (by first | rfl | exact rfv_rf _) ?_
  refine R.ldcwS (i := 46) rfl dX13_takesRest_157 ?_
  refine cl_X13_254 rfl rfl (by first | exact Nat.le_of_ble_eq_true rfl | simp [rf_cat, Value.category]) dX13_takesRest_160 ?_
  refine p_isW (v := 46) h2 (by decide) ?_
  rw [if_pos hw]
  refine cl_X13_337 rfl rfl (by first | exact Nat.le_of_ble_eq_true rfl | simp [rf_cat, Value.category]) dX13_takesRest_163 ?_
  refine p_wdS h2 (fun M3 h3 => ?_)
  refine R.if_eq (tgt := 181) dX13_takesRest_166 (by decide) (fun c9 => absurd c9 (by decide)) (fun _ => ?_)
  refine R.aload_n dX13_takesRest_169 rfl (by first | rfl | exact rfv_rf _) ?_
  refine R.iconst (v := 1) dX13_takesRest_170 rfl ?_
  refine cl_X13_343 rfl rfl (by first | exact Nat.le_of_ble_eq_true rfl | simp [rf_cat, Value.category]) dX13_takesRest_171 ?_
  refine p_tbS (k := 1) h3 hR hB (by omega) c4 hcj2 (by omega) (fun M4 h4 => ?_)
  refine R.if_eq (tgt := 181) dX13_takesRest_174 (by decide) (fun c9 => absurd c9 (by decide)) (fun _ => ?_)
  refine R.iconst (v := 1) dX13_takesRest_177 rfl ?_
  refine R.goto (tgt := 182) dX13_takesRest_178 (by decide) ?_
  refine WP.ret (ov := some (.int _)) dX13_takesRest_182 ⟨rfl, _, rfl, by first | rfl | assumption | exact nar_b01 (by assumption)⟩ ?_
  exact hq M4 _ h4 ⟨rfl, by simp [nCr], fun _ => rfl, fun q => absurd q (by simp [nCr]), fun _ => rfl, fun q => absurd q (by simp [nCr])⟩
set_option maxHeartbeats 4000000 in
set_option maxRecDepth 4000 in
theorem p_tr7 {d n e : Nat} {b w N : Nat → Int32} {RR : OR9} {M0 M : Mem} {Q : Out → Mem → Prop} {Y : Yd} {m b9 K : Nat} (h : PQ M0 M b n e w N RR) (hR : RW Y m b9 K w) (hB : CrB Y m b9) (hq : PRQ Q M0 b n w RR 7 (sqP b n (tE b n e) 7 Y)) : WPc (d + 6) mX13_takesRest [.ref (rf 11 0), .int (nI 8)] M Q := by
  refine WPc.of (by decide +kernel) (Nat.le_of_ble_eq_true rfl) rfl ?_
  unfold sqP at hq
  rw [if_neg (by decide : ¬ (7 : Nat) = 0)] at hq
  rw [if_neg (by decide : ¬ (7 : Nat) = 1)] at hq
  rw [if_neg (by decide : ¬ (7 : Nat) = 2)] at hq
  rw [if_neg (by decide : ¬ (7 : Nat) = 3)] at hq
  rw [if_neg (by decide : ¬ (7 : Nat) = 4)] at hq
  rw [if_neg (by decide : ¬ (7 : Nat) = 5)] at hq
  rw [if_neg (by decide : ¬ (7 : Nat) = 6)] at hq
  rw [if_pos rfl] at hq
  unfold qN at hq
  by_cases c2 : nbC b n (tE b n e) 0 50 = 0
  · rw [if_pos c2] at hq
    refine R.aload_n dX13_takesRest_0 rfl (by first | rfl | exact rfv_rf _) ?_
    refine cl_X13_233 rfl rfl (by first | exact Nat.le_of_ble_eq_true rfl | simp [rf_cat, Value.category]) dX13_takesRest_1 ?_
    refine p_adv h (fun M1 h1 => ?_)
    refine R.iload_n dX13_takesRest_4 rfl ?_
    refine R.tableIn (tgt := 183) dX13_takesRest_5 (by decide) (by decide) rfl (by decide) ?_
    refine R.aload_n dX13_takesRest_183 rfl (by first | rfl | exact rfv_rf _) ?_
    refine R.iconst (v := 0) dX13_takesRest_184 rfl ?_
    refine R.iconst (v := 0) dX13_takesRest_185 rfl ?_
    refine R.bipush (v := 50) dX13_takesRest_186 (by decide) ?_
    refine cl_X13_262 rfl rfl (by first | exact Nat.le_of_ble_eq_true rfl | simp [rf_cat, Value.category]) dX13_takesRest_188 ?_
    refine p_tkS (k := 0) h1 (by omega) c2 (fun M2 h2 => ?_)
    refine WP.ret (ov := some (.int _)) dX13_takesRest_191 ⟨rfl, _, rfl, by first | rfl | assumption | exact nar_b01 (by assumption)⟩ ?_
    exact hq M2 _ h2 ⟨rfl, by simp [nCr], fun q => absurd q (by simp [nCr]), fun q => absurd q (by simp [nCr]), fun q => absurd q (by simp [nCr]), fun _ => rfl⟩
  · rw [if_neg c2] at hq
    refine R.aload_n dX13_takesRest_0 rfl (by first | rfl | exact rfv_rf _) ?_
    refine cl_X13_233 rfl rfl (by first | exact Nat.le_of_ble_eq_true rfl | simp [rf_cat, Value.category]) dX13_takesRest_1 ?_
    refine p_adv h (fun M1 h1 => ?_)
    refine R.iload_n dX13_takesRest_4 rfl ?_
    refine R.tableIn (tgt := 183) dX13_takesRest_5 (by decide) (by decide) rfl (by decide) ?_
    refine R.aload_n dX13_takesRest_183 rfl (by first | rfl | exact rfv_rf _) ?_
    refine R.iconst (v := 0) dX13_takesRest_184 rfl ?_
    refine R.iconst (v := 0) dX13_takesRest_185 rfl ?_
    refine R.bipush (v := 50) dX13_takesRest_186 (by decide) ?_
    refine cl_X13_262 rfl rfl (by first | exact Nat.le_of_ble_eq_true rfl | simp [rf_cat, Value.category]) dX13_takesRest_188 ?_
    refine p_tkN (k := 0) h1 c2 (fun M2 h2 => ?_)
    refine WP.ret (ov := some (.int _)) dX13_takesRest_191 ⟨rfl, _, rfl, by first | rfl | assumption | exact nar_b01 (by assumption)⟩ ?_
    exact hq M2 h2
set_option maxHeartbeats 4000000 in
set_option maxRecDepth 4000 in
theorem p_tr8 {d n e : Nat} {b w N : Nat → Int32} {RR : OR9} {M0 M : Mem} {Q : Out → Mem → Prop} {Y : Yd} {m b9 K : Nat} (h : PQ M0 M b n e w N RR) (hR : RW Y m b9 K w) (hB : CrB Y m b9) (hq : PRQ Q M0 b n w RR 8 (sqP b n (tE b n e) 8 Y)) : WPc (d + 6) mX13_takesRest [.ref (rf 11 0), .int (nI 9)] M Q := by
  refine WPc.of (by decide +kernel) (Nat.le_of_ble_eq_true rfl) rfl ?_
  unfold sqP at hq
  rw [if_neg (by decide : ¬ (8 : Nat) = 0)] at hq
  rw [if_neg (by decide : ¬ (8 : Nat) = 1)] at hq
  rw [if_neg (by decide : ¬ (8 : Nat) = 2)] at hq
  rw [if_neg (by decide : ¬ (8 : Nat) = 3)] at hq
  rw [if_neg (by decide : ¬ (8 : Nat) = 4)] at hq
  rw [if_neg (by decide : ¬ (8 : Nat) = 5)] at hq
  rw [if_neg (by decide : ¬ (8 : Nat) = 6)] at hq
  rw [if_neg (by decide : ¬ (8 : Nat) = 7)] at hq
  skip
  unfold qN at hq
  by_cases c2 : nbC b n (tE b n e) 1 100 = 0
  · rw [if_pos c2] at hq
    refine R.aload_n dX13_takesRest_0 rfl (by first | rfl | exact rfv_rf _) ?_
    refine cl_X13_233 rfl rfl (by first | exact Nat.le_of_ble_eq_true rfl | simp [rf_cat, Value.category]) dX13_takesRest_1 ?_
    refine p_adv h (fun M1 h1 => ?_)
    refine R.iload_n dX13_takesRest_4 rfl ?_
    refine R.tableOut (tgt := 192) dX13_takesRest_5 (by decide) (by decide) ?_
    refine R.aload_n dX13_takesRest_192 rfl (by first | rfl | exact rfv_rf _) ?_
    refine R.iconst (v := 0) dX13_takesRest_193 rfl ?_
    refine R.iconst (v := 1) dX13_takesRest_194 rfl ?_
    refine R.bipush (v := 100) dX13_takesRest_195 (by decide) ?_
    refine cl_X13_262 rfl rfl (by first | exact Nat.le_of_ble_eq_true rfl | simp [rf_cat, Value.category]) dX13_takesRest_197 ?_
    refine p_tkS (k := 0) h1 (by omega) c2 (fun M2 h2 => ?_)
    refine WP.ret (ov := some (.int _)) dX13_takesRest_200 ⟨rfl, _, rfl, by first | rfl | assumption | exact nar_b01 (by assumption)⟩ ?_
    exact hq M2 _ h2 ⟨rfl, by simp [nCr], fun q => absurd q (by simp [nCr]), fun q => absurd q (by simp [nCr]), fun q => absurd q (by simp [nCr]), fun _ => rfl⟩
  · rw [if_neg c2] at hq
    refine R.aload_n dX13_takesRest_0 rfl (by first | rfl | exact rfv_rf _) ?_
    refine cl_X13_233 rfl rfl (by first | exact Nat.le_of_ble_eq_true rfl | simp [rf_cat, Value.category]) dX13_takesRest_1 ?_
    refine p_adv h (fun M1 h1 => ?_)
    refine R.iload_n dX13_takesRest_4 rfl ?_
    refine R.tableOut (tgt := 192) dX13_takesRest_5 (by decide) (by decide) ?_
    refine R.aload_n dX13_takesRest_192 rfl (by first | rfl | exact rfv_rf _) ?_
    refine R.iconst (v := 0) dX13_takesRest_193 rfl ?_
    refine R.iconst (v := 1) dX13_takesRest_194 rfl ?_
    refine R.bipush (v := 100) dX13_takesRest_195 (by decide) ?_
    refine cl_X13_262 rfl rfl (by first | exact Nat.le_of_ble_eq_true rfl | simp [rf_cat, Value.category]) dX13_takesRest_197 ?_
    refine p_tkN (k := 0) h1 c2 (fun M2 h2 => ?_)
    refine WP.ret (ov := some (.int _)) dX13_takesRest_200 ⟨rfl, _, rfl, by first | rfl | assumption | exact nar_b01 (by assumption)⟩ ?_
    exact hq M2 h2
theorem p_tR {d n e : Nat} {b w N : Nat → Int32} {RR : OR9} {M0 M : Mem} {Q : Out → Mem → Prop} {Y : Yd} {m b9 K v : Nat} (h : PQ M0 M b n e w N RR) (hv : v < 9) (hR : RW Y m b9 K w) (hB : CrB Y m b9) (hq : PRQ Q M0 b n w RR v (sqP b n (tE b n e) v Y)) : WPc (d + 6) mX13_takesRest [.ref (rf 11 0), .int (nI (v + 1))] M Q := by
  rcases v with _ | _ | _ | _ | _ | _ | _ | _ | _ | v
  · exact p_tr0 h hR hB hq
  · exact p_tr1 h hR hB hq
  · exact p_tr2 h hR hB hq
  · exact p_tr3 h hR hB hq
  · exact p_tr4 h hR hB hq
  · exact p_tr5 h hR hB hq
  · exact p_tr6 h hR hB hq
  · exact p_tr7 h hR hB hq
  · exact p_tr8 h hR hB hq
  · omega
