/-! a statement carried out; a script run -/
def tkN (i : Nat) : Nat → Yd → Yd
  | 0, Y => Y
  | t + 1, Y => tkN i t (tkY Y i).2
def CV (Y : Yd) (t : St) : Prop := (nCr t.1 = true → t.2.1 < 16 ∧ ¬ yF Y 4 ≤ nI t.2.1) ∧ (t.1 = 3 → t.2.2.1 < 16 ∧ ¬ yF Y 4 ≤ nI t.2.2.1) ∧ (t.1 = 6 → t.2.2.1 < 6 ∧ ¬ yF Y 5 ≤ nI t.2.2.1) ∧ (t.1 = 0 → ∃ k, t.2.2.2 = nI k ∧ k ≤ 50)
def exY (Y : Yd) (t : St) : Int32 × Yd :=
  if t.1 = 5 then (1, spY Y) else
  if t.1 = 7 then (1, uS Y 1 t.2.2.2) else
  if t.1 = 8 then (1, uS Y 2 t.2.2.2) else
  if yC Y t.2.1 7 = 0 then (0, Y) else
  if t.1 = 0 then (1, tkN t.2.1 t.2.2.2.toNatClampNeg Y) else
  if t.1 = 1 then (if ¬ yC Y t.2.1 7 = 0 ∧ yC Y t.2.1 3 + t.2.2.2 ≤ 500 then (1, cgY Y t.2.1 t.2.2.2) else (0, Y)) else
  if t.1 = 2 then (if ¬ yC Y t.2.1 7 = 0 ∧ t.2.2.2 ≤ yC Y t.2.1 3 then (1, cgY Y t.2.1 (-t.2.2.2)) else (0, Y)) else
  if t.1 = 3 then (if yCan Y t.2.1 t.2.2.1 = 0 then (0, Y) else (1, neY Y t.2.1 t.2.2.1)) else
  if t.1 = 4 then (match yP Y t.2.1 with
    | none => (0, Y)
    | some _ => (1, unY Y t.2.1)) else
  if yRef Y t.2.1 t.2.2.1 = 0 then (1, trY Y t.2.1 t.2.2.1) else (0, Y)
set_option maxHeartbeats 1000000 in
set_option maxRecDepth 4000 in
theorem s_stWeigh {d : Nat} {y : Nat} {Y : Yd} {i t : Nat} {M : Mem} {Q : Out → Mem → Prop} (h : Yv M y Y) (hi : i < 16) (ht : t ≤ 50) (hq : ∀ M', Yv M' y (tkN i t Y) → Fr (inY y) M M' → Q (.inl (some (.int (1)))) M') : WPc (d + 3) mX7_weighOften [.ref (rf 1 (16 * y + i)), .int (nI t), .ref (rf 9 y)] M Q := by
  refine WPc.of (by decide +kernel) (Nat.le_of_ble_eq_true rfl) rfl ?_
  have key : ∀ (f x : Nat) (M1 : Mem) (Y1 : Yd), x + f = t → Yv M1 y Y1 → Fr (inY y) M M1 → (∀ M', Yv M' y (tkN i f Y1) → Fr (inY y) M M' → Q (.inl (some (.int 1))) M') → WP mX7_weighOften (d + 3) 2 [.ref (rf 1 (16 * y + i)), .int (nI t), .ref (rf 9 y), .int (nI x)] [] M1 Q := by
    intro f
    induction f with
    | zero =>
      intro x M1 Y1 hx h1 F1 hq
      have e9 : x = t := by omega
      rw [e9]
      refine R.iload_n dX7_weighOften_2 rfl ?_
      refine R.iload_n dX7_weighOften_3 rfl ?_
      refine R.geT (tgt := 19) (Int32.le_refl _) dX7_weighOften_4 (by decide) ?_
      refine R.iconst (v := 1) dX7_weighOften_19 rfl ?_
      refine WP.ret (ov := some (.int _)) dX7_weighOften_20 ⟨rfl, _, rfl, by first | rfl | assumption | exact nar_b01 (by assumption)⟩ ?_
      exact hq _ h1 F1
    | succ f ih =>
      intro x M1 Y1 hx h1 F1 hq
      refine R.iload_n dX7_weighOften_2 rfl ?_
      refine R.iload_n dX7_weighOften_3 rfl ?_
      refine R.geF (tgt := 19) (nI_ge (show x < t by omega) (by omega)) dX7_weighOften_4 (by decide) ?_
      refine R.aload_n dX7_weighOften_7 rfl (by first | rfl | exact rfv_rf _) ?_
      refine R.aload_n dX7_weighOften_8 rfl (by first | rfl | exact rfv_rf _) ?_
      refine cl_X7_141 rfl rfl (by first | exact Nat.le_of_ble_eq_true rfl | simp [rf_cat, Value.category]) dX7_weighOften_9 ?_
      refine s_yTake h1 hi (fun M2 h2 F2 => ?_)
      refine R.pop dX7_weighOften_12 (by first | rfl | exact rf_cat _) ?_
      refine R.iinc dX7_weighOften_13 (Nat.le_of_ble_eq_true rfl) (by decide) (by first | rfl | simp [lft, rf_cat]) rfl (inc_nI _) rfl ?_
      refine R.goto (tgt := 2) dX7_weighOften_16 (by decide) ?_
      exact ih (x + 1) _ _ (by omega) h2 (F1.tr F2) hq
  refine R.iconst (v := 0) dX7_weighOften_0 rfl ?_
  refine R.istore_n dX7_weighOften_1 (Nat.le_of_ble_eq_true rfl) (by decide) (by first | rfl | simp [lft, rf_cat]) rfl ?_
  exact key t 0 M Y (by omega) h (Fr.rf _ _) hq
set_option maxHeartbeats 1000000 in
set_option maxRecDepth 4000 in
theorem s_stGoods1 {d : Nat} {y : Nat} {Y : Yd} {i : Nat} {x : Int32} {M : Mem} {Q : Out → Mem → Prop} (h : Yv M y Y) (hi : i < 16) (hA : Acy Y) (hq : ∀ M', Yv M' y (cgY Y i x) → Fr (inY y) M M' → Q (.inl (some (.int (1)))) M') : WPc (d + 3) mX7_changeGoods [.int 1, .ref (rf 1 (16 * y + i)), .int x, .ref (rf 9 y)] M Q := by
  refine WPc.of (by decide +kernel) (Nat.le_of_ble_eq_true rfl) rfl ?_
  refine R.iload_n dX7_changeGoods_0 rfl ?_
  refine R.if_eq (tgt := 10) dX7_changeGoods_1 (by decide) (fun c => absurd c (by decide)) (fun _ => ?_)
  refine R.aload_n dX7_changeGoods_4 rfl (by first | rfl | exact rfv_rf _) ?_
  refine R.aload_n dX7_changeGoods_5 rfl (by first | rfl | exact rfv_rf _) ?_
  refine R.iload_n dX7_changeGoods_6 rfl ?_
  refine cl_X7_145 rfl rfl (by first | exact Nat.le_of_ble_eq_true rfl | simp [rf_cat, Value.category]) dX7_changeGoods_7 ?_
  refine s_yGoods h hi hA (fun M1 h1 F1 => ?_)
  refine R.iload_n dX7_changeGoods_10 rfl ?_
  refine WP.ret (ov := some (.int _)) dX7_changeGoods_11 ⟨rfl, _, rfl, by first | rfl | assumption | exact nar_b01 (by assumption)⟩ ?_
  exact hq _ h1 F1
set_option maxHeartbeats 1000000 in
set_option maxRecDepth 4000 in
theorem s_stGoods0 {d : Nat} {y : Nat} {Y : Yd} {i : Nat} {x : Int32} {M : Mem} {Q : Out → Mem → Prop} (h : Yv M y Y) (hq : ∀ M', Yv M' y (Y) → Fr (inY y) M M' → Q (.inl (some (.int (0)))) M') : WPc (d + 3) mX7_changeGoods [.int 0, .ref (rf 1 (16 * y + i)), .int x, .ref (rf 9 y)] M Q := by
  refine WPc.of (by decide +kernel) (Nat.le_of_ble_eq_true rfl) rfl ?_
  refine R.iload_n dX7_changeGoods_0 rfl ?_
  refine R.if_eq (tgt := 10) dX7_changeGoods_1 (by decide) (fun _ => ?_) (fun c => absurd rfl c)
  refine R.iload_n dX7_changeGoods_10 rfl ?_
  refine WP.ret (ov := some (.int _)) dX7_changeGoods_11 ⟨rfl, _, rfl, by first | rfl | assumption | exact nar_b01 (by assumption)⟩ ?_
  exact hq _ h (Fr.rf _ _)
set_option maxHeartbeats 1000000 in
set_option maxRecDepth 4000 in
theorem s_stMove {d : Nat} {y : Nat} {Y : Yd} {i t : Nat} {M : Mem} {Q : Out → Mem → Prop} (h : Yv M y Y) (hi : i < 16) (ho : t < 16) (hA : Acy Y) (hq : ∀ M', Yv M' y (if yCan Y i t = 0 then ((0, Y) : Int32 × Yd) else (1, neY Y i t)).2 → Fr (inY y) M M' → Q (.inl (some (.int (if yCan Y i t = 0 then ((0, Y) : Int32 × Yd) else (1, neY Y i t)).1))) M') : WPc (d + 3) mX7_moveTo [.ref (rf 1 (16 * y + t)), .ref (rf 1 (16 * y + i)), .ref (rf 9 y)] M Q := by
  refine WPc.of (by decide +kernel) (Nat.le_of_ble_eq_true rfl) rfl ?_
  refine R.aload_n dX7_moveTo_0 rfl (by first | rfl | exact rfv_rf _) ?_
  refine R.ifnullS (tgt := 17) (by first | decide | exact Nat.lt_of_le_of_lt (Nat.le_of_eq (kd_rf _ _ (by decide))) (by decide)) dX7_moveTo_1 (by decide) ?_
  refine R.aload_n dX7_moveTo_4 rfl (by first | rfl | exact rfv_rf _) ?_
  refine R.aload_n dX7_moveTo_5 rfl (by first | rfl | exact rfv_rf _) ?_
  refine R.aload_n dX7_moveTo_6 rfl (by first | rfl | exact rfv_rf _) ?_
  refine cl_X7_148 rfl rfl (by first | exact Nat.le_of_ble_eq_true rfl | simp [rf_cat, Value.category]) dX7_moveTo_7 ?_
  refine s_yCan h hA hi ho ?_
  refine R.if_eq (tgt := 17) dX7_moveTo_10 (by decide) (fun c10 => ?_) (fun c10 => ?_)
  · refine R.iconst (v := 0) dX7_moveTo_17 rfl ?_
    refine R.istore_n dX7_moveTo_18 (Nat.le_of_ble_eq_true rfl) (by decide) (by first | rfl | simp [lft, rf_cat]) rfl ?_
    refine R.iload_n dX7_moveTo_19 rfl ?_
    refine R.if_eq (tgt := 29) dX7_moveTo_20 (by decide) (fun _ => ?_) (fun c => absurd (by decide) c)
    refine R.iload_n dX7_moveTo_29 rfl ?_
    refine WP.ret (ov := some (.int _)) dX7_moveTo_30 ⟨rfl, _, rfl, by first | rfl | assumption | exact nar_b01 (by assumption)⟩ ?_
    rw [if_pos c10] at hq
    exact hq _ h (Fr.rf _ _)
  · refine R.iconst (v := 1) dX7_moveTo_13 rfl ?_
    refine R.goto (tgt := 18) dX7_moveTo_14 (by decide) ?_
    refine R.istore_n dX7_moveTo_18 (Nat.le_of_ble_eq_true rfl) (by decide) (by first | rfl | simp [lft, rf_cat]) rfl ?_
    refine R.iload_n dX7_moveTo_19 rfl ?_
    refine R.if_eq (tgt := 29) dX7_moveTo_20 (by decide) (fun c => absurd c (by decide)) (fun _ => ?_)
    refine R.aload_n dX7_moveTo_23 rfl (by first | rfl | exact rfv_rf _) ?_
    refine R.aload_n dX7_moveTo_24 rfl (by first | rfl | exact rfv_rf _) ?_
    refine R.aload_n dX7_moveTo_25 rfl (by first | rfl | exact rfv_rf _) ?_
    refine cl_X7_152 rfl rfl (by first | exact Nat.le_of_ble_eq_true rfl | simp [rf_cat, Value.category]) dX7_moveTo_26 ?_
    refine s_yNest h hi ho hA (acy_can0 hA ho ((can_iff hA hi).mp c10).2.2.1) (fun M1 h1 F1 => ?_)
    refine R.iload_n dX7_moveTo_29 rfl ?_
    refine WP.ret (ov := some (.int _)) dX7_moveTo_30 ⟨rfl, _, rfl, by first | rfl | assumption | exact nar_b01 (by assumption)⟩ ?_
    rw [if_neg c10] at hq
    exact hq _ h1 F1
set_option maxHeartbeats 1000000 in
set_option maxRecDepth 4000 in
theorem s_stOut {d : Nat} {y : Nat} {Y : Yd} {i : Nat} {M : Mem} {Q : Out → Mem → Prop} (h : Yv M y Y) (hi : i < 16) (hA : Acy Y) (hq : ∀ M', Yv M' y (match yP Y i with | none => ((0, Y) : Int32 × Yd) | some _ => (1, unY Y i)).2 → Fr (inY y) M M' → Q (.inl (some (.int (match yP Y i with | none => ((0, Y) : Int32 × Yd) | some _ => (1, unY Y i)).1))) M') : WPc (d + 3) mX7_takeFromParent [.ref (rf 1 (16 * y + i)), .ref (rf 9 y)] M Q := by
  refine WPc.of (by decide +kernel) (Nat.le_of_ble_eq_true rfl) rfl ?_
  have hp := h.rP hi
  cases e : yP Y i with
  | none =>
    rw [e] at hp hq
    dsimp only at hq
    refine R.aload_n dX7_takeFromParent_0 rfl (by first | rfl | exact rfv_rf _) ?_
    refine R.getN (hp) dX7_takeFromParent_1 fl_X7_156 (by decide) rfl ?_
    refine R.ifnullN (tgt := 11) dX7_takeFromParent_4 (by decide) ?_
    refine R.iconst (v := 0) dX7_takeFromParent_11 rfl ?_
    refine R.istore_n dX7_takeFromParent_12 (Nat.le_of_ble_eq_true rfl) (by decide) (by first | rfl | simp [lft, rf_cat]) rfl ?_
    refine R.iload_n dX7_takeFromParent_13 rfl ?_
    refine R.if_eq (tgt := 22) dX7_takeFromParent_14 (by decide) (fun _ => ?_) (fun c => absurd (by decide) c)
    refine R.iload_n dX7_takeFromParent_22 rfl ?_
    refine WP.ret (ov := some (.int _)) dX7_takeFromParent_23 ⟨rfl, _, rfl, by first | rfl | assumption | exact nar_b01 (by assumption)⟩ ?_
    exact hq _ h (Fr.rf _ _)
  | some j =>
    rw [e] at hp hq
    dsimp only at hq
    refine R.aload_n dX7_takeFromParent_0 rfl (by first | rfl | exact rfv_rf _) ?_
    refine R.getS (hp) dX7_takeFromParent_1 fl_X7_156 (by decide) rfl ?_
    refine R.ifnullS (tgt := 11) (by first | decide | exact Nat.lt_of_le_of_lt (Nat.le_of_eq (kd_rf _ _ (by decide))) (by decide)) dX7_takeFromParent_4 (by decide) ?_
    refine R.iconst (v := 1) dX7_takeFromParent_7 rfl ?_
    refine R.goto (tgt := 12) dX7_takeFromParent_8 (by decide) ?_
    refine R.istore_n dX7_takeFromParent_12 (Nat.le_of_ble_eq_true rfl) (by decide) (by first | rfl | simp [lft, rf_cat]) rfl ?_
    refine R.iload_n dX7_takeFromParent_13 rfl ?_
    refine R.if_eq (tgt := 22) dX7_takeFromParent_14 (by decide) (fun c => absurd c (by decide)) (fun _ => ?_)
    refine R.aload_n dX7_takeFromParent_17 rfl (by first | rfl | exact rfv_rf _) ?_
    refine R.aload_n dX7_takeFromParent_18 rfl (by first | rfl | exact rfv_rf _) ?_
    refine cl_X7_160 rfl rfl (by first | exact Nat.le_of_ble_eq_true rfl | simp [rf_cat, Value.category]) dX7_takeFromParent_19 ?_
    refine s_yUnnest h hi hA (fun M1 h1 F1 => ?_)
    refine R.iload_n dX7_takeFromParent_22 rfl ?_
    refine WP.ret (ov := some (.int _)) dX7_takeFromParent_23 ⟨rfl, _, rfl, by first | rfl | assumption | exact nar_b01 (by assumption)⟩ ?_
    exact hq _ h1 F1
set_option maxHeartbeats 1000000 in
set_option maxRecDepth 4000 in
theorem s_stSell {d : Nat} {y : Nat} {Y : Yd} {i t : Nat} {M : Mem} {Q : Out → Mem → Prop} (h : Yv M y Y) (hi : i < 16) (hb : t < 6) (hA : Acy Y) (hq : ∀ M', Yv M' y (if yRef Y i t = 0 then ((1, trY Y i t) : Int32 × Yd) else (0, Y)).2 → Fr (inY y) M M' → Q (.inl (some (.int (if yRef Y i t = 0 then ((1, trY Y i t) : Int32 × Yd) else (0, Y)).1))) M') : WPc (d + 4) mX7_sellTo [.ref (rf 0 (6 * y + t)), .ref (rf 1 (16 * y + i)), .ref (rf 9 y)] M Q := by
  refine WPc.of (by decide +kernel) (Nat.le_of_ble_eq_true rfl) rfl ?_
  refine R.aload_n dX7_sellTo_0 rfl (by first | rfl | exact rfv_rf _) ?_
  refine R.ifnullS (tgt := 17) (by first | decide | exact Nat.lt_of_le_of_lt (Nat.le_of_eq (kd_rf _ _ (by decide))) (by decide)) dX7_sellTo_1 (by decide) ?_
  refine R.aload_n dX7_sellTo_4 rfl (by first | rfl | exact rfv_rf _) ?_
  refine R.aload_n dX7_sellTo_5 rfl (by first | rfl | exact rfv_rf _) ?_
  refine R.aload_n dX7_sellTo_6 rfl (by first | rfl | exact rfv_rf _) ?_
  refine cl_X7_164 rfl rfl (by first | exact Nat.le_of_ble_eq_true rfl | simp [rf_cat, Value.category]) dX7_sellTo_7 ?_
  refine s_yRef h hi hb ?_
  refine R.if_ne (tgt := 17) dX7_sellTo_10 (by decide) (fun c10 => ?_) (fun c10 => ?_)
  · refine R.iconst (v := 0) dX7_sellTo_17 rfl ?_
    refine R.istore_n dX7_sellTo_18 (Nat.le_of_ble_eq_true rfl) (by decide) (by first | rfl | simp [lft, rf_cat]) rfl ?_
    refine R.iload_n dX7_sellTo_19 rfl ?_
    refine R.if_eq (tgt := 30) dX7_sellTo_20 (by decide) (fun _ => ?_) (fun c => absurd (by decide) c)
    refine R.iload_n dX7_sellTo_30 rfl ?_
    refine WP.ret (ov := some (.int _)) dX7_sellTo_31 ⟨rfl, _, rfl, by first | rfl | assumption | exact nar_b01 (by assumption)⟩ ?_
    rw [if_neg c10] at hq
    exact hq _ h (Fr.rf _ _)
  · refine R.iconst (v := 1) dX7_sellTo_13 rfl ?_
    refine R.goto (tgt := 18) dX7_sellTo_14 (by decide) ?_
    refine R.istore_n dX7_sellTo_18 (Nat.le_of_ble_eq_true rfl) (by decide) (by first | rfl | simp [lft, rf_cat]) rfl ?_
    refine R.iload_n dX7_sellTo_19 rfl ?_
    refine R.if_eq (tgt := 30) dX7_sellTo_20 (by decide) (fun c => absurd c (by decide)) (fun _ => ?_)
    refine R.aload_n dX7_sellTo_23 rfl (by first | rfl | exact rfv_rf _) ?_
    refine R.aload_n dX7_sellTo_24 rfl (by first | rfl | exact rfv_rf _) ?_
    refine R.aload_n dX7_sellTo_25 rfl (by first | rfl | exact rfv_rf _) ?_
    refine cl_X7_168 rfl rfl (by first | exact Nat.le_of_ble_eq_true rfl | simp [rf_cat, Value.category]) dX7_sellTo_26 ?_
    refine s_yTrade h hi hb hA (fun M1 h1 F1 => ?_)
    refine R.pop dX7_sellTo_29 (by first | rfl | exact rf_cat _) ?_
    refine R.iload_n dX7_sellTo_30 rfl ?_
    refine WP.ret (ov := some (.int _)) dX7_sellTo_31 ⟨rfl, _, rfl, by first | rfl | assumption | exact nar_b01 (by assumption)⟩ ?_
    rw [if_pos c10] at hq
    exact hq _ h1 F1
set_option maxHeartbeats 1000000 in
set_option maxRecDepth 4000 in
theorem exq_0 {d : Nat} {j c t : Nat} {x : Int32} {y : Nat} {Y : Yd} {M : Mem} {Q : Out → Mem → Prop} (h : Yv M y Y) (hS : Sv M j (0, c, t, x)) (hA : Acy Y) (hC : CV Y (0, c, t, x)) (hq : ∀ M', Yv M' y (exY Y (0, c, t, x)).2 → Fr (inY y) M M' → Q (.inl (some (.int (exY Y (0, c, t, x)).1))) M') : WP mX7_execute (d + 6) 11 [.ref (rf 6 j), .ref (rf 9 y), UN] [.int (swM (nI 0).toNatClampNeg)] M Q := by
  rw [show swM (nI 0).toNatClampNeg = 1 by decide +kernel]
  refine R.tableOut (tgt := 68) dX7_execute_11 (by decide) (by decide) ?_
  have hcr : mI M 6 j 1 = nI c := hS.2.2.1 rfl
  have hc : c < 16 ∧ ¬ yF Y 4 ≤ nI c := hC.1 rfl
  refine R.aload_n dX7_execute_68 rfl (by first | rfl | exact rfv_rf _) ?_
  refine R.aload_n dX7_execute_69 rfl (by first | rfl | exact rfv_rf _) ?_
  refine R.getI dX7_execute_70 fl_X7_20 (by decide) rfl ?_
  rw [hcr]
  refine cl_X7_100 rfl rfl (by first | exact Nat.le_of_ble_eq_true rfl | simp [rf_cat, Value.category]) dX7_execute_73 ?_
  refine s_yAtS h hc.1 hc.2 ?_
  refine R.astore_n dX7_execute_76 (by first | rfl | exact rfv_rf _) (Nat.le_of_ble_eq_true rfl) (by decide) (by first | rfl | simp [lft, rf_cat]) rfl ?_
  refine R.aload_n dX7_execute_77 rfl (by first | rfl | exact rfv_rf _) ?_
  refine R.ifnullS (tgt := 88) (by first | decide | exact Nat.lt_of_le_of_lt (Nat.le_of_eq (kd_rf _ _ (by decide))) (by decide)) dX7_execute_78 (by decide) ?_
  refine R.aload_n dX7_execute_81 rfl (by first | rfl | exact rfv_rf _) ?_
  refine R.getI dX7_execute_82 fl_X7_104 (by decide) rfl ?_
  rw [h.rC hc.1]
  refine R.if_ne (tgt := 90) dX7_execute_85 (by decide) (fun c85 => ?_) (fun c85 => ?_)
  · have hr : exY Y (0, c, t, x) = (1, tkN c x.toNatClampNeg Y) := by
      unfold exY
      rw [if_neg (show ¬ (0 : Nat) = 5 by decide), if_neg (show ¬ (0 : Nat) = 7 by decide), if_neg (show ¬ (0 : Nat) = 8 by decide)]
      rw [if_neg (show ¬ yC Y c 7 = 0 from c85)]
      rfl
    rw [hr] at hq
    have hN : mI M 6 j 4 = x := hS.2.2.2.2.2 rfl
    refine R.gsSwitch (gt_i 722 (by decide +kernel) rfl) dX7_execute_90 ?_
    refine R.aload_n dX7_execute_93 rfl (by first | rfl | exact rfv_rf _) ?_
    refine R.getS (show mR M 6 j 0 = some (rf 22 0) from hS.1) dX7_execute_94 fl_X7_15 (by decide) rfl ?_
    refine cl_X7_36 (by decide) rfl rfl (by first | exact Nat.le_of_ble_eq_true rfl | simp [rf_cat, Value.category]) dX7_execute_97 ?_
    refine s_ord (by decide) ?_
    refine R.swIald dX7_execute_100 (nI_pos (by omega)) (by rw [nI_clamp (by omega)]; decide) ?_
    rw [show swM (nI 0).toNatClampNeg = 1 by decide +kernel]
    refine R.tableIn (tgt := 136) dX7_execute_101 (by decide) (by decide) rfl (by decide) ?_
    obtain ⟨k9, hk1, hk2⟩ := hC.2.2.2 rfl
    have hk1 : x = nI k9 := hk1
    subst hk1
    rw [nI_clamp (by omega)] at hq
    refine R.aload_n dX7_execute_136 rfl (by first | rfl | exact rfv_rf _) ?_
    refine R.aload_n dX7_execute_137 rfl (by first | rfl | exact rfv_rf _) ?_
    refine R.getI dX7_execute_138 fl_X7_70 (by decide) rfl ?_
    rw [hN]
    refine R.aload_n dX7_execute_141 rfl (by first | rfl | exact rfv_rf _) ?_
    refine cl_X7_110 rfl rfl (by first | exact Nat.le_of_ble_eq_true rfl | simp [rf_cat, Value.category]) dX7_execute_142 ?_
    refine s_stWeigh h hc.1 hk2 (fun M1 h1 F1 => ?_)
    refine WP.ret (ov := some (.int _)) dX7_execute_145 ⟨rfl, _, rfl, by first | rfl | assumption | exact nar_b01 (by assumption)⟩ ?_
    exact hq _ h1 F1
  · have hr : exY Y (0, c, t, x) = (0, Y) := by
      unfold exY
      rw [if_neg (show ¬ (0 : Nat) = 5 by decide), if_neg (show ¬ (0 : Nat) = 7 by decide), if_neg (show ¬ (0 : Nat) = 8 by decide)]
      exact if_pos c85
    rw [hr] at hq
    refine R.iconst (v := 0) dX7_execute_88 rfl ?_
    refine WP.ret (ov := some (.int _)) dX7_execute_89 ⟨rfl, _, rfl, by first | rfl | assumption | exact nar_b01 (by assumption)⟩ ?_
    exact hq _ h (Fr.rf _ _)
set_option maxHeartbeats 1000000 in
set_option maxRecDepth 4000 in
theorem exq_1 {d : Nat} {j c t : Nat} {x : Int32} {y : Nat} {Y : Yd} {M : Mem} {Q : Out → Mem → Prop} (h : Yv M y Y) (hS : Sv M j (1, c, t, x)) (hA : Acy Y) (hC : CV Y (1, c, t, x)) (hq : ∀ M', Yv M' y (exY Y (1, c, t, x)).2 → Fr (inY y) M M' → Q (.inl (some (.int (exY Y (1, c, t, x)).1))) M') : WP mX7_execute (d + 6) 11 [.ref (rf 6 j), .ref (rf 9 y), UN] [.int (swM (nI 1).toNatClampNeg)] M Q := by
  rw [show swM (nI 1).toNatClampNeg = 2 by decide +kernel]
  refine R.tableOut (tgt := 68) dX7_execute_11 (by decide) (by decide) ?_
  have hcr : mI M 6 j 1 = nI c := hS.2.2.1 rfl
  have hc : c < 16 ∧ ¬ yF Y 4 ≤ nI c := hC.1 rfl
  refine R.aload_n dX7_execute_68 rfl (by first | rfl | exact rfv_rf _) ?_
  refine R.aload_n dX7_execute_69 rfl (by first | rfl | exact rfv_rf _) ?_
  refine R.getI dX7_execute_70 fl_X7_20 (by decide) rfl ?_
  rw [hcr]
  refine cl_X7_100 rfl rfl (by first | exact Nat.le_of_ble_eq_true rfl | simp [rf_cat, Value.category]) dX7_execute_73 ?_
  refine s_yAtS h hc.1 hc.2 ?_
  refine R.astore_n dX7_execute_76 (by first | rfl | exact rfv_rf _) (Nat.le_of_ble_eq_true rfl) (by decide) (by first | rfl | simp [lft, rf_cat]) rfl ?_
  refine R.aload_n dX7_execute_77 rfl (by first | rfl | exact rfv_rf _) ?_
  refine R.ifnullS (tgt := 88) (by first | decide | exact Nat.lt_of_le_of_lt (Nat.le_of_eq (kd_rf _ _ (by decide))) (by decide)) dX7_execute_78 (by decide) ?_
  refine R.aload_n dX7_execute_81 rfl (by first | rfl | exact rfv_rf _) ?_
  refine R.getI dX7_execute_82 fl_X7_104 (by decide) rfl ?_
  rw [h.rC hc.1]
  refine R.if_ne (tgt := 90) dX7_execute_85 (by decide) (fun c85 => ?_) (fun c85 => ?_)
  · have hr : exY Y (1, c, t, x) = (if ¬ yC Y c 7 = 0 ∧ yC Y c 3 + x ≤ 500 then (1, cgY Y c x) else (0, Y)) := by
      unfold exY
      rw [if_neg (show ¬ (1 : Nat) = 5 by decide), if_neg (show ¬ (1 : Nat) = 7 by decide), if_neg (show ¬ (1 : Nat) = 8 by decide)]
      rw [if_neg (show ¬ yC Y c 7 = 0 from c85)]
      rfl
    rw [hr] at hq
    have hN : mI M 6 j 4 = x := hS.2.2.2.2.2 rfl
    refine R.gsSwitch (gt_i 722 (by decide +kernel) rfl) dX7_execute_90 ?_
    refine R.aload_n dX7_execute_93 rfl (by first | rfl | exact rfv_rf _) ?_
    refine R.getS (show mR M 6 j 0 = some (rf 22 1) from hS.1) dX7_execute_94 fl_X7_15 (by decide) rfl ?_
    refine cl_X7_36 (by decide) rfl rfl (by first | exact Nat.le_of_ble_eq_true rfl | simp [rf_cat, Value.category]) dX7_execute_97 ?_
    refine s_ord (by decide) ?_
    refine R.swIald dX7_execute_100 (nI_pos (by omega)) (by rw [nI_clamp (by omega)]; decide) ?_
    rw [show swM (nI 1).toNatClampNeg = 2 by decide +kernel]
    refine R.tableIn (tgt := 146) dX7_execute_101 (by decide) (by decide) rfl (by decide) ?_
    by_cases zc : ¬ yC Y c 7 = 0 ∧ yC Y c 3 + x ≤ 500
    · rw [if_pos zc] at hq
      refine R.aload_n dX7_execute_146 rfl (by first | rfl | exact rfv_rf _) ?_
      refine R.aload_n dX7_execute_147 rfl (by first | rfl | exact rfv_rf _) ?_
      refine R.getI dX7_execute_148 fl_X7_70 (by decide) rfl ?_
      rw [hN]
      refine cl_X7_114 rfl rfl (by first | exact Nat.le_of_ble_eq_true rfl | simp [rf_cat, Value.category]) dX7_execute_151 ?_
      refine s_cTake ?_
      rw [h.rC hc.1, h.rC hc.1]
      rw [if_pos zc]
      refine R.aload_n dX7_execute_154 rfl (by first | rfl | exact rfv_rf _) ?_
      refine R.aload_n dX7_execute_155 rfl (by first | rfl | exact rfv_rf _) ?_
      refine R.getI dX7_execute_156 fl_X7_70 (by decide) rfl ?_
      rw [hN]
      refine R.aload_n dX7_execute_159 rfl (by first | rfl | exact rfv_rf _) ?_
      refine cl_X7_118 rfl rfl (by first | exact Nat.le_of_ble_eq_true rfl | simp [rf_cat, Value.category]) dX7_execute_160 ?_
      refine s_stGoods1 h hc.1 hA (fun M1 h1 F1 => ?_)
      refine WP.ret (ov := some (.int _)) dX7_execute_163 ⟨rfl, _, rfl, by first | rfl | assumption | exact nar_b01 (by assumption)⟩ ?_
      exact hq _ h1 F1
    · rw [if_neg zc] at hq
      refine R.aload_n dX7_execute_146 rfl (by first | rfl | exact rfv_rf _) ?_
      refine R.aload_n dX7_execute_147 rfl (by first | rfl | exact rfv_rf _) ?_
      refine R.getI dX7_execute_148 fl_X7_70 (by decide) rfl ?_
      rw [hN]
      refine cl_X7_114 rfl rfl (by first | exact Nat.le_of_ble_eq_true rfl | simp [rf_cat, Value.category]) dX7_execute_151 ?_
      refine s_cTake ?_
      rw [h.rC hc.1, h.rC hc.1]
      rw [if_neg zc]
      refine R.aload_n dX7_execute_154 rfl (by first | rfl | exact rfv_rf _) ?_
      refine R.aload_n dX7_execute_155 rfl (by first | rfl | exact rfv_rf _) ?_
      refine R.getI dX7_execute_156 fl_X7_70 (by decide) rfl ?_
      rw [hN]
      refine R.aload_n dX7_execute_159 rfl (by first | rfl | exact rfv_rf _) ?_
      refine cl_X7_118 rfl rfl (by first | exact Nat.le_of_ble_eq_true rfl | simp [rf_cat, Value.category]) dX7_execute_160 ?_
      refine s_stGoods0 h (fun M1 h1 F1 => ?_)
      refine WP.ret (ov := some (.int _)) dX7_execute_163 ⟨rfl, _, rfl, by first | rfl | assumption | exact nar_b01 (by assumption)⟩ ?_
      exact hq _ h1 F1
  · have hr : exY Y (1, c, t, x) = (0, Y) := by
      unfold exY
      rw [if_neg (show ¬ (1 : Nat) = 5 by decide), if_neg (show ¬ (1 : Nat) = 7 by decide), if_neg (show ¬ (1 : Nat) = 8 by decide)]
      exact if_pos c85
    rw [hr] at hq
    refine R.iconst (v := 0) dX7_execute_88 rfl ?_
    refine WP.ret (ov := some (.int _)) dX7_execute_89 ⟨rfl, _, rfl, by first | rfl | assumption | exact nar_b01 (by assumption)⟩ ?_
    exact hq _ h (Fr.rf _ _)
set_option maxHeartbeats 1000000 in
set_option maxRecDepth 4000 in
theorem exq_2 {d : Nat} {j c t : Nat} {x : Int32} {y : Nat} {Y : Yd} {M : Mem} {Q : Out → Mem → Prop} (h : Yv M y Y) (hS : Sv M j (2, c, t, x)) (hA : Acy Y) (hC : CV Y (2, c, t, x)) (hq : ∀ M', Yv M' y (exY Y (2, c, t, x)).2 → Fr (inY y) M M' → Q (.inl (some (.int (exY Y (2, c, t, x)).1))) M') : WP mX7_execute (d + 6) 11 [.ref (rf 6 j), .ref (rf 9 y), UN] [.int (swM (nI 2).toNatClampNeg)] M Q := by
  rw [show swM (nI 2).toNatClampNeg = 3 by decide +kernel]
  refine R.tableOut (tgt := 68) dX7_execute_11 (by decide) (by decide) ?_
  have hcr : mI M 6 j 1 = nI c := hS.2.2.1 rfl
  have hc : c < 16 ∧ ¬ yF Y 4 ≤ nI c := hC.1 rfl
  refine R.aload_n dX7_execute_68 rfl (by first | rfl | exact rfv_rf _) ?_
  refine R.aload_n dX7_execute_69 rfl (by first | rfl | exact rfv_rf _) ?_
  refine R.getI dX7_execute_70 fl_X7_20 (by decide) rfl ?_
  rw [hcr]
  refine cl_X7_100 rfl rfl (by first | exact Nat.le_of_ble_eq_true rfl | simp [rf_cat, Value.category]) dX7_execute_73 ?_
  refine s_yAtS h hc.1 hc.2 ?_
  refine R.astore_n dX7_execute_76 (by first | rfl | exact rfv_rf _) (Nat.le_of_ble_eq_true rfl) (by decide) (by first | rfl | simp [lft, rf_cat]) rfl ?_
  refine R.aload_n dX7_execute_77 rfl (by first | rfl | exact rfv_rf _) ?_
  refine R.ifnullS (tgt := 88) (by first | decide | exact Nat.lt_of_le_of_lt (Nat.le_of_eq (kd_rf _ _ (by decide))) (by decide)) dX7_execute_78 (by decide) ?_
  refine R.aload_n dX7_execute_81 rfl (by first | rfl | exact rfv_rf _) ?_
  refine R.getI dX7_execute_82 fl_X7_104 (by decide) rfl ?_
  rw [h.rC hc.1]
  refine R.if_ne (tgt := 90) dX7_execute_85 (by decide) (fun c85 => ?_) (fun c85 => ?_)
  · have hr : exY Y (2, c, t, x) = (if ¬ yC Y c 7 = 0 ∧ x ≤ yC Y c 3 then (1, cgY Y c (-x)) else (0, Y)) := by
      unfold exY
      rw [if_neg (show ¬ (2 : Nat) = 5 by decide), if_neg (show ¬ (2 : Nat) = 7 by decide), if_neg (show ¬ (2 : Nat) = 8 by decide)]
      rw [if_neg (show ¬ yC Y c 7 = 0 from c85)]
      rfl
    rw [hr] at hq
    have hN : mI M 6 j 4 = x := hS.2.2.2.2.2 rfl
    refine R.gsSwitch (gt_i 722 (by decide +kernel) rfl) dX7_execute_90 ?_
    refine R.aload_n dX7_execute_93 rfl (by first | rfl | exact rfv_rf _) ?_
    refine R.getS (show mR M 6 j 0 = some (rf 22 2) from hS.1) dX7_execute_94 fl_X7_15 (by decide) rfl ?_
    refine cl_X7_36 (by decide) rfl rfl (by first | exact Nat.le_of_ble_eq_true rfl | simp [rf_cat, Value.category]) dX7_execute_97 ?_
    refine s_ord (by decide) ?_
    refine R.swIald dX7_execute_100 (nI_pos (by omega)) (by rw [nI_clamp (by omega)]; decide) ?_
    rw [show swM (nI 2).toNatClampNeg = 3 by decide +kernel]
    refine R.tableIn (tgt := 164) dX7_execute_101 (by decide) (by decide) rfl (by decide) ?_
    by_cases zc : ¬ yC Y c 7 = 0 ∧ x ≤ yC Y c 3
    · rw [if_pos zc] at hq
      refine R.aload_n dX7_execute_164 rfl (by first | rfl | exact rfv_rf _) ?_
      refine R.aload_n dX7_execute_165 rfl (by first | rfl | exact rfv_rf _) ?_
      refine R.getI dX7_execute_166 fl_X7_70 (by decide) rfl ?_
      rw [hN]
      refine cl_X7_122 rfl rfl (by first | exact Nat.le_of_ble_eq_true rfl | simp [rf_cat, Value.category]) dX7_execute_169 ?_
      refine s_cGive ?_
      rw [h.rC hc.1, h.rC hc.1]
      rw [if_pos zc]
      refine R.aload_n dX7_execute_172 rfl (by first | rfl | exact rfv_rf _) ?_
      refine R.aload_n dX7_execute_173 rfl (by first | rfl | exact rfv_rf _) ?_
      refine R.getI dX7_execute_174 fl_X7_70 (by decide) rfl ?_
      rw [hN]
      refine R.ineg dX7_execute_177 ?_
      refine R.aload_n dX7_execute_178 rfl (by first | rfl | exact rfv_rf _) ?_
      refine cl_X7_118 rfl rfl (by first | exact Nat.le_of_ble_eq_true rfl | simp [rf_cat, Value.category]) dX7_execute_179 ?_
      refine s_stGoods1 h hc.1 hA (fun M1 h1 F1 => ?_)
      refine WP.ret (ov := some (.int _)) dX7_execute_182 ⟨rfl, _, rfl, by first | rfl | assumption | exact nar_b01 (by assumption)⟩ ?_
      exact hq _ h1 F1
    · rw [if_neg zc] at hq
      refine R.aload_n dX7_execute_164 rfl (by first | rfl | exact rfv_rf _) ?_
      refine R.aload_n dX7_execute_165 rfl (by first | rfl | exact rfv_rf _) ?_
      refine R.getI dX7_execute_166 fl_X7_70 (by decide) rfl ?_
      rw [hN]
      refine cl_X7_122 rfl rfl (by first | exact Nat.le_of_ble_eq_true rfl | simp [rf_cat, Value.category]) dX7_execute_169 ?_
      refine s_cGive ?_
      rw [h.rC hc.1, h.rC hc.1]
      rw [if_neg zc]
      refine R.aload_n dX7_execute_172 rfl (by first | rfl | exact rfv_rf _) ?_
      refine R.aload_n dX7_execute_173 rfl (by first | rfl | exact rfv_rf _) ?_
      refine R.getI dX7_execute_174 fl_X7_70 (by decide) rfl ?_
      rw [hN]
      refine R.ineg dX7_execute_177 ?_
      refine R.aload_n dX7_execute_178 rfl (by first | rfl | exact rfv_rf _) ?_
      refine cl_X7_118 rfl rfl (by first | exact Nat.le_of_ble_eq_true rfl | simp [rf_cat, Value.category]) dX7_execute_179 ?_
      refine s_stGoods0 h (fun M1 h1 F1 => ?_)
      refine WP.ret (ov := some (.int _)) dX7_execute_182 ⟨rfl, _, rfl, by first | rfl | assumption | exact nar_b01 (by assumption)⟩ ?_
      exact hq _ h1 F1
  · have hr : exY Y (2, c, t, x) = (0, Y) := by
      unfold exY
      rw [if_neg (show ¬ (2 : Nat) = 5 by decide), if_neg (show ¬ (2 : Nat) = 7 by decide), if_neg (show ¬ (2 : Nat) = 8 by decide)]
      exact if_pos c85
    rw [hr] at hq
    refine R.iconst (v := 0) dX7_execute_88 rfl ?_
    refine WP.ret (ov := some (.int _)) dX7_execute_89 ⟨rfl, _, rfl, by first | rfl | assumption | exact nar_b01 (by assumption)⟩ ?_
    exact hq _ h (Fr.rf _ _)
set_option maxHeartbeats 1000000 in
set_option maxRecDepth 4000 in
theorem exq_3 {d : Nat} {j c t : Nat} {x : Int32} {y : Nat} {Y : Yd} {M : Mem} {Q : Out → Mem → Prop} (h : Yv M y Y) (hS : Sv M j (3, c, t, x)) (hA : Acy Y) (hC : CV Y (3, c, t, x)) (hq : ∀ M', Yv M' y (exY Y (3, c, t, x)).2 → Fr (inY y) M M' → Q (.inl (some (.int (exY Y (3, c, t, x)).1))) M') : WP mX7_execute (d + 6) 11 [.ref (rf 6 j), .ref (rf 9 y), UN] [.int (swM (nI 3).toNatClampNeg)] M Q := by
  rw [show swM (nI 3).toNatClampNeg = 4 by decide +kernel]
  refine R.tableOut (tgt := 68) dX7_execute_11 (by decide) (by decide) ?_
  have hcr : mI M 6 j 1 = nI c := hS.2.2.1 rfl
  have hc : c < 16 ∧ ¬ yF Y 4 ≤ nI c := hC.1 rfl
  refine R.aload_n dX7_execute_68 rfl (by first | rfl | exact rfv_rf _) ?_
  refine R.aload_n dX7_execute_69 rfl (by first | rfl | exact rfv_rf _) ?_
  refine R.getI dX7_execute_70 fl_X7_20 (by decide) rfl ?_
  rw [hcr]
  refine cl_X7_100 rfl rfl (by first | exact Nat.le_of_ble_eq_true rfl | simp [rf_cat, Value.category]) dX7_execute_73 ?_
  refine s_yAtS h hc.1 hc.2 ?_
  refine R.astore_n dX7_execute_76 (by first | rfl | exact rfv_rf _) (Nat.le_of_ble_eq_true rfl) (by decide) (by first | rfl | simp [lft, rf_cat]) rfl ?_
  refine R.aload_n dX7_execute_77 rfl (by first | rfl | exact rfv_rf _) ?_
  refine R.ifnullS (tgt := 88) (by first | decide | exact Nat.lt_of_le_of_lt (Nat.le_of_eq (kd_rf _ _ (by decide))) (by decide)) dX7_execute_78 (by decide) ?_
  refine R.aload_n dX7_execute_81 rfl (by first | rfl | exact rfv_rf _) ?_
  refine R.getI dX7_execute_82 fl_X7_104 (by decide) rfl ?_
  rw [h.rC hc.1]
  refine R.if_ne (tgt := 90) dX7_execute_85 (by decide) (fun c85 => ?_) (fun c85 => ?_)
  · have hr : exY Y (3, c, t, x) = (if yCan Y c t = 0 then (0, Y) else (1, neY Y c t)) := by
      unfold exY
      rw [if_neg (show ¬ (3 : Nat) = 5 by decide), if_neg (show ¬ (3 : Nat) = 7 by decide), if_neg (show ¬ (3 : Nat) = 8 by decide)]
      rw [if_neg (show ¬ yC Y c 7 = 0 from c85)]
      rfl
    rw [hr] at hq
    refine R.gsSwitch (gt_i 722 (by decide +kernel) rfl) dX7_execute_90 ?_
    refine R.aload_n dX7_execute_93 rfl (by first | rfl | exact rfv_rf _) ?_
    refine R.getS (show mR M 6 j 0 = some (rf 22 3) from hS.1) dX7_execute_94 fl_X7_15 (by decide) rfl ?_
    refine cl_X7_36 (by decide) rfl rfl (by first | exact Nat.le_of_ble_eq_true rfl | simp [rf_cat, Value.category]) dX7_execute_97 ?_
    refine s_ord (by decide) ?_
    refine R.swIald dX7_execute_100 (nI_pos (by omega)) (by rw [nI_clamp (by omega)]; decide) ?_
    rw [show swM (nI 3).toNatClampNeg = 4 by decide +kernel]
    refine R.tableIn (tgt := 183) dX7_execute_101 (by decide) (by decide) rfl (by decide) ?_
    have ht : t < 16 ∧ ¬ yF Y 4 ≤ nI t := hC.2.1 rfl
    have hto : mI M 6 j 2 = nI t := hS.2.2.2.1 rfl
    refine R.aload_n dX7_execute_183 rfl (by first | rfl | exact rfv_rf _) ?_
    refine R.aload_n dX7_execute_184 rfl (by first | rfl | exact rfv_rf _) ?_
    refine R.getI dX7_execute_185 fl_X7_24 (by decide) rfl ?_
    rw [hto]
    refine cl_X7_100 rfl rfl (by first | exact Nat.le_of_ble_eq_true rfl | simp [rf_cat, Value.category]) dX7_execute_188 ?_
    refine s_yAtS h ht.1 ht.2 ?_
    refine R.aload_n dX7_execute_191 rfl (by first | rfl | exact rfv_rf _) ?_
    refine R.aload_n dX7_execute_192 rfl (by first | rfl | exact rfv_rf _) ?_
    refine cl_X7_125 rfl rfl (by first | exact Nat.le_of_ble_eq_true rfl | simp [rf_cat, Value.category]) dX7_execute_193 ?_
    refine s_stMove h hc.1 ht.1 hA (fun M1 h1 F1 => ?_)
    refine WP.ret (ov := some (.int _)) dX7_execute_196 ⟨rfl, _, rfl, nar_b01 (by split; exact Or.inl rfl; exact Or.inr rfl)⟩ ?_
    exact hq _ h1 F1
  · have hr : exY Y (3, c, t, x) = (0, Y) := by
      unfold exY
      rw [if_neg (show ¬ (3 : Nat) = 5 by decide), if_neg (show ¬ (3 : Nat) = 7 by decide), if_neg (show ¬ (3 : Nat) = 8 by decide)]
      exact if_pos c85
    rw [hr] at hq
    refine R.iconst (v := 0) dX7_execute_88 rfl ?_
    refine WP.ret (ov := some (.int _)) dX7_execute_89 ⟨rfl, _, rfl, by first | rfl | assumption | exact nar_b01 (by assumption)⟩ ?_
    exact hq _ h (Fr.rf _ _)
set_option maxHeartbeats 1000000 in
set_option maxRecDepth 4000 in
theorem exq_4 {d : Nat} {j c t : Nat} {x : Int32} {y : Nat} {Y : Yd} {M : Mem} {Q : Out → Mem → Prop} (h : Yv M y Y) (hS : Sv M j (4, c, t, x)) (hA : Acy Y) (hC : CV Y (4, c, t, x)) (hq : ∀ M', Yv M' y (exY Y (4, c, t, x)).2 → Fr (inY y) M M' → Q (.inl (some (.int (exY Y (4, c, t, x)).1))) M') : WP mX7_execute (d + 6) 11 [.ref (rf 6 j), .ref (rf 9 y), UN] [.int (swM (nI 4).toNatClampNeg)] M Q := by
  rw [show swM (nI 4).toNatClampNeg = 5 by decide +kernel]
  refine R.tableOut (tgt := 68) dX7_execute_11 (by decide) (by decide) ?_
  have hcr : mI M 6 j 1 = nI c := hS.2.2.1 rfl
  have hc : c < 16 ∧ ¬ yF Y 4 ≤ nI c := hC.1 rfl
  refine R.aload_n dX7_execute_68 rfl (by first | rfl | exact rfv_rf _) ?_
  refine R.aload_n dX7_execute_69 rfl (by first | rfl | exact rfv_rf _) ?_
  refine R.getI dX7_execute_70 fl_X7_20 (by decide) rfl ?_
  rw [hcr]
  refine cl_X7_100 rfl rfl (by first | exact Nat.le_of_ble_eq_true rfl | simp [rf_cat, Value.category]) dX7_execute_73 ?_
  refine s_yAtS h hc.1 hc.2 ?_
  refine R.astore_n dX7_execute_76 (by first | rfl | exact rfv_rf _) (Nat.le_of_ble_eq_true rfl) (by decide) (by first | rfl | simp [lft, rf_cat]) rfl ?_
  refine R.aload_n dX7_execute_77 rfl (by first | rfl | exact rfv_rf _) ?_
  refine R.ifnullS (tgt := 88) (by first | decide | exact Nat.lt_of_le_of_lt (Nat.le_of_eq (kd_rf _ _ (by decide))) (by decide)) dX7_execute_78 (by decide) ?_
  refine R.aload_n dX7_execute_81 rfl (by first | rfl | exact rfv_rf _) ?_
  refine R.getI dX7_execute_82 fl_X7_104 (by decide) rfl ?_
  rw [h.rC hc.1]
  refine R.if_ne (tgt := 90) dX7_execute_85 (by decide) (fun c85 => ?_) (fun c85 => ?_)
  · have hr : exY Y (4, c, t, x) = (match yP Y c with | none => (0, Y) | some _ => (1, unY Y c)) := by
      unfold exY
      rw [if_neg (show ¬ (4 : Nat) = 5 by decide), if_neg (show ¬ (4 : Nat) = 7 by decide), if_neg (show ¬ (4 : Nat) = 8 by decide)]
      rw [if_neg (show ¬ yC Y c 7 = 0 from c85)]
      rfl
    rw [hr] at hq
    refine R.gsSwitch (gt_i 722 (by decide +kernel) rfl) dX7_execute_90 ?_
    refine R.aload_n dX7_execute_93 rfl (by first | rfl | exact rfv_rf _) ?_
    refine R.getS (show mR M 6 j 0 = some (rf 22 4) from hS.1) dX7_execute_94 fl_X7_15 (by decide) rfl ?_
    refine cl_X7_36 (by decide) rfl rfl (by first | exact Nat.le_of_ble_eq_true rfl | simp [rf_cat, Value.category]) dX7_execute_97 ?_
    refine s_ord (by decide) ?_
    refine R.swIald dX7_execute_100 (nI_pos (by omega)) (by rw [nI_clamp (by omega)]; decide) ?_
    rw [show swM (nI 4).toNatClampNeg = 5 by decide +kernel]
    refine R.tableIn (tgt := 197) dX7_execute_101 (by decide) (by decide) rfl (by decide) ?_
    refine R.aload_n dX7_execute_197 rfl (by first | rfl | exact rfv_rf _) ?_
    refine R.aload_n dX7_execute_198 rfl (by first | rfl | exact rfv_rf _) ?_
    refine cl_X7_129 rfl rfl (by first | exact Nat.le_of_ble_eq_true rfl | simp [rf_cat, Value.category]) dX7_execute_199 ?_
    refine s_stOut h hc.1 hA (fun M1 h1 F1 => ?_)
    refine WP.ret (ov := some (.int _)) dX7_execute_202 ⟨rfl, _, rfl, nar_b01 (by split; exact Or.inl rfl; exact Or.inr rfl)⟩ ?_
    exact hq _ h1 F1
  · have hr : exY Y (4, c, t, x) = (0, Y) := by
      unfold exY
      rw [if_neg (show ¬ (4 : Nat) = 5 by decide), if_neg (show ¬ (4 : Nat) = 7 by decide), if_neg (show ¬ (4 : Nat) = 8 by decide)]
      exact if_pos c85
    rw [hr] at hq
    refine R.iconst (v := 0) dX7_execute_88 rfl ?_
    refine WP.ret (ov := some (.int _)) dX7_execute_89 ⟨rfl, _, rfl, by first | rfl | assumption | exact nar_b01 (by assumption)⟩ ?_
    exact hq _ h (Fr.rf _ _)
set_option maxHeartbeats 1000000 in
set_option maxRecDepth 4000 in
theorem exq_5 {d : Nat} {j c t : Nat} {x : Int32} {y : Nat} {Y : Yd} {M : Mem} {Q : Out → Mem → Prop} (h : Yv M y Y) (hS : Sv M j (5, c, t, x)) (hA : Acy Y) (hC : CV Y (5, c, t, x)) (hq : ∀ M', Yv M' y (exY Y (5, c, t, x)).2 → Fr (inY y) M M' → Q (.inl (some (.int (exY Y (5, c, t, x)).1))) M') : WP mX7_execute (d + 6) 11 [.ref (rf 6 j), .ref (rf 9 y), UN] [.int (swM (nI 5).toNatClampNeg)] M Q := by
  rw [show swM (nI 5).toNatClampNeg = 9 by decide +kernel]
  refine R.tableIn (tgt := 36) dX7_execute_11 (by decide) (by decide) rfl (by decide) ?_
  refine R.aload_n dX7_execute_36 rfl (by first | rfl | exact rfv_rf _) ?_
  refine cl_X7_83 rfl rfl (by first | exact Nat.le_of_ble_eq_true rfl | simp [rf_cat, Value.category]) dX7_execute_37 ?_
  refine s_ySpring h (fun M1 h1 F1 => ?_)
  refine R.iconst (v := 1) dX7_execute_40 rfl ?_
  refine WP.ret (ov := some (.int _)) dX7_execute_41 ⟨rfl, _, rfl, by first | rfl | assumption | exact nar_b01 (by assumption)⟩ ?_
  exact hq _ h1 F1
set_option maxHeartbeats 1000000 in
set_option maxRecDepth 4000 in
theorem exq_6 {d : Nat} {j c t : Nat} {x : Int32} {y : Nat} {Y : Yd} {M : Mem} {Q : Out → Mem → Prop} (h : Yv M y Y) (hS : Sv M j (6, c, t, x)) (hA : Acy Y) (hC : CV Y (6, c, t, x)) (hq : ∀ M', Yv M' y (exY Y (6, c, t, x)).2 → Fr (inY y) M M' → Q (.inl (some (.int (exY Y (6, c, t, x)).1))) M') : WP mX7_execute (d + 6) 11 [.ref (rf 6 j), .ref (rf 9 y), UN] [.int (swM (nI 6).toNatClampNeg)] M Q := by
  rw [show swM (nI 6).toNatClampNeg = 6 by decide +kernel]
  refine R.tableOut (tgt := 68) dX7_execute_11 (by decide) (by decide) ?_
  have hcr : mI M 6 j 1 = nI c := hS.2.2.1 rfl
  have hc : c < 16 ∧ ¬ yF Y 4 ≤ nI c := hC.1 rfl
  refine R.aload_n dX7_execute_68 rfl (by first | rfl | exact rfv_rf _) ?_
  refine R.aload_n dX7_execute_69 rfl (by first | rfl | exact rfv_rf _) ?_
  refine R.getI dX7_execute_70 fl_X7_20 (by decide) rfl ?_
  rw [hcr]
  refine cl_X7_100 rfl rfl (by first | exact Nat.le_of_ble_eq_true rfl | simp [rf_cat, Value.category]) dX7_execute_73 ?_
  refine s_yAtS h hc.1 hc.2 ?_
  refine R.astore_n dX7_execute_76 (by first | rfl | exact rfv_rf _) (Nat.le_of_ble_eq_true rfl) (by decide) (by first | rfl | simp [lft, rf_cat]) rfl ?_
  refine R.aload_n dX7_execute_77 rfl (by first | rfl | exact rfv_rf _) ?_
  refine R.ifnullS (tgt := 88) (by first | decide | exact Nat.lt_of_le_of_lt (Nat.le_of_eq (kd_rf _ _ (by decide))) (by decide)) dX7_execute_78 (by decide) ?_
  refine R.aload_n dX7_execute_81 rfl (by first | rfl | exact rfv_rf _) ?_
  refine R.getI dX7_execute_82 fl_X7_104 (by decide) rfl ?_
  rw [h.rC hc.1]
  refine R.if_ne (tgt := 90) dX7_execute_85 (by decide) (fun c85 => ?_) (fun c85 => ?_)
  · have hr : exY Y (6, c, t, x) = (if yRef Y c t = 0 then (1, trY Y c t) else (0, Y)) := by
      unfold exY
      rw [if_neg (show ¬ (6 : Nat) = 5 by decide), if_neg (show ¬ (6 : Nat) = 7 by decide), if_neg (show ¬ (6 : Nat) = 8 by decide)]
      rw [if_neg (show ¬ yC Y c 7 = 0 from c85)]
      rfl
    rw [hr] at hq
    refine R.gsSwitch (gt_i 722 (by decide +kernel) rfl) dX7_execute_90 ?_
    refine R.aload_n dX7_execute_93 rfl (by first | rfl | exact rfv_rf _) ?_
    refine R.getS (show mR M 6 j 0 = some (rf 22 6) from hS.1) dX7_execute_94 fl_X7_15 (by decide) rfl ?_
    refine cl_X7_36 (by decide) rfl rfl (by first | exact Nat.le_of_ble_eq_true rfl | simp [rf_cat, Value.category]) dX7_execute_97 ?_
    refine s_ord (by decide) ?_
    refine R.swIald dX7_execute_100 (nI_pos (by omega)) (by rw [nI_clamp (by omega)]; decide) ?_
    rw [show swM (nI 6).toNatClampNeg = 6 by decide +kernel]
    refine R.tableOut (tgt := 203) dX7_execute_101 (by decide) (by decide) ?_
    have ht : t < 6 ∧ ¬ yF Y 5 ≤ nI t := hC.2.2.1 rfl
    have hto : mI M 6 j 3 = nI t := hS.2.2.2.2.1 rfl
    refine R.aload_n dX7_execute_203 rfl (by first | rfl | exact rfv_rf _) ?_
    refine R.aload_n dX7_execute_204 rfl (by first | rfl | exact rfv_rf _) ?_
    refine R.getI dX7_execute_205 fl_X7_27 (by decide) rfl ?_
    rw [hto]
    refine cl_X7_133 rfl rfl (by first | exact Nat.le_of_ble_eq_true rfl | simp [rf_cat, Value.category]) dX7_execute_208 ?_
    refine s_yBatS h ht.1 ht.2 ?_
    refine R.aload_n dX7_execute_211 rfl (by first | rfl | exact rfv_rf _) ?_
    refine R.aload_n dX7_execute_212 rfl (by first | rfl | exact rfv_rf _) ?_
    refine cl_X7_137 rfl rfl (by first | exact Nat.le_of_ble_eq_true rfl | simp [rf_cat, Value.category]) dX7_execute_213 ?_
    refine s_stSell h hc.1 ht.1 hA (fun M1 h1 F1 => ?_)
    refine WP.ret (ov := some (.int _)) dX7_execute_216 ⟨rfl, _, rfl, nar_b01 (by split; exact Or.inr rfl; exact Or.inl rfl)⟩ ?_
    exact hq _ h1 F1
  · have hr : exY Y (6, c, t, x) = (0, Y) := by
      unfold exY
      rw [if_neg (show ¬ (6 : Nat) = 5 by decide), if_neg (show ¬ (6 : Nat) = 7 by decide), if_neg (show ¬ (6 : Nat) = 8 by decide)]
      exact if_pos c85
    rw [hr] at hq
    refine R.iconst (v := 0) dX7_execute_88 rfl ?_
    refine WP.ret (ov := some (.int _)) dX7_execute_89 ⟨rfl, _, rfl, by first | rfl | assumption | exact nar_b01 (by assumption)⟩ ?_
    exact hq _ h (Fr.rf _ _)
set_option maxHeartbeats 1000000 in
set_option maxRecDepth 4000 in
theorem exq_7 {d : Nat} {j c t : Nat} {x : Int32} {y : Nat} {Y : Yd} {M : Mem} {Q : Out → Mem → Prop} (h : Yv M y Y) (hS : Sv M j (7, c, t, x)) (hA : Acy Y) (hC : CV Y (7, c, t, x)) (hq : ∀ M', Yv M' y (exY Y (7, c, t, x)).2 → Fr (inY y) M M' → Q (.inl (some (.int (exY Y (7, c, t, x)).1))) M') : WP mX7_execute (d + 6) 11 [.ref (rf 6 j), .ref (rf 9 y), UN] [.int (swM (nI 7).toNatClampNeg)] M Q := by
  have hN : mI M 6 j 4 = x := hS.2.2.2.2.2 rfl
  rw [show swM (nI 7).toNatClampNeg = 7 by decide +kernel]
  refine R.tableIn (tgt := 42) dX7_execute_11 (by decide) (by decide) rfl (by decide) ?_
  refine R.aload_n dX7_execute_42 rfl (by first | rfl | exact rfv_rf _) ?_
  refine R.getS (lay2 h.lay) dX7_execute_43 fl_X7_88 (by decide) rfl ?_
  refine R.aload_n dX7_execute_46 rfl (by first | rfl | exact rfv_rf _) ?_
  refine R.getI dX7_execute_47 fl_X7_70 (by decide) rfl ?_
  rw [hN]
  refine R.putI dX7_execute_50 fl_X7_92 (fun q hq => by cases hq; exact Or.inl rfl) (by decide) rfl rfl rfl ?_
  refine R.iconst (v := 1) dX7_execute_53 rfl ?_
  refine WP.ret (ov := some (.int _)) dX7_execute_54 ⟨rfl, _, rfl, by first | rfl | assumption | exact nar_b01 (by assumption)⟩ ?_
  exact hq _ (Yv.tS h (by decide) (fun _ => rfl)) (Fr.sI (Fr.rf _ _) inY_S)
set_option maxHeartbeats 1000000 in
set_option maxRecDepth 4000 in
theorem exq_8 {d : Nat} {j c t : Nat} {x : Int32} {y : Nat} {Y : Yd} {M : Mem} {Q : Out → Mem → Prop} (h : Yv M y Y) (hS : Sv M j (8, c, t, x)) (hA : Acy Y) (hC : CV Y (8, c, t, x)) (hq : ∀ M', Yv M' y (exY Y (8, c, t, x)).2 → Fr (inY y) M M' → Q (.inl (some (.int (exY Y (8, c, t, x)).1))) M') : WP mX7_execute (d + 6) 11 [.ref (rf 6 j), .ref (rf 9 y), UN] [.int (swM (nI 8).toNatClampNeg)] M Q := by
  have hN : mI M 6 j 4 = x := hS.2.2.2.2.2 rfl
  rw [show swM (nI 8).toNatClampNeg = 8 by decide +kernel]
  refine R.tableIn (tgt := 55) dX7_execute_11 (by decide) (by decide) rfl (by decide) ?_
  refine R.aload_n dX7_execute_55 rfl (by first | rfl | exact rfv_rf _) ?_
  refine R.getS (lay2 h.lay) dX7_execute_56 fl_X7_88 (by decide) rfl ?_
  refine R.aload_n dX7_execute_59 rfl (by first | rfl | exact rfv_rf _) ?_
  refine R.getI dX7_execute_60 fl_X7_70 (by decide) rfl ?_
  rw [hN]
  refine R.putI dX7_execute_63 fl_X7_97 (fun q hq => by cases hq; exact Or.inl rfl) (by decide) rfl rfl rfl ?_
  refine R.iconst (v := 1) dX7_execute_66 rfl ?_
  refine WP.ret (ov := some (.int _)) dX7_execute_67 ⟨rfl, _, rfl, by first | rfl | assumption | exact nar_b01 (by assumption)⟩ ?_
  exact hq _ (Yv.tS h (by decide) (fun _ => rfl)) (Fr.sI (Fr.rf _ _) inY_S)
set_option maxHeartbeats 1000000 in
set_option maxRecDepth 4000 in
theorem s_stEx {d : Nat} {j v c t : Nat} {x : Int32} {y : Nat} {Y : Yd} {M : Mem} {Q : Out → Mem → Prop} (h : Yv M y Y) (hS : Sv M j (v, c, t, x)) (hA : Acy Y) (hC : CV Y (v, c, t, x)) (hq : ∀ M', Yv M' y (exY Y (v, c, t, x)).2 → Fr (inY y) M M' → Q (.inl (some (.int (exY Y (v, c, t, x)).1))) M') : WPc (d + 6) mX7_execute [.ref (rf 6 j), .ref (rf 9 y)] M Q := by
  refine WPc.of (by decide +kernel) (Nat.le_of_ble_eq_true rfl) rfl ?_
  have hv : v < 9 := hS.2.1
  refine R.gsSwitch (gt_i 722 (by decide +kernel) rfl) dX7_execute_0 ?_
  refine R.aload_n dX7_execute_3 rfl (by first | rfl | exact rfv_rf _) ?_
  refine R.getS (hS.1) dX7_execute_4 fl_X7_15 (by decide) rfl ?_
  refine cl_X7_36 hv rfl rfl (by first | exact Nat.le_of_ble_eq_true rfl | simp [rf_cat, Value.category]) dX7_execute_7 ?_
  refine s_ord hv ?_
  refine R.swIald dX7_execute_10 (nI_pos (by omega)) (by rw [nI_clamp (by omega)]; exact hv) ?_
  rcases (show v = 0 ∨ v = 1 ∨ v = 2 ∨ v = 3 ∨ v = 4 ∨ v = 5 ∨ v = 6 ∨ v = 7 ∨ v = 8 by omega) with rfl | rfl | rfl | rfl | rfl | rfl | rfl | rfl | rfl
  · exact exq_0 h hS hA hC hq
  · exact exq_1 h hS hA hC hq
  · exact exq_2 h hS hA hC hq
  · exact exq_3 h hS hA hC hq
  · exact exq_4 h hS hA hC hq
  · exact exq_5 h hS hA hC hq
  · exact exq_6 h hS hA hC hq
  · exact exq_7 h hS hA hC hq
  · exact exq_8 h hS hA hC hq
