/-! the model's changes -/
theorem uC_uC (Y : Yd) {i f j g : Nat} (v x : Int32) (h : ¬ (i = j ∧ f = g)) : uC (uC Y i f v) j g x = uC (uC Y j g x) i f v := by
  refine Prod.ext ?_ rfl
  funext a b
  show (if a = j ∧ b = g then x else if a = i ∧ b = f then v else Y.1 a b) = (if a = i ∧ b = f then v else if a = j ∧ b = g then x else Y.1 a b)
  by_cases z1 : a = j ∧ b = g
  · rw [if_pos z1, if_neg (fun q => h ⟨q.1.symm.trans z1.1, q.2.symm.trans z1.2⟩), if_pos z1]
  · rw [if_neg z1, if_neg z1]
theorem uC_uL (Y : Yd) (i f j g : Nat) (v : Int32) (x : Int64) : uC (uL Y j g x) i f v = uL (uC Y i f v) j g x := rfl
theorem dsc3 (Y : Yd) (i j : Nat) (v : Int32) : dscY (uC Y i 3 v) j = uC (dscY Y j) i 3 v := by
  unfold dscY
  rw [uC_uC Y (i := i) (f := 3) (j := j) (g := 8) v 0 (by omega)]
  rw [← uC_uL, ← uC_uL]
  rw [uC_uC _ (i := i) (f := 3) (j := j) (g := 11) v 0 (by omega), uC_uC _ (i := i) (f := 3) (j := j) (g := 12) v 0 (by omega)]
theorem awC3 (Y : Yd) (i j : Nat) (v x : Int32) : awC (uC Y i 3 v) j x = uC (awC Y j x) i 3 v := by
  unfold awC
  have e4 : yC (uC Y i 3 v) j 4 = yC Y j 4 := if_neg (by omega)
  have e8 : yC (uC Y i 3 v) j 8 = yC Y j 8 := if_neg (by omega)
  rw [e4, e8, uC_uC Y (i := i) (f := 3) (j := j) (g := 4) v _ (by omega)]
  exact dsc3 (uT (uC Y j 4 (yC Y j 4 + x)) 1 (yT Y 1 + yC Y j 8)) i j v
theorem awO3 (i : Nat) (v x : Int32) : ∀ (n : Nat) (Y : Yd) (o : Option Nat), awO n (uC Y i 3 v) o x = uC (awO n Y o x) i 3 v := by
  intro n
  induction n with
  | zero => intro Y o; rfl
  | succ n ih =>
    intro Y o
    cases o with
    | none => rfl
    | some j =>
      show awO n (awC (uC Y i 3 v) j x) (yP Y j) x = uC (awO n (awC Y j x) (yP Y j) x) i 3 v
      rw [awC3, ih]
theorem awC_3 (Y : Yd) (j i : Nat) (x : Int32) : yC (awC Y j x) i 3 = yC Y i 3 := by
  show (if i = j ∧ 3 = 12 then 0 else if i = j ∧ 3 = 11 then 0 else if i = j ∧ 3 = 8 then 0 else if i = j ∧ 3 = 4 then _ else yC Y i 3) = _
  rw [if_neg (by omega), if_neg (by omega), if_neg (by omega), if_neg (by omega)]
theorem awO_3 (x : Int32) (i : Nat) : ∀ (n : Nat) (Y : Yd) (o : Option Nat), yC (awO n Y o x) i 3 = yC Y i 3 := by
  intro n
  induction n with
  | zero => intro Y o; rfl
  | succ n ih =>
    intro Y o
    cases o with
    | none => rfl
    | some j =>
      show yC (awO n (awC Y j x) (yP Y j) x) i 3 = _
      rw [ih, awC_3]
theorem yP_awO9 (x : Int32) : ∀ (n : Nat) (Y : Yd) (o : Option Nat), yP (awO n Y o x) = yP Y := by
  intro n
  induction n with
  | zero => intro Y o; rfl
  | succ n ih =>
    intro Y o
    cases o with
    | none => rfl
    | some j =>
      show yP (awO n (awC Y j x) (yP Y j) x) = _
      rw [ih]; rfl
theorem awO_st (x : Int32) : ∀ (n : Nat) (Y : Yd) (o : Option Nat), acyO n (yP Y) o → awO (n + 1) Y o x = awO n Y o x := by
  intro n
  induction n with
  | zero => intro Y o h; cases h; rfl
  | succ n ih =>
    intro Y o h
    cases o with
    | none => rfl
    | some j =>
      show awO (n + 1) (awC Y j x) (yP Y j) x = awO n (awC Y j x) (yP Y j) x
      exact ih _ _ h
set_option maxHeartbeats 1000000 in
set_option maxRecDepth 4000 in
theorem m_adds {d : Nat} {w : Nat → Int32} {M : Mem} {Q : Out → Mem → Prop} {c b K m : Nat} {Y : Yd} {x : Int32} (hL : ML M) (h : RW Y m b K w) (hc : c < m) (hA : Acy Y) (hG : LG (cgY Y c x)) (hq : ∀ w', RW (cgY Y c x) m b K w' → Q (.inl (some (.int (yC (cgY Y c x) c 4)))) (sW M w')) : WPc (d + 9) mX13_addsGoods [.ref (rf 11 0), .int (nI c), .int x] (sW M w) Q := by
  refine WPc.of (by decide +kernel) (Nat.le_of_ble_eq_true rfl) rfl ?_
  have hA1 : Acy (awC Y c x) := hA
  have e9 : uC (awO 5 (awC Y c x) (yP (awC Y c x) c) x) c 3 (yC (awO 5 (awC Y c x) (yP (awC Y c x) c) x) c 3 + x) = cgY Y c x := by
    have e : awO 5 (awC Y c x) (yP (awC Y c x) c) x = awO 6 Y (some c) x := rfl
    rw [e, awO_3]
    exact (awO3 c (yC Y c 3 + x) x 6 Y (some c)).symm
  have hA9 : Acy (cgY Y c x) := by
    have e : yP (cgY Y c x) = yP Y := by
      show yP (awO 6 (uC Y c 3 (yC Y c 3 + x)) (some c) x) = _
      rw [yP_awO9]; rfl
    unfold Acy; rw [e]; exact hA
  refine R.aload_n dX13_addsGoods_0 rfl (by first | rfl | exact rfv_rf _) ?_
  refine R.iload_n dX13_addsGoods_1 rfl ?_
  refine cl_X13_120 rfl rfl (by first | exact Nat.le_of_ble_eq_true rfl | simp [rf_cat, Value.category]) dX13_addsGoods_2 ?_
  refine m_disc (x := x) hL h (by have := h.t.le; omega) (fun w1 h1 => ?_)
  refine R.aload_n dX13_addsGoods_5 rfl (by first | rfl | exact rfv_rf _) ?_
  refine R.iload_n dX13_addsGoods_6 rfl ?_
  refine cl_X13_144 rfl rfl (by first | exact Nat.le_of_ble_eq_true rfl | simp [rf_cat, Value.category]) dX13_addsGoods_7 ?_
  refine m_above (x := x) hL h1 hA1 hc (fun w2 h2 => ?_)
  refine R.aload_n dX13_addsGoods_10 rfl (by first | rfl | exact rfv_rf _) ?_
  refine R.iload_n dX13_addsGoods_11 rfl ?_
  refine R.bipush (v := nI 8) dX13_addsGoods_12 (by decide) ?_
  refine R.iload_n dX13_addsGoods_14 rfl ?_
  refine cl_X13_114 rfl rfl (by first | exact Nat.le_of_ble_eq_true rfl | simp [rf_cat, Value.category]) dX13_addsGoods_15 ?_
  refine m_grows hL (by have := h.t.le; omega) (by omega) ?_
  have h3 := h2.gd (v := w2 (16 + 18 * c + 8) + x) (by have := h.t.le; omega : c < 16)
  rw [(h2.g (by have := h.t.le; omega : c < 16)).2.1] at h3 ⊢
  rw [e9] at h3
  refine R.aload_n dX13_addsGoods_18 rfl (by first | rfl | exact rfv_rf _) ?_
  refine R.iload_n dX13_addsGoods_19 rfl ?_
  refine cl_X13_82 rfl rfl (by first | exact Nat.le_of_ble_eq_true rfl | simp [rf_cat, Value.category]) dX13_addsGoods_20 ?_
  refine m_gr (d := d) hL h3 hG hA9 (by have := h.t.le; omega) ?_
  refine WP.ret (ov := some (.int _)) dX13_addsGoods_23 ⟨rfl, _, rfl, by first | rfl | assumption | exact nar_b01 (by assumption)⟩ ?_
  exact hq _ h3
set_option maxHeartbeats 1000000 in
set_option maxRecDepth 4000 in
theorem m_takes {d : Nat} {w : Nat → Int32} {M : Mem} {Q : Out → Mem → Prop} {c b K m o : Nat} {Y : Yd} (hL : ML M) (h : RW Y m b K w) (hc : c < m) (hp : yP Y c = some o) (hA : Acy Y) (hA9 : Acy (unY Y c)) (hG : LG (unY Y c)) (hq : ∀ w', RW (unY Y c) m b K w' → Q (.inl (some (.int (yC (unY Y c) o 4)))) (sW M w')) : WPc (d + 9) mX13_takesOut [.ref (rf 11 0), .int (nI c)] (sW M w) Q := by
  refine WPc.of (by decide +kernel) (Nat.le_of_ble_eq_true rfl) rfl ?_
  refine R.aload_n dX13_takesOut_0 rfl (by first | rfl | exact rfv_rf _) ?_
  refine R.iload_n dX13_takesOut_1 rfl ?_
  refine R.bipush (v := nI 9) dX13_takesOut_2 (by decide) ?_
  refine cl_X13_68 rfl rfl (by first | exact Nat.le_of_ble_eq_true rfl | simp [rf_cat, Value.category]) dX13_takesOut_4 ?_
  refine m_of hL (by have := h.t.le; omega) (by omega) ?_
  rw [h.t.p hc, pIx_s hp]
  refine R.istore_n dX13_takesOut_7 (Nat.le_of_ble_eq_true rfl) (by decide) (by first | rfl | simp [lft, rf_cat]) rfl ?_
  refine R.aload_n dX13_takesOut_8 rfl (by first | rfl | exact rfv_rf _) ?_
  refine R.iload_n dX13_takesOut_9 rfl ?_
  refine cl_X13_144 rfl rfl (by first | exact Nat.le_of_ble_eq_true rfl | simp [rf_cat, Value.category]) dX13_takesOut_10 ?_
  refine m_above (x := - (yC Y c 4)) hL h hA hc (fun w2 h2 => ?_)
  refine R.aload_n dX13_takesOut_13 rfl (by first | rfl | exact rfv_rf _) ?_
  refine R.iload_n dX13_takesOut_14 rfl ?_
  refine R.bipush (v := nI 9) dX13_takesOut_15 (by decide) ?_
  refine R.iconst (v := (-1)) dX13_takesOut_17 rfl ?_
  refine cl_X13_72 rfl rfl (by first | exact Nat.le_of_ble_eq_true rfl | simp [rf_cat, Value.category]) dX13_takesOut_18 ?_
  refine m_puts hL (by have := h.t.le; omega) (by omega) ?_
  have h3 := h2.un (by have := h.t.le; omega : c < 16)
  refine R.aload_n dX13_takesOut_21 rfl (by first | rfl | exact rfv_rf _) ?_
  refine R.iload_n dX13_takesOut_22 rfl ?_
  refine cl_X13_82 rfl rfl (by first | exact Nat.le_of_ble_eq_true rfl | simp [rf_cat, Value.category]) dX13_takesOut_23 ?_
  refine m_gr (d := d) hL h3 hG hA9 (by have := h.t.le; have := (h.t.2.2.2 c o (by omega) hp).2; omega) ?_
  refine WP.ret (ov := some (.int _)) dX13_takesOut_26 ⟨rfl, _, rfl, by first | rfl | assumption | exact nar_b01 (by assumption)⟩ ?_
  exact hq _ h3
set_option maxHeartbeats 1000000 in
set_option maxRecDepth 4000 in
theorem m_moves {d : Nat} {w : Nat → Int32} {M : Mem} {Q : Out → Mem → Prop} {c b K m o : Nat} {Y : Yd} (hL : ML M) (h : RW Y m b K w) (hc : c < m) (ho : o < m) (hA : Acy Y) (hA0 : Acy (neY0 Y c o)) (hF : ∃ f, yF (awO 5 Y (yP Y c) (- (yC Y c 4))) 8 = nI f ∧ f < 2 ^ 31 - 1) (hb : ∀ i, i < 16 → yP (awO 5 Y (yP Y c) (- (yC Y c 4))) i ≠ none → (yC (awO 5 Y (yP Y c) (- (yC Y c 4))) i 6).toInt ≤ (yF (awO 5 Y (yP Y c) (- (yC Y c 4))) 8).toInt) (hK : K < 2 ^ 31 - 1) (hq : ∀ w', RW (neY Y c o) m b (K + 1) w' → Q (.inl (some (.int (nI (dp (neY Y c o) c))))) (sW M w')) : WPc (d + 3) mX13_moves [.ref (rf 11 0), .int (nI c), .int (nI o)] (sW M w) Q := by
  refine WPc.of (by decide +kernel) (Nat.le_of_ble_eq_true rfl) rfl ?_
  have eN : uC (uF (uP (awO 5 Y (yP Y c) (- (yC Y c 4))) c (some o)) 8 (yF (awO 5 Y (yP Y c) (- (yC Y c 4))) 8 + 1)) c 6 (yF (awO 5 Y (yP Y c) (- (yC Y c 4))) 8 + 1) = neY0 Y c o := rfl
  have hm := h.t.le
  have e1 : yP (neY0 Y c o) c = some o := if_pos rfl
  have eM : awO 5 (neY0 Y c o) (yP (neY0 Y c o) c) (yC (neY0 Y c o) c 4) = neY Y c o := by
    rw [e1]
    refine (awO_st _ 5 _ _ ?_).symm
    rw [← e1]; exact hA0 c (by omega)
  have hA9 : Acy (neY Y c o) := by
    have e : yP (neY Y c o) = yP (neY0 Y c o) := yP_awO9 _ _ _ _
    unfold Acy; rw [e]; exact hA0
  refine R.aload_n dX13_moves_0 rfl (by first | rfl | exact rfv_rf _) ?_
  refine R.iload_n dX13_moves_1 rfl ?_
  refine cl_X13_144 rfl rfl (by first | exact Nat.le_of_ble_eq_true rfl | simp [rf_cat, Value.category]) dX13_moves_2 ?_
  refine m_above (x := - (yC Y c 4)) hL h hA hc (fun w2 h2 => ?_)
  refine R.aload_n dX13_moves_5 rfl (by first | rfl | exact rfv_rf _) ?_
  refine R.iload_n dX13_moves_6 rfl ?_
  refine R.bipush (v := nI 9) dX13_moves_7 (by decide) ?_
  refine R.iload_n dX13_moves_9 rfl ?_
  refine cl_X13_72 rfl rfl (by first | exact Nat.le_of_ble_eq_true rfl | simp [rf_cat, Value.category]) dX13_moves_10 ?_
  refine m_puts hL (by have := h.t.le; omega) (by omega) ?_
  refine R.aload_n dX13_moves_13 rfl (by first | rfl | exact rfv_rf _) ?_
  refine R.iload_n dX13_moves_14 rfl ?_
  refine R.bipush (v := nI 10) dX13_moves_15 (by decide) ?_
  refine R.aload_n dX13_moves_17 rfl (by first | rfl | exact rfv_rf _) ?_
  refine R.getS (hL.w) dX13_moves_18 fl_X13_7 (by decide) rfl ?_
  refine R.bipush (v := nI 15) dX13_moves_21 (by decide) ?_
  refine R.ialdN (k := 15) dX13_moves_23 (by omega) (by show _ < mN M 14 0; rw [hL.n]; omega) ?_
  rw [mI_sWc]
  refine cl_X13_72 rfl rfl (by first | exact Nat.le_of_ble_eq_true rfl | simp [rf_cat, Value.category]) dX13_moves_24 ?_
  refine m_puts hL (by have := h.t.le; omega) (by omega) ?_
  refine R.aload_n dX13_moves_27 rfl (by first | rfl | exact rfv_rf _) ?_
  refine R.getS (hL.w) dX13_moves_28 fl_X13_7 (by decide) rfl ?_
  refine R.bipush (v := nI 15) dX13_moves_31 (by decide) ?_
  refine R.dup2 dX13_moves_33 rfl rfl ?_
  refine R.ialdN (k := 15) dX13_moves_34 (by omega) (by show _ < mN M 14 0; rw [hL.n]; omega) ?_
  rw [mI_sWc]
  refine R.iconst (v := 1) dX13_moves_35 rfl ?_
  refine R.iadd dX13_moves_36 ?_
  refine R.iastN (k := 15) dX13_moves_37 (by omega) (by show _ < mN M 14 0; rw [hL.n]; omega) ?_
  rw [sI_sW]
  have e15 : upW (upW w2 (16 + 18 * c + 9) (nI o)) (16 + 18 * c + 10) (upW w2 (16 + 18 * c + 9) (nI o) 15) 15 = w2 15 := by simp (disch := omega) only [upW_n]
  rw [show upW w2 (16 + 18 * c + 9) (nI o) 15 = w2 15 from upW_n _ _ (by omega)] at e15 ⊢
  rw [e15]
  have h3 := h2.ne hc ho hF hb hK
  rw [eN] at h3
  refine R.aload_n dX13_moves_38 rfl (by first | rfl | exact rfv_rf _) ?_
  refine R.iload_n dX13_moves_39 rfl ?_
  refine cl_X13_144 rfl rfl (by first | exact Nat.le_of_ble_eq_true rfl | simp [rf_cat, Value.category]) dX13_moves_40 ?_
  refine m_above (x := yC (neY0 Y c o) c 4) hL h3 hA0 hc (fun w4 h4 => ?_)
  rw [eM] at h4
  refine R.aload_n dX13_moves_43 rfl (by first | rfl | exact rfv_rf _) ?_
  refine R.iload_n dX13_moves_44 rfl ?_
  refine cl_X13_151 rfl rfl (by first | exact Nat.le_of_ble_eq_true rfl | simp [rf_cat, Value.category]) dX13_moves_45 ?_
  refine m_depth hL h4.t hA9 hc ?_
  refine WP.ret (ov := some (.int _)) dX13_moves_48 ⟨rfl, _, rfl, by first | rfl | assumption | exact nar_b01 (by assumption)⟩ ?_
  exact hq _ h4
set_option maxHeartbeats 1000000 in
set_option maxRecDepth 4000 in
theorem m_repl {d : Nat} {w : Nat → Int32} {M : Mem} {Q : Out → Mem → Prop} {b K m : Nat} {Y : Yd} (hL : ML M) (h : RW Y m b K w) (hq : ∀ w', RW (spY Y) m b K w' → Q (.inl (some (.int (yS Y 3)))) (sW M w')) : WPc d mX13_replaces [.ref (rf 11 0)] (sW M w) Q := by
  refine WPc.of (by decide +kernel) (Nat.le_of_ble_eq_true rfl) rfl ?_
  refine R.aload_n dX13_replaces_0 rfl (by first | rfl | exact rfv_rf _) ?_
  refine R.getS (hL.w) dX13_replaces_1 fl_X13_7 (by decide) rfl ?_
  refine R.bipush (v := nI 7) dX13_replaces_4 (by decide) ?_
  refine R.ialdN (k := 7) dX13_replaces_6 (by omega) (by show _ < mN M 14 0; rw [hL.n]; omega) ?_
  rw [mI_sWc]
  refine R.istore_n dX13_replaces_7 (Nat.le_of_ble_eq_true rfl) (by decide) (by first | rfl | simp [lft, rf_cat]) rfl ?_
  refine R.aload_n dX13_replaces_8 rfl (by first | rfl | exact rfv_rf _) ?_
  refine R.getS (hL.w) dX13_replaces_9 fl_X13_7 (by decide) rfl ?_
  refine R.bipush (v := nI 7) dX13_replaces_12 (by decide) ?_
  refine R.iconst (v := 0) dX13_replaces_14 rfl ?_
  refine R.iastN (k := 7) dX13_replaces_15 (by omega) (by show _ < mN M 14 0; rw [hL.n]; omega) ?_
  rw [sI_sW]
  refine R.aload_n dX13_replaces_16 rfl (by first | rfl | exact rfv_rf _) ?_
  refine R.getS (hL.w) dX13_replaces_17 fl_X13_7 (by decide) rfl ?_
  refine R.bipush (v := nI 10) dX13_replaces_20 (by decide) ?_
  refine R.dup2 dX13_replaces_22 rfl rfl ?_
  refine R.ialdN (k := 10) dX13_replaces_23 (by omega) (by show _ < mN M 14 0; rw [hL.n]; omega) ?_
  rw [mI_sWc]
  refine R.iconst (v := 1) dX13_replaces_24 rfl ?_
  refine R.iadd dX13_replaces_25 ?_
  refine R.iastN (k := 10) dX13_replaces_26 (by omega) (by show _ < mN M 14 0; rw [hL.n]; omega) ?_
  rw [sI_sW]
  rw [show upW w 7 0 10 = w 10 from upW_n _ _ (by omega), h.h.2.2.2.2.2.2.1]
  refine R.iload_n dX13_replaces_27 rfl ?_
  refine WP.ret (ov := some (.int _)) dX13_replaces_28 ⟨rfl, _, rfl, by first | rfl | assumption | exact nar_b01 (by assumption)⟩ ?_
  exact hq _ h.sp
set_option maxHeartbeats 1000000 in
set_option maxRecDepth 4000 in
theorem m_set_amp {d : Nat} {w : Nat → Int32} {M : Mem} {Q : Out → Mem → Prop} {b K m : Nat} {x : Int32} {Y : Yd} (hL : ML M) (h : RW Y m b K w) (hq : ∀ w', RW (uS Y 1 x) m b K w' → Q (.inl (some (.int (yS Y 1)))) (sW M w')) : WPc d mX13_sets [.ref (rf 11 0), .int (nI 2), .int x] (sW M w) Q := by
  refine WPc.of (by decide +kernel) (Nat.le_of_ble_eq_true rfl) rfl ?_
  refine R.aload_n dX13_sets_0 rfl (by first | rfl | exact rfv_rf _) ?_
  refine R.getS (hL.w) dX13_sets_1 fl_X13_7 (by decide) rfl ?_
  refine R.iload_n dX13_sets_4 rfl ?_
  refine R.ialdN (k := 2) dX13_sets_5 (by omega) (by show _ < mN M 14 0; rw [hL.n]; omega) ?_
  rw [mI_sWc]
  refine R.istore_n dX13_sets_6 (Nat.le_of_ble_eq_true rfl) (by decide) (by first | rfl | simp [lft, rf_cat]) rfl ?_
  refine R.aload_n dX13_sets_7 rfl (by first | rfl | exact rfv_rf _) ?_
  refine R.getS (hL.w) dX13_sets_8 fl_X13_7 (by decide) rfl ?_
  refine R.iload_n dX13_sets_11 rfl ?_
  refine R.iload_n dX13_sets_12 rfl ?_
  refine R.iastN (k := 2) dX13_sets_13 (by omega) (by show _ < mN M 14 0; rw [hL.n]; omega) ?_
  rw [sI_sW]
  rw [h.h.2.1]
  refine R.iload_n dX13_sets_14 rfl ?_
  refine WP.ret (ov := some (.int _)) dX13_sets_15 ⟨rfl, _, rfl, by first | rfl | assumption | exact nar_b01 (by assumption)⟩ ?_
  exact hq _ (h.am x)
set_option maxHeartbeats 1000000 in
set_option maxRecDepth 4000 in
theorem m_set_aging {d : Nat} {w : Nat → Int32} {M : Mem} {Q : Out → Mem → Prop} {b K m : Nat} {x : Int32} {Y : Yd} (hL : ML M) (h : RW Y m b K w) (hq : ∀ w', RW (uS Y 2 x) m b K w' → Q (.inl (some (.int (yS Y 2)))) (sW M w')) : WPc d mX13_sets [.ref (rf 11 0), .int (nI 4), .int x] (sW M w) Q := by
  refine WPc.of (by decide +kernel) (Nat.le_of_ble_eq_true rfl) rfl ?_
  refine R.aload_n dX13_sets_0 rfl (by first | rfl | exact rfv_rf _) ?_
  refine R.getS (hL.w) dX13_sets_1 fl_X13_7 (by decide) rfl ?_
  refine R.iload_n dX13_sets_4 rfl ?_
  refine R.ialdN (k := 4) dX13_sets_5 (by omega) (by show _ < mN M 14 0; rw [hL.n]; omega) ?_
  rw [mI_sWc]
  refine R.istore_n dX13_sets_6 (Nat.le_of_ble_eq_true rfl) (by decide) (by first | rfl | simp [lft, rf_cat]) rfl ?_
  refine R.aload_n dX13_sets_7 rfl (by first | rfl | exact rfv_rf _) ?_
  refine R.getS (hL.w) dX13_sets_8 fl_X13_7 (by decide) rfl ?_
  refine R.iload_n dX13_sets_11 rfl ?_
  refine R.iload_n dX13_sets_12 rfl ?_
  refine R.iastN (k := 4) dX13_sets_13 (by omega) (by show _ < mN M 14 0; rw [hL.n]; omega) ?_
  rw [sI_sW]
  rw [h.h.2.2.2.1]
  refine R.iload_n dX13_sets_14 rfl ?_
  refine WP.ret (ov := some (.int _)) dX13_sets_15 ⟨rfl, _, rfl, by first | rfl | assumption | exact nar_b01 (by assumption)⟩ ?_
  exact hq _ (h.ag x)
theorem m_inR {d : Nat} {x lo hi : Int32} {M : Mem} {Q : Out → Mem → Prop} (hq : Q (.inl (some (.int (if lo ≤ x ∧ x ≤ hi then 1 else 0)))) M) : WPc d mX13_inRange [.int x, .int lo, .int hi] M Q := by
  refine WPc.of (by decide +kernel) (Nat.le_of_ble_eq_true rfl) rfl ?_
  by_cases z1 : lo ≤ x
  · by_cases z2 : x ≤ hi
    · rw [if_pos ⟨z1, z2⟩] at hq
      refine R.iload_n dX13_inRange_0 rfl ?_
      refine R.iload_n dX13_inRange_1 rfl ?_
      refine R.icmp_lt (tgt := 14) dX13_inRange_2 (by decide) (fun c9 => absurd c9 (Int32.not_lt.mpr z1)) (fun _ => ?_)
      refine R.iload_n dX13_inRange_5 rfl ?_
      refine R.iload_n dX13_inRange_6 rfl ?_
      refine R.icmp_gt (tgt := 14) dX13_inRange_7 (by decide) (fun c9 => absurd c9 (Int32.not_lt.mpr z2)) (fun _ => ?_)
      refine R.iconst (v := 1) dX13_inRange_10 rfl ?_
      refine R.goto (tgt := 15) dX13_inRange_11 (by decide) ?_
      refine WP.ret (ov := some (.int _)) dX13_inRange_15 ⟨rfl, _, rfl, by first | rfl | assumption | exact nar_b01 (by assumption)⟩ ?_
      exact hq
    · rw [if_neg (fun q => z2 q.2)] at hq
      refine R.iload_n dX13_inRange_0 rfl ?_
      refine R.iload_n dX13_inRange_1 rfl ?_
      refine R.icmp_lt (tgt := 14) dX13_inRange_2 (by decide) (fun c9 => absurd c9 (Int32.not_lt.mpr z1)) (fun _ => ?_)
      refine R.iload_n dX13_inRange_5 rfl ?_
      refine R.iload_n dX13_inRange_6 rfl ?_
      refine R.icmp_gt (tgt := 14) dX13_inRange_7 (by decide) (fun _ => ?_) (fun c9 => absurd (Int32.not_le.mp z2) c9)
      refine R.iconst (v := 0) dX13_inRange_14 rfl ?_
      refine WP.ret (ov := some (.int _)) dX13_inRange_15 ⟨rfl, _, rfl, by first | rfl | assumption | exact nar_b01 (by assumption)⟩ ?_
      exact hq
  · rw [if_neg (fun q => z1 q.1)] at hq
    refine R.iload_n dX13_inRange_0 rfl ?_
    refine R.iload_n dX13_inRange_1 rfl ?_
    refine R.icmp_lt (tgt := 14) dX13_inRange_2 (by decide) (fun _ => ?_) (fun c9 => absurd (Int32.not_le.mp z1) c9)
    refine R.iconst (v := 0) dX13_inRange_14 rfl ?_
    refine WP.ret (ov := some (.int _)) dX13_inRange_15 ⟨rfl, _, rfl, by first | rfl | assumption | exact nar_b01 (by assumption)⟩ ?_
    exact hq
