/-! what a yard's methods do to it -/
theorem yP_aw (Y : Yd) (j : Nat) (w : Int32) : yP (awC Y j w) = yP Y := rfl
theorem WP.top {m : MRec} {d pc : Nat} {ls st : List Value} {M : Mem} {Q : Out → Mem → Prop} {x x' : Int32} (e : x = x') (k : WP m d pc ls (.int x' :: st) M Q) : WP m d pc ls (.int x :: st) M Q := by rw [e]; exact k
def tkY (Y : Yd) (i : Nat) : Int32 × Yd := rdY (uT Y 0 (yT Y 0 + 1)) i
def cgY (Y : Yd) (i : Nat) (w : Int32) : Yd := awO 6 (uC Y i 3 (yC Y i 3 + w)) (some i) w
def neY0 (Y : Yd) (i o : Nat) : Yd :=
  let Y1 := awO 5 Y (yP Y i) (-(yC Y i 4))
  let Y2 := uF (uP Y1 i (some o)) 8 (yF Y1 8 + 1)
  uC Y2 i 6 (yF Y2 8)
def neY (Y : Yd) (i o : Nat) : Yd := awO 6 (neY0 Y i o) (some o) (yC (neY0 Y i o) i 4)
def unY (Y : Yd) (i : Nat) : Yd := uP (awO 5 Y (yP Y i) (-(yC Y i 4))) i none
def spY (Y : Yd) : Yd := uT (uS Y 3 0) 2 (yT Y 2 + 1)
def acY (Y : Yd) (n : Nat) (nm ta go : Int32) : Yd := uC (uC (uC (uC (uC (uF Y 4 (yF Y 4 + 1)) n 1 nm) n 2 ta) n 3 go) n 4 (ta + go)) n 7 1
def abY (Y : Yd) (n : Nat) (nm mo to tr : Int32) : Yd := uT (uB (uB (uB (uB (uF Y 5 (yF Y 5 + 1)) n 1 nm) n 2 mo) n 3 to) n 4 tr) 6 (yT Y 6 + mo)
def saF (t : Nat) : Nat → Nat → Yd → Yd
  | 0, _, Y => Y
  | k + 1, i, Y => saF t k (i + 1) (if ins Y i t = true then uC Y i 7 0 else Y)
def trY0 (Y : Yd) (i b : Nat) : Yd :=
  let p := yPrice Y i
  let e := yErr Y i
  let r := fRefund (yB Y b 3) e
  uT (uT (uT (uB (uB (uB Y b 4 (fTrust (yB Y b 4) (yB Y b 3) e)) b 2 (yB Y b 2 + (r - p))) b 5 (yB Y b 5 + 1)) 3 (yT Y 3 + 1)) 4 (yT Y 4 + p)) 5 (yT Y 5 + r)
def trY (Y : Yd) (i b : Nat) : Yd := saF i 16 0 (trY0 Y i b)
set_option maxHeartbeats 1000000 in
set_option maxRecDepth 4000 in
theorem s_yAdd {d y n : Nat} {Y : Yd} {p : Option Nat} {w : Int32} {M : Mem} {Q : Out → Mem → Prop} (h : Yv M y Y) (hp : ∀ j, p = some j → j < 16) (ha : acyO n (yP Y) p) (hq : ∀ M', Yv M' y (awO n Y p w) → Fr (inY y) M M' → Q (.inl none) M') : WPc (d + 1) mX11_addWeight [.ref (rf 9 y), va_rf (p.map fun j => rf 1 (16 * y + j)), .int w] M Q := by
  have key0 : ∀ a1 : Value, ∀ (n : Nat) (M1 : Mem) (Y1 : Yd) (p : Option Nat), Yv M1 y Y1 → acyO n (yP Y1) p → (∀ j, p = some j → j < 16) → Fr (inY y) M M1 → (∀ M', Yv M' y (awO n Y1 p w) → Fr (inY y) M M' → Q (.inl none) M') → WP mX11_addWeight (d + 1) 2 [.ref (rf 9 y), a1, .int w, va_rf (p.map fun j => rf 1 (16 * y + j))] [] M1 Q := by
    intro a1
    have key : ∀ (n : Nat) (M1 : Mem) (Y1 : Yd) (p : Option Nat), Yv M1 y Y1 → acyO n (yP Y1) p → (∀ j, p = some j → j < 16) → Fr (inY y) M M1 → (∀ M', Yv M' y (awO n Y1 p w) → Fr (inY y) M M' → Q (.inl none) M') → WP mX11_addWeight (d + 1) 2 [.ref (rf 9 y), a1, .int w, va_rf (p.map fun j => rf 1 (16 * y + j))] [] M1 Q := by
      intro n
      induction n with
      | zero =>
        intro M1 Y1 p h ha hp hF hq
        cases (show p = none from ha)
        show WP mX11_addWeight (d + 1) 2 [.ref (rf 9 y), a1, .int w, .null] [] M1 Q
        refine R.aload_n dX11_addWeight_2 rfl (by first | rfl | exact rfv_rf _) ?_
        refine R.ifnullN (tgt := 44) dX11_addWeight_3 (by decide) ?_
        refine WP.ret (ov := none) dX11_addWeight_44 ⟨rfl, rfl⟩ ?_
        exact hq _ h hF
      | succ n ih =>
        intro M1 Y1 p h ha hp hF hq
        have hL := h.lay
        cases p with
        | none =>
          show WP mX11_addWeight (d + 1) 2 [.ref (rf 9 y), a1, .int w, .null] [] M1 Q
          refine R.aload_n dX11_addWeight_2 rfl (by first | rfl | exact rfv_rf _) ?_
          refine R.ifnullN (tgt := 44) dX11_addWeight_3 (by decide) ?_
          refine WP.ret (ov := none) dX11_addWeight_44 ⟨rfl, rfl⟩ ?_
          exact hq _ h hF
        | some j =>
          have hj := hp j rfl
          show WP mX11_addWeight (d + 1) 2 [.ref (rf 9 y), a1, .int w, .ref (rf 1 (16 * y + j))] [] M1 Q
          refine R.aload_n dX11_addWeight_2 rfl (by first | rfl | exact rfv_rf _) ?_
          refine R.ifnullS (tgt := 44) (by first | decide | exact Nat.lt_of_le_of_lt (Nat.le_of_eq (kd_rf _ _ (by decide))) (by decide)) dX11_addWeight_3 (by decide) ?_
          refine R.aload_n dX11_addWeight_6 rfl (by first | rfl | exact rfv_rf _) ?_
          refine R.dup dX11_addWeight_7 (by first | rfl | exact rf_cat _) ?_
          refine R.getI dX11_addWeight_8 fl_X11_99 (by decide) rfl ?_
          refine R.iload_n dX11_addWeight_11 rfl ?_
          refine R.iadd dX11_addWeight_12 ?_
          refine R.putI dX11_addWeight_13 fl_X11_99 (fun q hq => by cases hq; exact Or.inl rfl) (by decide) rfl rfl rfl ?_
          refine R.aload_n dX11_addWeight_16 rfl (by first | rfl | exact rfv_rf _) ?_
          refine R.getS (lay3 (by first | assumption | exact hL)) dX11_addWeight_17 fl_X11_33 (by decide) rfl ?_
          refine R.dup dX11_addWeight_20 (by first | rfl | exact rf_cat _) ?_
          refine R.getI dX11_addWeight_21 fl_X11_156 (by decide) rfl ?_
          refine R.aload_n dX11_addWeight_24 rfl (by first | rfl | exact rfv_rf _) ?_
          refine R.getI dX11_addWeight_25 fl_X11_159 (by decide) rfl ?_
          refine R.iadd dX11_addWeight_28 ?_
          refine R.putI dX11_addWeight_29 fl_X11_156 (fun q hq => by cases hq; exact Or.inl rfl) (by decide) rfl rfl rfl ?_
          refine R.aload_n dX11_addWeight_32 rfl (by first | rfl | exact rfv_rf _) ?_
          refine cl_X11_160 rfl rfl (by first | exact Nat.le_of_ble_eq_true rfl | simp [rf_cat, Value.category]) dX11_addWeight_33 ?_
          refine s_cDisc ?_
          refine R.aload_n dX11_addWeight_36 rfl (by first | rfl | exact rfv_rf _) ?_
          have h3 := Yv.aw (w := w) h hj
          refine R.getR dX11_addWeight_37 fl_X11_82 (by decide) rfl ?_
          rw [h3.rP hj]
          refine R.astore_n dX11_addWeight_40 (by first | rfl | exact rfv_rf _) (Nat.le_of_ble_eq_true rfl) (by decide) (by first | rfl | simp [lft, rf_cat]) rfl ?_
          refine R.goto (tgt := 2) dX11_addWeight_41 (by decide) ?_
          exact ih _ _ _ (Yv.aw h hj) ha (fun k e => h.lP hj e) (by
            refine Fr.tr hF ?_
            refine Fr.disc ?_ hj
            refine Fr.sI ?_ inY_T
            refine Fr.sI ?_ (inY_C hj)
            exact Fr.rf _ _) hq
    exact key
  cases p with
  | none =>
    show WPc (d + 1) mX11_addWeight [.ref (rf 9 y), .null, .int w] M Q
    refine WPc.of (by decide +kernel) (Nat.le_of_ble_eq_true rfl) rfl ?_
    refine R.aload_n dX11_addWeight_0 rfl (by first | rfl | exact rfv_rf _) ?_
    refine R.astore_n dX11_addWeight_1 (by first | rfl | exact rfv_rf _) (Nat.le_of_ble_eq_true rfl) (by decide) (by first | rfl | simp [lft, rf_cat]) rfl ?_
    exact key0 .null n M Y none h ha hp (Fr.rf _ _) hq
  | some j =>
    show WPc (d + 1) mX11_addWeight [.ref (rf 9 y), .ref (rf 1 (16 * y + j)), .int w] M Q
    refine WPc.of (by decide +kernel) (Nat.le_of_ble_eq_true rfl) rfl ?_
    refine R.aload_n dX11_addWeight_0 rfl (by first | rfl | exact rfv_rf _) ?_
    refine R.astore_n dX11_addWeight_1 (by first | rfl | exact rfv_rf _) (Nat.le_of_ble_eq_true rfl) (by decide) (by first | rfl | simp [lft, rf_cat]) rfl ?_
    exact key0 (.ref (rf 1 (16 * y + j))) n M Y (some j) h ha hp (Fr.rf _ _) hq
theorem Q2 {Q : Out → Mem → Prop} {a b : Int32} {M' : Mem} (e : a = b) (h : Q (.inl (some (.int b))) M') : Q (.inl (some (.int a))) M' := by rw [e]; exact h
set_option maxHeartbeats 1000000 in
set_option maxRecDepth 4000 in
theorem s_yTake {d : Nat} {y : Nat} {Y : Yd} {i : Nat} {M : Mem} {Q : Out → Mem → Prop} (h : Yv M y Y) (hi : i < 16) (hq : ∀ M', Yv M' y ((tkY Y i).2) → Fr (inY y) M M' → Q (.inl (some (.int (tkY Y i).1))) M') : WPc (d + 2) mX11_takeReading [.ref (rf 9 y), .ref (rf 1 (16 * y + i))] M Q := by
  refine WPc.of (by decide +kernel) (Nat.le_of_ble_eq_true rfl) rfl ?_
  have hL := h.lay
  have h1 := Yv.tT h (f := 0) (v := mI M 8 y 0 + 1) (by decide) (fun g => by rw [g.rT])
  refine R.aload_n dX11_takeReading_0 rfl (by first | rfl | exact rfv_rf _) ?_
  refine R.getS (lay3 (by first | assumption | exact hL)) dX11_takeReading_1 fl_X11_33 (by decide) rfl ?_
  refine R.dup dX11_takeReading_4 (by first | rfl | exact rf_cat _) ?_
  refine R.getI dX11_takeReading_5 fl_X11_129 (by decide) rfl ?_
  refine R.iconst (v := 1) dX11_takeReading_8 rfl ?_
  refine R.iadd dX11_takeReading_9 ?_
  refine R.putI dX11_takeReading_10 fl_X11_129 (fun q hq => by cases hq; exact Or.inl rfl) (by decide) rfl rfl rfl ?_
  refine R.aload_n dX11_takeReading_13 rfl (by first | rfl | exact rfv_rf _) ?_
  refine R.getS (lay2 (by first | assumption | exact hL)) dX11_takeReading_14 fl_X11_26 (by decide) rfl ?_
  refine R.aload_n dX11_takeReading_17 rfl (by first | rfl | exact rfv_rf _) ?_
  refine cl_X11_132 rfl rfl (by first | exact Nat.le_of_ble_eq_true rfl | simp [rf_cat, Value.category]) dX11_takeReading_18 ?_
  refine s_sRead ?_
  refine WP.ret (ov := some (.int _)) dX11_takeReading_21 ⟨rfl, _, rfl, by first | rfl | assumption | exact nar_b01 (by assumption)⟩ ?_
  exact Q2 (h1.rd hi).1 (hq _ (h1.rd hi).2 (Fr.rd (Fr.sI (Fr.rf _ _) inY_T) hi))
set_option maxHeartbeats 1000000 in
set_option maxRecDepth 4000 in
theorem s_yGoods {d : Nat} {y : Nat} {Y : Yd} {i : Nat} {w : Int32} {M : Mem} {Q : Out → Mem → Prop} (h : Yv M y Y) (hi : i < 16) (hA : Acy Y) (hq : ∀ M', Yv M' y (cgY Y i w) → Fr (inY y) M M' → Q (.inl none) M') : WPc (d + 2) mX11_changeGoods [.ref (rf 9 y), .ref (rf 1 (16 * y + i)), .int w] M Q := by
  refine WPc.of (by decide +kernel) (Nat.le_of_ble_eq_true rfl) rfl ?_
  have h1 := Yv.tC h hi (f := 3) (v := mI M 1 (16 * y + i) 3 + w) (by decide) (by decide) (fun g => by rw [g.rC hi])
  refine R.aload_n dX11_changeGoods_0 rfl (by first | rfl | exact rfv_rf _) ?_
  refine R.dup dX11_changeGoods_1 (by first | rfl | exact rf_cat _) ?_
  refine R.getI dX11_changeGoods_2 fl_X11_96 (by decide) rfl ?_
  refine R.iload_n dX11_changeGoods_5 rfl ?_
  refine R.iadd dX11_changeGoods_6 ?_
  refine R.putI dX11_changeGoods_7 fl_X11_96 (fun q hq => by cases hq; exact Or.inl rfl) (by decide) rfl rfl rfl ?_
  refine R.aload_n dX11_changeGoods_10 rfl (by first | rfl | exact rfv_rf _) ?_
  refine R.aload_n dX11_changeGoods_11 rfl (by first | rfl | exact rfv_rf _) ?_
  refine R.iload_n dX11_changeGoods_12 rfl ?_
  refine cl_X11_136 rfl rfl (by first | exact Nat.le_of_ble_eq_true rfl | simp [rf_cat, Value.category]) dX11_changeGoods_13 ?_
  refine s_yAdd (n := 6) (p := some i) h1 (fun k e => by cases e; exact hi) (hA i hi) (fun M' h2 F2 => ?_)
  refine WP.ret (ov := none) dX11_changeGoods_16 ⟨rfl, rfl⟩ ?_
  exact hq _ h2 (Fr.tr (Fr.sI (Fr.rf _ _) (inY_C hi)) F2)
set_option maxHeartbeats 1000000 in
set_option maxRecDepth 4000 in
theorem s_yUnnest {d : Nat} {y : Nat} {Y : Yd} {i : Nat} {M : Mem} {Q : Out → Mem → Prop} (h : Yv M y Y) (hi : i < 16) (hA : Acy Y) (hq : ∀ M', Yv M' y (unY Y i) → Fr (inY y) M M' → Q (.inl none) M') : WPc (d + 2) mX11_unnest [.ref (rf 9 y), .ref (rf 1 (16 * y + i))] M Q := by
  refine WPc.of (by decide +kernel) (Nat.le_of_ble_eq_true rfl) rfl ?_
  refine R.aload_n dX11_unnest_0 rfl (by first | rfl | exact rfv_rf _) ?_
  refine R.aload_n dX11_unnest_1 rfl (by first | rfl | exact rfv_rf _) ?_
  refine R.getR dX11_unnest_2 fl_X11_82 (by decide) rfl ?_
  rw [h.rP hi]
  refine R.aload_n dX11_unnest_5 rfl (by first | rfl | exact rfv_rf _) ?_
  refine R.getI dX11_unnest_6 fl_X11_99 (by decide) rfl ?_
  rw [h.rC hi]
  refine R.ineg dX11_unnest_9 ?_
  refine cl_X11_136 rfl rfl (by first | exact Nat.le_of_ble_eq_true rfl | simp [rf_cat, Value.category]) dX11_unnest_10 ?_
  refine s_yAdd h (fun k e => h.lP hi e) (hA i hi) (fun M1 h1 F1 => ?_)
  refine R.aload_n dX11_unnest_13 rfl (by first | rfl | exact rfv_rf _) ?_
  refine R.null dX11_unnest_14 ?_
  first | refine R.putA dX11_unnest_15 fl_X11_82 (fun q hq => by cases hq; exact Or.inl rfl) rfl ?_ | refine R.putN dX11_unnest_15 fl_X11_82 (fun q hq => by cases hq; exact Or.inl rfl) rfl ?_ | refine R.putR dX11_unnest_15 fl_X11_82 (fun q hq => by cases hq; exact Or.inl rfl) rfl ?_
  refine WP.ret (ov := none) dX11_unnest_18 ⟨rfl, rfl⟩ ?_
  refine hq _ ?_ ?_
  · exact h1.sP hi (fun _ e => nomatch e) rfl
  · exact Fr.sR F1 (inY_C hi)
set_option maxHeartbeats 1000000 in
set_option maxRecDepth 4000 in
theorem s_yNest {d : Nat} {y : Nat} {Y : Yd} {i o : Nat} {M : Mem} {Q : Out → Mem → Prop} (h : Yv M y Y) (hi : i < 16) (ho : o < 16) (hA : Acy Y) (hA2 : acyO 6 (yP (neY0 Y i o)) (some o)) (hq : ∀ M', Yv M' y (neY Y i o) → Fr (inY y) M M' → Q (.inl none) M') : WPc (d + 2) mX11_nest [.ref (rf 9 y), .ref (rf 1 (16 * y + i)), .ref (rf 1 (16 * y + o))] M Q := by
  refine WPc.of (by decide +kernel) (Nat.le_of_ble_eq_true rfl) rfl ?_
  refine R.aload_n dX11_nest_0 rfl (by first | rfl | exact rfv_rf _) ?_
  refine R.aload_n dX11_nest_1 rfl (by first | rfl | exact rfv_rf _) ?_
  refine R.getR dX11_nest_2 fl_X11_82 (by decide) rfl ?_
  rw [h.rP hi]
  refine R.aload_n dX11_nest_5 rfl (by first | rfl | exact rfv_rf _) ?_
  refine R.getI dX11_nest_6 fl_X11_99 (by decide) rfl ?_
  rw [h.rC hi]
  refine R.ineg dX11_nest_9 ?_
  refine cl_X11_136 rfl rfl (by first | exact Nat.le_of_ble_eq_true rfl | simp [rf_cat, Value.category]) dX11_nest_10 ?_
  refine s_yAdd h (fun k e => h.lP hi e) (hA i hi) (fun M1 h1 F1 => ?_)
  refine R.aload_n dX11_nest_13 rfl (by first | rfl | exact rfv_rf _) ?_
  refine R.aload_n dX11_nest_14 rfl (by first | rfl | exact rfv_rf _) ?_
  first | refine R.putA dX11_nest_15 fl_X11_82 (fun q hq => by cases hq; exact Or.inl rfl) rfl ?_ | refine R.putN dX11_nest_15 fl_X11_82 (fun q hq => by cases hq; exact Or.inl rfl) rfl ?_ | refine R.putR dX11_nest_15 fl_X11_82 (fun q hq => by cases hq; exact Or.inl rfl) rfl ?_
  refine R.aload_n dX11_nest_18 rfl (by first | rfl | exact rfv_rf _) ?_
  refine R.dup dX11_nest_19 (by first | rfl | exact rf_cat _) ?_
  refine R.getI dX11_nest_20 fl_X11_57 (by decide) rfl ?_
  refine R.iconst (v := 1) dX11_nest_23 rfl ?_
  refine R.iadd dX11_nest_24 ?_
  refine R.putI dX11_nest_25 fl_X11_57 (fun q hq => by cases hq; exact Or.inl rfl) (by decide) rfl rfl rfl ?_
  refine R.aload_n dX11_nest_28 rfl (by first | rfl | exact rfv_rf _) ?_
  refine R.aload_n dX11_nest_29 rfl (by first | rfl | exact rfv_rf _) ?_
  refine R.getI dX11_nest_30 fl_X11_57 (by decide) rfl ?_
  refine R.putI dX11_nest_33 fl_X11_126 (fun q hq => by cases hq; exact Or.inl rfl) (by decide) rfl rfl rfl ?_
  refine R.aload_n dX11_nest_36 rfl (by first | rfl | exact rfv_rf _) ?_
  refine R.aload_n dX11_nest_37 rfl (by first | rfl | exact rfv_rf _) ?_
  refine R.aload_n dX11_nest_38 rfl (by first | rfl | exact rfv_rf _) ?_
  refine R.getI dX11_nest_39 fl_X11_99 (by decide) rfl ?_
  refine WP.top (x' := yC (neY0 Y i o) i 4) ?_ ?_
  · simp [mI_sI, mI_sR, neY0, yC_uC, yC_uF, yC_uP, h1.rC hi]
  refine cl_X11_136 rfl rfl (by first | exact Nat.le_of_ble_eq_true rfl | simp [rf_cat, Value.category]) dX11_nest_42 ?_
  refine s_yAdd (n := 6) (Y := neY0 Y i o) (p := some o) ?_ (fun k e => by cases e; exact ho) hA2 (fun M2 h2 F2 => ?_)
  · refine Yv.tC ?_ hi (by decide) (by decide) (fun g => by rw [g.rF])
    refine Yv.tF ?_ (by decide) (fun g => by rw [g.rF]; rfl)
    refine Yv.sP ?_ hi (fun k e => by cases e; exact ho) rfl
    exact h1
  refine WP.ret (ov := none) dX11_nest_45 ⟨rfl, rfl⟩ ?_
  refine hq _ h2 (Fr.tr ?_ F2)
  refine Fr.sI ?_ (inY_C hi)
  refine Fr.sI ?_ inY_F
  refine Fr.sR ?_ (inY_C hi)
  exact F1
set_option maxHeartbeats 1000000 in
set_option maxRecDepth 4000 in
theorem s_ySpring {d : Nat} {y : Nat} {Y : Yd} {M : Mem} {Q : Out → Mem → Prop} (h : Yv M y Y) (hq : ∀ M', Yv M' y (spY Y) → Fr (inY y) M M' → Q (.inl none) M') : WPc d mX11_renewSpring [.ref (rf 9 y)] M Q := by
  refine WPc.of (by decide +kernel) (Nat.le_of_ble_eq_true rfl) rfl ?_
  have hL := h.lay
  refine R.aload_n dX11_renewSpring_0 rfl (by first | rfl | exact rfv_rf _) ?_
  refine R.getS (lay2 (by first | assumption | exact hL)) dX11_renewSpring_1 fl_X11_26 (by decide) rfl ?_
  refine R.iconst (v := 0) dX11_renewSpring_4 rfl ?_
  refine R.putI dX11_renewSpring_5 fl_X11_163 (fun q hq => by cases hq; exact Or.inl rfl) (by decide) rfl rfl rfl ?_
  refine R.aload_n dX11_renewSpring_8 rfl (by first | rfl | exact rfv_rf _) ?_
  refine R.getS (lay3 (by first | assumption | exact hL)) dX11_renewSpring_9 fl_X11_33 (by decide) rfl ?_
  refine R.dup dX11_renewSpring_12 (by first | rfl | exact rf_cat _) ?_
  refine R.getI dX11_renewSpring_13 fl_X11_166 (by decide) rfl ?_
  refine R.iconst (v := 1) dX11_renewSpring_16 rfl ?_
  refine R.iadd dX11_renewSpring_17 ?_
  refine R.putI dX11_renewSpring_18 fl_X11_166 (fun q hq => by cases hq; exact Or.inl rfl) (by decide) rfl rfl rfl ?_
  refine WP.ret (ov := none) dX11_renewSpring_21 ⟨rfl, rfl⟩ ?_
  refine hq _ ?_ ?_
  · refine Yv.tT ?_ (by decide) (fun g => by rw [g.rT]; rfl)
    refine Yv.tS ?_ (by decide) (fun _ => rfl)
    exact h
  · refine Fr.sI ?_ inY_T
    refine Fr.sI ?_ inY_S
    exact Fr.rf _ _
theorem i_as (x : Int32) : x + 1 - 1 = x := by
  rw [Int32.sub_eq_add_neg, Int32.add_assoc, show (1 : Int32) + -1 = 0 by decide, Int32.add_zero]
set_option maxHeartbeats 1000000 in
set_option maxRecDepth 4000 in
theorem s_yAddC {d : Nat} {y : Nat} {Y : Yd} {n : Nat} {nm ta go : Int32} {M : Mem} {Q : Out → Mem → Prop} (h : Yv M y Y) (hn : n < 16) (hc : yF Y 4 = nI n) (hq : ∀ M', Yv M' y (acY Y n nm ta go) → Fr (inY y) M M' → Q (.inl (some (.ref (rf 1 (16 * y + n))))) M') : WPc (d + 1) mX11_addCrate [.ref (rf 9 y), .int nm, .int ta, .int go] M Q := by
  refine WPc.of (by decide +kernel) (Nat.le_of_ble_eq_true rfl) rfl ?_
  have h1 := Yv.tF h (f := 4) (v := mI M 9 y 4 + 1) (by decide) (fun g => by rw [g.rF])
  refine R.aload_n dX11_addCrate_0 rfl (by first | rfl | exact rfv_rf _) ?_
  refine R.dup dX11_addCrate_1 (by first | rfl | exact rf_cat _) ?_
  refine R.getI dX11_addCrate_2 fl_X11_44 (by decide) rfl ?_
  refine R.iconst (v := 1) dX11_addCrate_5 rfl ?_
  refine R.iadd dX11_addCrate_6 ?_
  refine R.putI dX11_addCrate_7 fl_X11_44 (fun q hq => by cases hq; exact Or.inl rfl) (by decide) rfl rfl rfl ?_
  refine R.aload_n dX11_addCrate_10 rfl (by first | rfl | exact rfv_rf _) ?_
  refine R.aload_n dX11_addCrate_11 rfl (by first | rfl | exact rfv_rf _) ?_
  refine R.getI dX11_addCrate_12 fl_X11_44 (by decide) rfl ?_
  rw [h1.rF, yF_uF, if_pos rfl, hc]
  refine R.iconst (v := 1) dX11_addCrate_15 rfl ?_
  refine R.isub dX11_addCrate_16 ?_
  rw [show nI n + 1 - 1 = nI n from i_as _]
  refine cl_X11_78 rfl rfl (by first | exact Nat.le_of_ble_eq_true rfl | simp [rf_cat, Value.category]) dX11_addCrate_17 ?_
  refine s_yAtS h1 hn (by rw [yF_uF, if_pos rfl, hc, ← nI_succ]; exact nI_ge (by omega) (by omega)) ?_
  refine R.astore dX11_addCrate_20 (by first | rfl | exact rfv_rf _) (Nat.le_of_ble_eq_true rfl) (by decide) (by first | rfl | simp [lft, rf_cat]) rfl ?_
  refine R.aload dX11_addCrate_22 rfl (by first | rfl | exact rfv_rf _) ?_
  refine R.ifnullS (tgt := 59) (by first | decide | exact Nat.lt_of_le_of_lt (Nat.le_of_eq (kd_rf _ _ (by decide))) (by decide)) dX11_addCrate_24 (by decide) ?_
  refine R.aload dX11_addCrate_27 rfl (by first | rfl | exact rfv_rf _) ?_
  refine R.iload_n dX11_addCrate_29 rfl ?_
  refine R.putI dX11_addCrate_30 fl_X11_89 (fun q hq => by cases hq; exact Or.inl rfl) (by decide) rfl rfl rfl ?_
  refine R.aload dX11_addCrate_33 rfl (by first | rfl | exact rfv_rf _) ?_
  refine R.iload_n dX11_addCrate_35 rfl ?_
  refine R.putI dX11_addCrate_36 fl_X11_93 (fun q hq => by cases hq; exact Or.inl rfl) (by decide) rfl rfl rfl ?_
  refine R.aload dX11_addCrate_39 rfl (by first | rfl | exact rfv_rf _) ?_
  refine R.iload_n dX11_addCrate_41 rfl ?_
  refine R.putI dX11_addCrate_42 fl_X11_96 (fun q hq => by cases hq; exact Or.inl rfl) (by decide) rfl rfl rfl ?_
  refine R.aload dX11_addCrate_45 rfl (by first | rfl | exact rfv_rf _) ?_
  refine R.iload_n dX11_addCrate_47 rfl ?_
  refine R.iload_n dX11_addCrate_48 rfl ?_
  refine R.iadd dX11_addCrate_49 ?_
  refine R.putI dX11_addCrate_50 fl_X11_99 (fun q hq => by cases hq; exact Or.inl rfl) (by decide) rfl rfl rfl ?_
  refine R.aload dX11_addCrate_53 rfl (by first | rfl | exact rfv_rf _) ?_
  refine R.iconst (v := 1) dX11_addCrate_55 rfl ?_
  refine R.putI dX11_addCrate_56 fl_X11_102 (fun q hq => by cases hq; exact Or.inl rfl) (by decide) rfl (by first | rfl | assumption) (by first | rfl | assumption) ?_
  refine R.aload dX11_addCrate_59 rfl (by first | rfl | exact rfv_rf _) ?_
  first | refine WP.ret (ov := some (.ref _)) dX11_addCrate_61 ⟨rfl, _, rfl, Or.inl ⟨_, rfl⟩⟩ ?_ | refine WP.ret (ov := some .null) dX11_addCrate_61 ⟨rfl, _, rfl, Or.inl ⟨_, rfl⟩⟩ ?_
  refine hq _ ?_ ?_
  · refine Yv.tC ?_ hn (by decide) (by decide) (fun _ => rfl)
    refine Yv.tC ?_ hn (by decide) (by decide) (fun _ => rfl)
    refine Yv.tC ?_ hn (by decide) (by decide) (fun _ => rfl)
    refine Yv.tC ?_ hn (by decide) (by decide) (fun _ => rfl)
    refine Yv.tC ?_ hn (by decide) (by decide) (fun _ => rfl)
    refine Yv.tF ?_ (by decide) (fun g => by rw [g.rF])
    exact h
  · refine Fr.sI ?_ (inY_C hn)
    refine Fr.sI ?_ (inY_C hn)
    refine Fr.sI ?_ (inY_C hn)
    refine Fr.sI ?_ (inY_C hn)
    refine Fr.sI ?_ (inY_C hn)
    refine Fr.sI ?_ inY_F
    exact Fr.rf _ _
set_option maxHeartbeats 1000000 in
set_option maxRecDepth 4000 in
theorem s_yAddB {d : Nat} {y : Nat} {Y : Yd} {n : Nat} {nm mo to tr : Int32} {M : Mem} {Q : Out → Mem → Prop} (h : Yv M y Y) (hn : n < 6) (hc : yF Y 5 = nI n) (hq : ∀ M', Yv M' y (abY Y n nm mo to tr) → Fr (inY y) M M' → Q (.inl none) M') : WPc (d + 1) mX11_addBuyer [.ref (rf 9 y), .int nm, .int mo, .int to, .int tr] M Q := by
  refine WPc.of (by decide +kernel) (Nat.le_of_ble_eq_true rfl) rfl ?_
  have hL := h.lay
  have h1 := Yv.tF h (f := 5) (v := mI M 9 y 5 + 1) (by decide) (fun g => by rw [g.rF])
  refine R.aload_n dX11_addBuyer_0 rfl (by first | rfl | exact rfv_rf _) ?_
  refine R.dup dX11_addBuyer_1 (by first | rfl | exact rf_cat _) ?_
  refine R.getI dX11_addBuyer_2 fl_X11_48 (by decide) rfl ?_
  refine R.iconst (v := 1) dX11_addBuyer_5 rfl ?_
  refine R.iadd dX11_addBuyer_6 ?_
  refine R.putI dX11_addBuyer_7 fl_X11_48 (fun q hq => by cases hq; exact Or.inl rfl) (by decide) rfl rfl rfl ?_
  refine R.aload_n dX11_addBuyer_10 rfl (by first | rfl | exact rfv_rf _) ?_
  refine R.aload_n dX11_addBuyer_11 rfl (by first | rfl | exact rfv_rf _) ?_
  refine R.getI dX11_addBuyer_12 fl_X11_48 (by decide) rfl ?_
  rw [h1.rF, yF_uF, if_pos rfl, hc]
  refine R.iconst (v := 1) dX11_addBuyer_15 rfl ?_
  refine R.isub dX11_addBuyer_16 ?_
  rw [show nI n + 1 - 1 = nI n from i_as _]
  refine cl_X11_106 rfl rfl (by first | exact Nat.le_of_ble_eq_true rfl | simp [rf_cat, Value.category]) dX11_addBuyer_17 ?_
  refine s_yBatS h1 hn (by rw [yF_uF, if_pos rfl, hc, ← nI_succ]; exact nI_ge (by omega) (by omega)) ?_
  refine R.astore dX11_addBuyer_20 (by first | rfl | exact rfv_rf _) (Nat.le_of_ble_eq_true rfl) (by decide) (by first | rfl | simp [lft, rf_cat]) rfl ?_
  refine R.aload dX11_addBuyer_22 rfl (by first | rfl | exact rfv_rf _) ?_
  refine R.ifnullS (tgt := 65) (by first | decide | exact Nat.lt_of_le_of_lt (Nat.le_of_eq (kd_rf _ _ (by decide))) (by decide)) dX11_addBuyer_24 (by decide) ?_
  refine R.aload dX11_addBuyer_27 rfl (by first | rfl | exact rfv_rf _) ?_
  refine R.iload_n dX11_addBuyer_29 rfl ?_
  refine R.putI dX11_addBuyer_30 fl_X11_92 (fun q hq => by cases hq; exact Or.inl rfl) (by decide) rfl rfl rfl ?_
  refine R.aload dX11_addBuyer_33 rfl (by first | rfl | exact rfv_rf _) ?_
  refine R.iload_n dX11_addBuyer_35 rfl ?_
  refine R.putI dX11_addBuyer_36 fl_X11_110 (fun q hq => by cases hq; exact Or.inl rfl) (by decide) rfl rfl rfl ?_
  refine R.aload dX11_addBuyer_39 rfl (by first | rfl | exact rfv_rf _) ?_
  refine R.iload_n dX11_addBuyer_41 rfl ?_
  refine R.putI dX11_addBuyer_42 fl_X11_113 (fun q hq => by cases hq; exact Or.inl rfl) (by decide) rfl rfl rfl ?_
  refine R.aload dX11_addBuyer_45 rfl (by first | rfl | exact rfv_rf _) ?_
  refine R.iload dX11_addBuyer_47 rfl ?_
  refine R.putI dX11_addBuyer_49 fl_X11_116 (fun q hq => by cases hq; exact Or.inl rfl) (by decide) rfl rfl rfl ?_
  refine R.aload_n dX11_addBuyer_52 rfl (by first | rfl | exact rfv_rf _) ?_
  refine R.getS (lay3 (by first | assumption | exact hL)) dX11_addBuyer_53 fl_X11_33 (by decide) rfl ?_
  refine R.dup dX11_addBuyer_56 (by first | rfl | exact rf_cat _) ?_
  refine R.getI dX11_addBuyer_57 fl_X11_119 (by decide) rfl ?_
  refine R.iload_n dX11_addBuyer_60 rfl ?_
  refine R.iadd dX11_addBuyer_61 ?_
  refine R.putI dX11_addBuyer_62 fl_X11_119 (fun q hq => by cases hq; exact Or.inl rfl) (by decide) rfl rfl rfl ?_
  refine WP.ret (ov := none) dX11_addBuyer_65 ⟨rfl, rfl⟩ ?_
  refine hq _ ?_ ?_
  · refine Yv.tT ?_ (by decide) (fun g => by rw [g.rT]; rfl)
    refine Yv.tB ?_ hn (by decide) (by decide) (fun _ => rfl)
    refine Yv.tB ?_ hn (by decide) (by decide) (fun _ => rfl)
    refine Yv.tB ?_ hn (by decide) (by decide) (fun _ => rfl)
    refine Yv.tB ?_ hn (by decide) (by decide) (fun _ => rfl)
    refine Yv.tF ?_ (by decide) (fun g => by rw [g.rF])
    exact h
  · refine Fr.sI ?_ inY_T
    refine Fr.sI ?_ (inY_B hn)
    refine Fr.sI ?_ (inY_B hn)
    refine Fr.sI ?_ (inY_B hn)
    refine Fr.sI ?_ (inY_B hn)
    refine Fr.sI ?_ inY_F
    exact Fr.rf _ _
set_option maxHeartbeats 1000000 in
set_option maxRecDepth 4000 in
theorem s_ySend {d : Nat} {y : Nat} {Y : Yd} {t : Nat} {M : Mem} {Q : Out → Mem → Prop} (h : Yv M y Y) (hA : Acy Y) (hq : ∀ M', Yv M' y (saF t 16 0 Y) → Fr (inY y) M M' → Q (.inl none) M') : WPc (d + 1) mX11_sendAway [.ref (rf 9 y), .ref (rf 1 (16 * y + t))] M Q := by
  refine WPc.of (by decide +kernel) (Nat.le_of_ble_eq_true rfl) rfl ?_
  have hL := h.lay
  have key : ∀ (k i : Nat) (v : Value) (M1 : Mem) (Y1 : Yd), i + k = 16 → Yv M1 y Y1 → Acy Y1 → Fr (inY y) M M1 → (∀ M', Yv M' y (saF t k i Y1) → Fr (inY y) M M' → Q (.inl none) M') → WP mX11_sendAway (d + 1) 11 [.ref (rf 9 y), .ref (rf 1 (16 * y + t)), .ref (rf 18 y), .int (nI 16), .int (nI i), v] [] M1 Q := by
    intro k
    induction k with
    | zero =>
      intro i v M1 Y1 hik h hA hF hq
      have e : i = 16 := by omega
      subst e
      have hL := h.lay
      refine R.iload dX11_sendAway_11 rfl ?_
      refine R.iload_n dX11_sendAway_13 rfl ?_
      refine R.geT (tgt := 44) (Int32.le_refl _) dX11_sendAway_14 (by decide) ?_
      refine WP.ret (ov := none) dX11_sendAway_44 ⟨rfl, rfl⟩ ?_
      exact hq _ h hF
    | succ k ih =>
      intro i v M1 Y1 hik h hA hF hq
      have hi : i < 16 := by omega
      have hL := h.lay
      refine R.iload dX11_sendAway_11 rfl ?_
      refine R.iload_n dX11_sendAway_13 rfl ?_
      refine R.geF (tgt := 44) (nI_ge hi (by decide)) dX11_sendAway_14 (by decide) ?_
      refine R.aload_n dX11_sendAway_17 rfl (by first | rfl | exact rfv_rf _) ?_
      refine R.iload dX11_sendAway_18 rfl ?_
      refine R.aalS (Lay.cr (by first | assumption | exact hL) hi) (by decide) (by decide) dX11_sendAway_20 (nI_pos (by omega)) (Lay.crl (by first | assumption | exact hL) hi) ?_
      refine R.astore dX11_sendAway_21 (by first | rfl | exact rfv_rf _) (Nat.le_of_ble_eq_true rfl) (by decide) (by first | rfl | simp [lft, rf_cat]) rfl ?_
      refine R.aload dX11_sendAway_23 rfl (by first | rfl | exact rfv_rf _) ?_
      refine R.aload_n dX11_sendAway_25 rfl (by first | rfl | exact rfv_rf _) ?_
      refine cl_X11_140 rfl rfl (by first | exact Nat.le_of_ble_eq_true rfl | simp [rf_cat, Value.category]) dX11_sendAway_26 ?_
      refine s_cIn h hi (hac1 hA hi) ?_
      refine R.if_eq (tgt := 38) dX11_sendAway_29 (by decide) (fun c29 => ?_) (fun c29 => ?_)
      · refine R.iinc dX11_sendAway_38 (Nat.le_of_ble_eq_true rfl) (by decide) (by first | rfl | simp [lft, rf_cat]) rfl (inc_nI _) rfl ?_
        refine R.goto (tgt := 11) dX11_sendAway_41 (by decide) ?_
        refine ih (i + 1) _ _ _ (by omega) h hA hF ?_
        rw [saF, if_neg (by intro z; unfold ins at z; rw [if_pos z] at c29; exact absurd c29 (by decide))] at hq
        exact hq
      · refine R.aload dX11_sendAway_32 rfl (by first | rfl | exact rfv_rf _) ?_
        refine R.iconst (v := 0) dX11_sendAway_34 rfl ?_
        refine R.putI dX11_sendAway_35 fl_X11_102 (fun q hq => by cases hq; exact Or.inl rfl) (by decide) rfl (by first | rfl | assumption) (by first | rfl | assumption) ?_
        refine R.iinc dX11_sendAway_38 (Nat.le_of_ble_eq_true rfl) (by decide) (by first | rfl | simp [lft, rf_cat]) rfl (inc_nI _) rfl ?_
        refine R.goto (tgt := 11) dX11_sendAway_41 (by decide) ?_
        refine ih (i + 1) _ _ _ (by omega) (Yv.tC h hi (f := 7) (v := 0) (by decide) (by decide) (fun _ => rfl)) hA (Fr.sI hF (inY_C hi)) ?_
        rw [saF, if_pos (by unfold ins; cases z : inO 6 (yP Y1) (some i) t; rw [z] at c29; exact absurd rfl c29; rfl)] at hq
        exact hq
  refine R.aload_n dX11_sendAway_0 rfl (by first | rfl | exact rfv_rf _) ?_
  refine R.getS (lay0 (by first | assumption | exact hL)) dX11_sendAway_1 fl_X11_11 (by decide) rfl ?_
  refine R.astore_n dX11_sendAway_4 (by first | rfl | exact rfv_rf _) (Nat.le_of_ble_eq_true rfl) (by decide) (by first | rfl | simp [lft, rf_cat]) rfl ?_
  refine R.aload_n dX11_sendAway_5 rfl (by first | rfl | exact rfv_rf _) ?_
  refine R.alenS (lay4 (by first | assumption | exact hL)) (by decide) (by decide) dX11_sendAway_6 ?_
  refine R.istore_n dX11_sendAway_7 (Nat.le_of_ble_eq_true rfl) (by decide) (by first | rfl | simp [lft, rf_cat]) rfl ?_
  refine R.iconst (v := 0) dX11_sendAway_8 rfl ?_
  refine R.istore dX11_sendAway_9 (Nat.le_of_ble_eq_true rfl) (by decide) (by first | rfl | simp [lft, rf_cat]) rfl ?_
  exact key 16 0 _ M Y (by omega) h hA (Fr.rf _ _) hq
set_option maxHeartbeats 1000000 in
set_option maxRecDepth 4000 in
theorem s_yTrade {d : Nat} {y : Nat} {Y : Yd} {i b : Nat} {M : Mem} {Q : Out → Mem → Prop} (h : Yv M y Y) (hi : i < 16) (hb : b < 6) (hA : Acy Y) (hq : ∀ M', Yv M' y (trY Y i b) → Fr (inY y) M M' → Q (.inl (some (.int (yPrice Y i - fRefund (yB Y b 3) (yErr Y i))))) M') : WPc (d + 3) mX11_trade [.ref (rf 9 y), .ref (rf 1 (16 * y + i)), .ref (rf 0 (6 * y + b))] M Q := by
  refine WPc.of (by decide +kernel) (Nat.le_of_ble_eq_true rfl) rfl ?_
  have hL := h.lay
  refine R.aload_n dX11_trade_0 rfl (by first | rfl | exact rfv_rf _) ?_
  refine cl_X11_169 rfl rfl (by first | exact Nat.le_of_ble_eq_true rfl | simp [rf_cat, Value.category]) dX11_trade_1 ?_
  refine s_cPrice ?_
  rw [h.rC hi, h.rL hi]
  refine R.istore_n dX11_trade_4 (Nat.le_of_ble_eq_true rfl) (by decide) (by first | rfl | simp [lft, rf_cat]) rfl ?_
  refine R.aload_n dX11_trade_5 rfl (by first | rfl | exact rfv_rf _) ?_
  refine cl_X11_179 rfl rfl (by first | exact Nat.le_of_ble_eq_true rfl | simp [rf_cat, Value.category]) dX11_trade_6 ?_
  refine s_cErr ?_
  rw [h.rC hi, h.rL hi, h.rC hi]
  refine R.istore dX11_trade_9 (Nat.le_of_ble_eq_true rfl) (by decide) (by first | rfl | simp [lft, rf_cat]) rfl ?_
  refine R.aload_n dX11_trade_11 rfl (by first | rfl | exact rfv_rf _) ?_
  refine R.iload dX11_trade_12 rfl ?_
  refine cl_X11_182 rfl rfl (by first | exact Nat.le_of_ble_eq_true rfl | simp [rf_cat, Value.category]) dX11_trade_14 ?_
  refine s_bRefund ?_
  rw [h.rB hb]
  refine R.istore dX11_trade_17 (Nat.le_of_ble_eq_true rfl) (by decide) (by first | rfl | simp [lft, rf_cat]) rfl ?_
  refine R.aload_n dX11_trade_19 rfl (by first | rfl | exact rfv_rf _) ?_
  refine R.aload_n dX11_trade_20 rfl (by first | rfl | exact rfv_rf _) ?_
  refine R.iload dX11_trade_21 rfl ?_
  refine cl_X11_186 rfl rfl (by first | exact Nat.le_of_ble_eq_true rfl | simp [rf_cat, Value.category]) dX11_trade_23 ?_
  refine s_bTrust ?_
  rw [h.rB hb, h.rB hb]
  refine R.putI dX11_trade_26 fl_X11_116 (fun q hq => by cases hq; exact Or.inl rfl) (by decide) rfl rfl rfl ?_
  refine R.aload_n dX11_trade_29 rfl (by first | rfl | exact rfv_rf _) ?_
  refine R.dup dX11_trade_30 (by first | rfl | exact rf_cat _) ?_
  refine R.getI dX11_trade_31 fl_X11_110 (by decide) rfl ?_
  refine R.iload dX11_trade_34 rfl ?_
  refine R.iload_n dX11_trade_36 rfl ?_
  refine R.isub dX11_trade_37 ?_
  refine R.iadd dX11_trade_38 ?_
  refine R.putI dX11_trade_39 fl_X11_110 (fun q hq => by cases hq; exact Or.inl rfl) (by decide) rfl rfl rfl ?_
  refine R.aload_n dX11_trade_42 rfl (by first | rfl | exact rfv_rf _) ?_
  refine R.dup dX11_trade_43 (by first | rfl | exact rf_cat _) ?_
  refine R.getI dX11_trade_44 fl_X11_189 (by decide) rfl ?_
  refine R.iconst (v := 1) dX11_trade_47 rfl ?_
  refine R.iadd dX11_trade_48 ?_
  refine R.putI dX11_trade_49 fl_X11_189 (fun q hq => by cases hq; exact Or.inl rfl) (by decide) rfl rfl rfl ?_
  refine R.aload_n dX11_trade_52 rfl (by first | rfl | exact rfv_rf _) ?_
  refine R.getS (lay3 (by first | assumption | exact hL)) dX11_trade_53 fl_X11_33 (by decide) rfl ?_
  refine R.dup dX11_trade_56 (by first | rfl | exact rf_cat _) ?_
  refine R.getI dX11_trade_57 fl_X11_192 (by decide) rfl ?_
  refine R.iconst (v := 1) dX11_trade_60 rfl ?_
  refine R.iadd dX11_trade_61 ?_
  refine R.putI dX11_trade_62 fl_X11_192 (fun q hq => by cases hq; exact Or.inl rfl) (by decide) rfl rfl rfl ?_
  refine R.aload_n dX11_trade_65 rfl (by first | rfl | exact rfv_rf _) ?_
  refine R.getS (lay3 (by first | assumption | exact hL)) dX11_trade_66 fl_X11_33 (by decide) rfl ?_
  refine R.dup dX11_trade_69 (by first | rfl | exact rf_cat _) ?_
  refine R.getI dX11_trade_70 fl_X11_195 (by decide) rfl ?_
  refine R.iload_n dX11_trade_73 rfl ?_
  refine R.iadd dX11_trade_74 ?_
  refine R.putI dX11_trade_75 fl_X11_195 (fun q hq => by cases hq; exact Or.inl rfl) (by decide) rfl rfl rfl ?_
  refine R.aload_n dX11_trade_78 rfl (by first | rfl | exact rfv_rf _) ?_
  refine R.getS (lay3 (by first | assumption | exact hL)) dX11_trade_79 fl_X11_33 (by decide) rfl ?_
  refine R.dup dX11_trade_82 (by first | rfl | exact rf_cat _) ?_
  refine R.getI dX11_trade_83 fl_X11_198 (by decide) rfl ?_
  refine R.iload dX11_trade_86 rfl ?_
  refine R.iadd dX11_trade_88 ?_
  refine R.putI dX11_trade_89 fl_X11_198 (fun q hq => by cases hq; exact Or.inl rfl) (by decide) rfl rfl rfl ?_
  refine R.aload_n dX11_trade_92 rfl (by first | rfl | exact rfv_rf _) ?_
  refine R.aload_n dX11_trade_93 rfl (by first | rfl | exact rfv_rf _) ?_
  refine cl_X11_201 rfl rfl (by first | exact Nat.le_of_ble_eq_true rfl | simp [rf_cat, Value.category]) dX11_trade_94 ?_
  refine s_ySend (Y := trY0 Y i b) ?_ hA (fun M6 h6 F6 => ?_)
  · refine Yv.tT ?_ (by decide) (fun g => by rw [g.rT]; rfl)
    refine Yv.tT ?_ (by decide) (fun g => by rw [g.rT]; rfl)
    refine Yv.tT ?_ (by decide) (fun g => by rw [g.rT]; rfl)
    refine Yv.tB ?_ hb (by decide) (by decide) (fun g => by rw [g.rB hb]; simp [yB_uB])
    refine Yv.tB ?_ hb (by decide) (by decide) (fun g => by rw [g.rB hb]; simp [yB_uB, yErr, yPrice, yMean])
    refine Yv.tB ?_ hb (by decide) (by decide) (fun _ => rfl)
    exact h
  refine R.iload_n dX11_trade_97 rfl ?_
  refine R.iload dX11_trade_98 rfl ?_
  refine R.isub dX11_trade_100 ?_
  refine WP.ret (ov := some (.int _)) dX11_trade_101 ⟨rfl, _, rfl, by first | rfl | assumption | exact nar_b01 (by assumption)⟩ ?_
  refine hq _ h6 (Fr.tr ?_ F6)
  refine Fr.sI ?_ inY_T
  refine Fr.sI ?_ inY_T
  refine Fr.sI ?_ inY_T
  refine Fr.sI ?_ (inY_B hb)
  refine Fr.sI ?_ (inY_B hb)
  refine Fr.sI ?_ (inY_B hb)
  exact Fr.rf _ _
