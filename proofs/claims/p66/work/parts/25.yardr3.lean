/-! a yard's methods that change nothing, the rest -/
theorem sw_eq {x : Int32} {k : Nat} (h : x = nI k) (hk : k < 2 ^ 31) : x.toInt = (k : Int) := by rw [h]; exact nI_toInt hk
theorem yRef_lt (Y : Yd) (i b : Nat) : yRef Y i b = 0 ∨ yRef Y i b = 1 ∨ yRef Y i b = 2 ∨ yRef Y i b = 3 ∨ yRef Y i b = 4 ∨ yRef Y i b = 5 := by
  unfold yRef
  repeat' split
  all_goals simp
set_option maxHeartbeats 1000000 in
set_option maxRecDepth 4000 in
theorem s_yAnc {d : Nat} {y : Nat} {Y : Yd} {t : Nat} {M : Mem} {Q : Out → Mem → Prop} (h : Yv M y Y) (hA : Acy Y) (hq : Q (.inl (some (.int (gaF Y t 16 0 0)))) M) : WPc (d + 1) mX11_grossByAncestors [.ref (rf 9 y), .ref (rf 1 (16 * y + t))] M Q := by
  refine WPc.of (by decide +kernel) (Nat.le_of_ble_eq_true rfl) rfl ?_
  have hL := h.lay
  have key : ∀ (k i : Nat) (v : Value) (a : Int32), i + k = 16 → Q (.inl (some (.int (gaF Y t k i a)))) M → WP mX11_grossByAncestors (d + 1) 14 [.ref (rf 9 y), .ref (rf 1 (16 * y + t)), .int a, .ref (rf 18 y), .int (nI 16), .int (nI i), v] [] M Q := by
    intro k
    induction k with
    | zero =>
      intro i v a hik hq
      have e : i = 16 := by omega
      subst e
      refine R.iload dX11_grossByAncestors_14 rfl ?_
      refine R.iload dX11_grossByAncestors_16 rfl ?_
      refine R.geT (tgt := 56) (Int32.le_refl _) dX11_grossByAncestors_18 (by decide) ?_
      refine R.iload_n dX11_grossByAncestors_56 rfl ?_
      refine WP.ret (ov := some (.int _)) dX11_grossByAncestors_57 ⟨rfl, _, rfl, by first | rfl | assumption | exact nar_b01 (by assumption)⟩ ?_
      exact hq
    | succ k ih =>
      intro i v a hik hq
      have hi : i < 16 := by omega
      refine R.iload dX11_grossByAncestors_14 rfl ?_
      refine R.iload dX11_grossByAncestors_16 rfl ?_
      refine R.geF (tgt := 56) (nI_ge hi (by decide)) dX11_grossByAncestors_18 (by decide) ?_
      refine R.aload_n dX11_grossByAncestors_21 rfl (by first | rfl | exact rfv_rf _) ?_
      refine R.iload dX11_grossByAncestors_22 rfl ?_
      refine R.aalS (Lay.cr (by first | assumption | exact hL) hi) (by decide) (by decide) dX11_grossByAncestors_24 (nI_pos (by omega)) (Lay.crl (by first | assumption | exact hL) hi) ?_
      refine R.astore dX11_grossByAncestors_25 (by first | rfl | exact rfv_rf _) (Nat.le_of_ble_eq_true rfl) (by decide) (by first | rfl | simp [lft, rf_cat]) rfl ?_
      refine R.aload dX11_grossByAncestors_27 rfl (by first | rfl | exact rfv_rf _) ?_
      refine R.aload_n dX11_grossByAncestors_29 rfl (by first | rfl | exact rfv_rf _) ?_
      refine cl_X11_140 rfl rfl (by first | exact Nat.le_of_ble_eq_true rfl | simp [rf_cat, Value.category]) dX11_grossByAncestors_30 ?_
      refine s_cIn h hi (hac1 hA hi) ?_
      refine R.if_eq (tgt := 50) dX11_grossByAncestors_33 (by decide) (fun c33 => ?_) (fun c33 => ?_)
      · refine R.iinc dX11_grossByAncestors_50 (Nat.le_of_ble_eq_true rfl) (by decide) (by first | rfl | simp [lft, rf_cat]) rfl (inc_nI _) rfl ?_
        refine R.goto (tgt := 14) dX11_grossByAncestors_53 (by decide) ?_
        refine ih (i + 1) _ _ (by omega) ?_
        rw [gaF, if_neg (by intro z; unfold ins at z; rw [if_pos z] at c33; exact absurd c33 (by decide))] at hq
        exact hq
      · refine R.iload_n dX11_grossByAncestors_36 rfl ?_
        refine R.aload dX11_grossByAncestors_37 rfl (by first | rfl | exact rfv_rf _) ?_
        refine R.getI dX11_grossByAncestors_39 fl_X11_93 (by decide) rfl ?_
        refine R.aload dX11_grossByAncestors_42 rfl (by first | rfl | exact rfv_rf _) ?_
        refine R.getI dX11_grossByAncestors_44 fl_X11_96 (by decide) rfl ?_
        refine R.iadd dX11_grossByAncestors_47 ?_
        refine R.iadd dX11_grossByAncestors_48 ?_
        refine R.istore_n dX11_grossByAncestors_49 (Nat.le_of_ble_eq_true rfl) (by decide) (by first | rfl | simp [lft, rf_cat]) rfl ?_
        refine R.iinc dX11_grossByAncestors_50 (Nat.le_of_ble_eq_true rfl) (by decide) (by first | rfl | simp [lft, rf_cat]) rfl (inc_nI _) rfl ?_
        refine R.goto (tgt := 14) dX11_grossByAncestors_53 (by decide) ?_
        rw [h.rC hi, h.rC hi]
        refine ih (i + 1) _ _ (by omega) ?_
        rw [gaF, if_pos (by unfold ins; cases z : inO 6 (yP Y) (some i) t; rw [z] at c33; exact absurd rfl c33; rfl)] at hq
        exact hq
  refine R.iconst (v := 0) dX11_grossByAncestors_0 rfl ?_
  refine R.istore_n dX11_grossByAncestors_1 (Nat.le_of_ble_eq_true rfl) (by decide) (by first | rfl | simp [lft, rf_cat]) rfl ?_
  refine R.aload_n dX11_grossByAncestors_2 rfl (by first | rfl | exact rfv_rf _) ?_
  refine R.getS (lay0 (by first | assumption | exact hL)) dX11_grossByAncestors_3 fl_X11_11 (by decide) rfl ?_
  refine R.astore_n dX11_grossByAncestors_6 (by first | rfl | exact rfv_rf _) (Nat.le_of_ble_eq_true rfl) (by decide) (by first | rfl | simp [lft, rf_cat]) rfl ?_
  refine R.aload_n dX11_grossByAncestors_7 rfl (by first | rfl | exact rfv_rf _) ?_
  refine R.alenS (lay4 (by first | assumption | exact hL)) (by decide) (by decide) dX11_grossByAncestors_8 ?_
  refine R.istore dX11_grossByAncestors_9 (Nat.le_of_ble_eq_true rfl) (by decide) (by first | rfl | simp [lft, rf_cat]) rfl ?_
  refine R.iconst (v := 0) dX11_grossByAncestors_11 rfl ?_
  refine R.istore dX11_grossByAncestors_12 (Nat.le_of_ble_eq_true rfl) (by decide) (by first | rfl | simp [lft, rf_cat]) rfl ?_
  exact key 16 0 _ 0 (by omega) hq
set_option maxHeartbeats 1000000 in
set_option maxRecDepth 4000 in
theorem s_yMoney {d : Nat} {y : Nat} {Y : Yd} {M : Mem} {Q : Out → Mem → Prop} (h : Yv M y Y) (hq : Q (.inl (some (.int (if moF Y 6 0 (yT Y 4 - yT Y 5) = yT Y 6 then 1 else 0)))) M) : WPc d mX11_isMoneySound [.ref (rf 9 y)] M Q := by
  refine WPc.of (by decide +kernel) (Nat.le_of_ble_eq_true rfl) rfl ?_
  have hL := h.lay
  have key : ∀ (k i : Nat) (v : Value) (a : Int32), i + k = 6 → Q (.inl (some (.int (if moF Y k i a = yT Y 6 then 1 else 0)))) M → WP mX11_isMoneySound d 27 [.ref (rf 9 y), .int a, .ref (rf 17 y), .int (nI 6), .int (nI i), v] [] M Q := by
    intro k
    induction k with
    | zero =>
      intro i v a hik hq
      have e : i = 6 := by omega
      subst e
      refine R.iload dX11_isMoneySound_27 rfl ?_
      refine R.iload_n dX11_isMoneySound_29 rfl ?_
      refine R.geT (tgt := 53) (Int32.le_refl _) dX11_isMoneySound_30 (by decide) ?_
      refine R.iload_n dX11_isMoneySound_53 rfl ?_
      refine R.aload_n dX11_isMoneySound_54 rfl (by first | rfl | exact rfv_rf _) ?_
      refine R.getS (lay3 (by first | assumption | exact hL)) dX11_isMoneySound_55 fl_X11_33 (by decide) rfl ?_
      refine R.getI dX11_isMoneySound_58 fl_X11_119 (by decide) rfl ?_
      rw [h.rT]
      refine R.icmp_ne (tgt := 68) dX11_isMoneySound_61 (by decide) (fun c61 => ?_) (fun c61 => ?_)
      · refine R.iconst (v := 0) dX11_isMoneySound_68 rfl ?_
        refine WP.ret (ov := some (.int _)) dX11_isMoneySound_69 ⟨rfl, _, rfl, by first | rfl | assumption | exact nar_b01 (by assumption)⟩ ?_
        rw [show moF Y 0 6 a = a from rfl, if_neg c61] at hq
        exact hq
      · refine R.iconst (v := 1) dX11_isMoneySound_64 rfl ?_
        refine R.goto (tgt := 69) dX11_isMoneySound_65 (by decide) ?_
        refine WP.ret (ov := some (.int _)) dX11_isMoneySound_69 ⟨rfl, _, rfl, by first | rfl | assumption | exact nar_b01 (by assumption)⟩ ?_
        rw [show moF Y 0 6 a = a from rfl, if_pos c61] at hq
        exact hq
    | succ k ih =>
      intro i v a hik hq
      have hi : i < 6 := by omega
      refine R.iload dX11_isMoneySound_27 rfl ?_
      refine R.iload_n dX11_isMoneySound_29 rfl ?_
      refine R.geF (tgt := 53) (nI_ge hi (by decide)) dX11_isMoneySound_30 (by decide) ?_
      refine R.aload_n dX11_isMoneySound_33 rfl (by first | rfl | exact rfv_rf _) ?_
      refine R.iload dX11_isMoneySound_34 rfl ?_
      refine R.aalS (Lay.br (by first | assumption | exact hL) hi) (by decide) (by decide) dX11_isMoneySound_36 (nI_pos (by omega)) (Lay.brl (by first | assumption | exact hL) hi) ?_
      refine R.astore dX11_isMoneySound_37 (by first | rfl | exact rfv_rf _) (Nat.le_of_ble_eq_true rfl) (by decide) (by first | rfl | simp [lft, rf_cat]) rfl ?_
      refine R.iload_n dX11_isMoneySound_39 rfl ?_
      refine R.aload dX11_isMoneySound_40 rfl (by first | rfl | exact rfv_rf _) ?_
      refine R.getI dX11_isMoneySound_42 fl_X11_110 (by decide) rfl ?_
      refine R.iadd dX11_isMoneySound_45 ?_
      refine R.istore_n dX11_isMoneySound_46 (Nat.le_of_ble_eq_true rfl) (by decide) (by first | rfl | simp [lft, rf_cat]) rfl ?_
      refine R.iinc dX11_isMoneySound_47 (Nat.le_of_ble_eq_true rfl) (by decide) (by first | rfl | simp [lft, rf_cat]) rfl (inc_nI _) rfl ?_
      refine R.goto (tgt := 27) dX11_isMoneySound_50 (by decide) ?_
      rw [h.rB hi]
      exact ih (i + 1) _ _ (by omega) hq
  refine R.aload_n dX11_isMoneySound_0 rfl (by first | rfl | exact rfv_rf _) ?_
  refine R.getS (lay3 (by first | assumption | exact hL)) dX11_isMoneySound_1 fl_X11_33 (by decide) rfl ?_
  refine R.getI dX11_isMoneySound_4 fl_X11_195 (by decide) rfl ?_
  rw [h.rT]
  refine R.aload_n dX11_isMoneySound_7 rfl (by first | rfl | exact rfv_rf _) ?_
  refine R.getS (lay3 (by first | assumption | exact hL)) dX11_isMoneySound_8 fl_X11_33 (by decide) rfl ?_
  refine R.getI dX11_isMoneySound_11 fl_X11_198 (by decide) rfl ?_
  rw [h.rT]
  refine R.isub dX11_isMoneySound_14 ?_
  refine R.istore_n dX11_isMoneySound_15 (Nat.le_of_ble_eq_true rfl) (by decide) (by first | rfl | simp [lft, rf_cat]) rfl ?_
  refine R.aload_n dX11_isMoneySound_16 rfl (by first | rfl | exact rfv_rf _) ?_
  refine R.getS (lay1 (by first | assumption | exact hL)) dX11_isMoneySound_17 fl_X11_19 (by decide) rfl ?_
  refine R.astore_n dX11_isMoneySound_20 (by first | rfl | exact rfv_rf _) (Nat.le_of_ble_eq_true rfl) (by decide) (by first | rfl | simp [lft, rf_cat]) rfl ?_
  refine R.aload_n dX11_isMoneySound_21 rfl (by first | rfl | exact rfv_rf _) ?_
  refine R.alenS (lay5 (by first | assumption | exact hL)) (by decide) (by decide) dX11_isMoneySound_22 ?_
  refine R.istore_n dX11_isMoneySound_23 (Nat.le_of_ble_eq_true rfl) (by decide) (by first | rfl | simp [lft, rf_cat]) rfl ?_
  refine R.iconst (v := 0) dX11_isMoneySound_24 rfl ?_
  refine R.istore dX11_isMoneySound_25 (Nat.le_of_ble_eq_true rfl) (by decide) (by first | rfl | simp [lft, rf_cat]) rfl ?_
  exact key 6 0 _ _ (by omega) hq
set_option maxHeartbeats 1000000 in
set_option maxRecDepth 4000 in
theorem s_yTot {d : Nat} {y : Nat} {Y : Yd} {M : Mem} {Q : Out → Mem → Prop} (h : Yv M y Y) (hq : Q (.inl (some (.int (if yT Y 0 = stF Y 16 0 0 + yT Y 1 then 1 else 0)))) M) : WPc (d + 1) mX11_areTotalsSound [.ref (rf 9 y)] M Q := by
  refine WPc.of (by decide +kernel) (Nat.le_of_ble_eq_true rfl) rfl ?_
  have hL := h.lay
  refine R.aload_n dX11_areTotalsSound_0 rfl (by first | rfl | exact rfv_rf _) ?_
  refine R.getS (lay3 (by first | assumption | exact hL)) dX11_areTotalsSound_1 fl_X11_33 (by decide) rfl ?_
  refine R.getI dX11_areTotalsSound_4 fl_X11_129 (by decide) rfl ?_
  rw [h.rT]
  refine R.aload_n dX11_areTotalsSound_7 rfl (by first | rfl | exact rfv_rf _) ?_
  refine cl_X11_222 rfl rfl (by first | exact Nat.le_of_ble_eq_true rfl | simp [rf_cat, Value.category]) dX11_areTotalsSound_8 ?_
  refine s_yStored h ?_
  refine R.aload_n dX11_areTotalsSound_11 rfl (by first | rfl | exact rfv_rf _) ?_
  refine R.getS (lay3 (by first | assumption | exact hL)) dX11_areTotalsSound_12 fl_X11_33 (by decide) rfl ?_
  refine R.getI dX11_areTotalsSound_15 fl_X11_156 (by decide) rfl ?_
  rw [h.rT]
  refine R.iadd dX11_areTotalsSound_18 ?_
  refine R.icmp_ne (tgt := 26) dX11_areTotalsSound_19 (by decide) (fun c19 => ?_) (fun c19 => ?_)
  · refine R.iconst (v := 0) dX11_areTotalsSound_26 rfl ?_
    refine WP.ret (ov := some (.int _)) dX11_areTotalsSound_27 ⟨rfl, _, rfl, by first | rfl | assumption | exact nar_b01 (by assumption)⟩ ?_
    rw [if_neg c19] at hq
    exact hq
  · refine R.iconst (v := 1) dX11_areTotalsSound_22 rfl ?_
    refine R.goto (tgt := 27) dX11_areTotalsSound_23 (by decide) ?_
    refine WP.ret (ov := some (.int _)) dX11_areTotalsSound_27 ⟨rfl, _, rfl, by first | rfl | assumption | exact nar_b01 (by assumption)⟩ ?_
    rw [if_pos c19] at hq
    exact hq
def gcL (Y : Yd) (g : Nat → Int32) : Nat → Option Nat → Int32 → Int32
  | 0, _, a => a
  | f + 1, o, a => match o with
    | none => a
    | some c => gcL Y g f (nCh Y c) (a + g c)
def gcF (Y : Yd) : Nat → Nat → Int32
  | 0, i => yC Y i 2 + yC Y i 3
  | n + 1, i => gcL Y (gcF Y n) 17 (fCh Y i) (yC Y i 2 + yC Y i 3)
def chE (Y : Yd) : Nat → Option Nat → Prop
  | 0, o => o = none
  | f + 1, o => match o with
    | none => True
    | some c => chE Y f (nCh Y c)
/-- the children of a crate come to an end -/
def ChE (Y : Yd) : Prop := ∀ i, i < 16 → chE Y 17 (fCh Y i)
theorem caF_lt {Y : Yd} {o : Nat} {t : Int32} : ∀ (k i : Nat) (b : Option Nat), i + k = 16 → (∀ c, b = some c → c < 16) → ∀ c, caF Y o t k i b = some c → c < 16 := by
  intro k
  induction k with
  | zero => intro i b _ hb c h; exact hb c h
  | succ k ih =>
    intro i b hik hb c h
    rw [caF] at h
    refine ih (i + 1) _ (by omega) ?_ c h
    intro e he
    split at he
    · cases he; omega
    · exact hb e he
theorem fCh_lt {Y : Yd} {o c : Nat} (h : fCh Y o = some c) : c < 16 := caF_lt 16 0 none (by omega) (fun _ e => nomatch e) c h
theorem nCh_lt {Y : Yd} {o c : Nat} (h : nCh Y o = some c) : c < 16 := by
  unfold nCh at h
  split at h
  · cases h
  · exact caF_lt 16 0 none (by omega) (fun _ e => nomatch e) c h
set_option maxHeartbeats 1000000 in
set_option maxRecDepth 4000 in
theorem s_yChl {d y : Nat} {Y : Yd} {M : Mem} (h : Yv M y Y) (hE : ChE Y) : ∀ (n l i : Nat), l + n = 5 → i < 16 → ∀ {Q : Out → Mem → Prop}, Q (.inl (some (.int (gcF Y n i)))) M → WPc (d + n + 2) mX11_grossByChildren [.ref (rf 9 y), .ref (rf 1 (16 * y + i)), .int (nI l)] M Q := by
  have hL := h.lay
  intro n
  induction n with
  | zero =>
    intro l i hl hi Q hq
    have e : l = 5 := by omega
    subst e
    refine WPc.of (by decide +kernel) (Nat.le_of_ble_eq_true rfl) rfl ?_
    refine R.aload_n dX11_grossByChildren_0 rfl (by first | rfl | exact rfv_rf _) ?_
    refine R.getI dX11_grossByChildren_1 fl_X11_93 (by decide) rfl ?_
    rw [h.rC hi]
    refine R.aload_n dX11_grossByChildren_4 rfl (by first | rfl | exact rfv_rf _) ?_
    refine R.getI dX11_grossByChildren_5 fl_X11_96 (by decide) rfl ?_
    rw [h.rC hi]
    refine R.iadd dX11_grossByChildren_8 ?_
    refine R.istore_n dX11_grossByChildren_9 (Nat.le_of_ble_eq_true rfl) (by decide) (by first | rfl | simp [lft, rf_cat]) rfl ?_
    refine R.iload_n dX11_grossByChildren_10 rfl ?_
    refine R.iconst (v := 5) dX11_grossByChildren_11 rfl ?_
    refine R.icmp_lt (tgt := 17) dX11_grossByChildren_12 (by decide) (fun c12 => ?_) (fun c12 => ?_)
    · have n12 := i_nle c12
      exact absurd c12 (by decide)
    · have n12 := i_nlt c12
      refine R.iload_n dX11_grossByChildren_15 rfl ?_
      refine WP.ret (ov := some (.int _)) dX11_grossByChildren_16 ⟨rfl, _, rfl, by first | rfl | assumption | exact nar_b01 (by assumption)⟩ ?_
      exact hq
  | succ n ih =>
    intro l i hl hi Q hq
    show WPc (d + n + 2 + 1) mX11_grossByChildren [.ref (rf 9 y), .ref (rf 1 (16 * y + i)), .int (nI l)] M Q
    refine WPc.of (by decide +kernel) (Nat.le_of_ble_eq_true rfl) rfl ?_
    have key : ∀ (f : Nat) (o : Option Nat) (a : Int32), chE Y f o → (∀ c, o = some c → c < 16) → Q (.inl (some (.int (gcL Y (gcF Y n) f o a)))) M → WP mX11_grossByChildren (d + n + 2 + 1) 24 [.ref (rf 9 y), .ref (rf 1 (16 * y + i)), .int (nI l), .int a, va_rf (o.map fun j => rf 1 (16 * y + j))] [] M Q := by
      intro f
      induction f with
      | zero =>
        intro o a hE ho hq
        cases (show o = none from hE)
        show WP mX11_grossByChildren (d + n + 2 + 1) 24 [.ref (rf 9 y), .ref (rf 1 (16 * y + i)), .int (nI l), .int a, .null] [] M Q
        refine R.aload dX11_grossByChildren_24 rfl (by first | rfl | exact rfv_rf _) ?_
        refine R.ifnullN (tgt := 52) dX11_grossByChildren_26 (by decide) ?_
        refine R.iload_n dX11_grossByChildren_52 rfl ?_
        refine WP.ret (ov := some (.int _)) dX11_grossByChildren_53 ⟨rfl, _, rfl, by first | rfl | assumption | exact nar_b01 (by assumption)⟩ ?_
        exact hq
      | succ f key =>
        intro o a hE ho hq
        cases o with
        | none =>
          show WP mX11_grossByChildren (d + n + 2 + 1) 24 [.ref (rf 9 y), .ref (rf 1 (16 * y + i)), .int (nI l), .int a, .null] [] M Q
          refine R.aload dX11_grossByChildren_24 rfl (by first | rfl | exact rfv_rf _) ?_
          refine R.ifnullN (tgt := 52) dX11_grossByChildren_26 (by decide) ?_
          refine R.iload_n dX11_grossByChildren_52 rfl ?_
          refine WP.ret (ov := some (.int _)) dX11_grossByChildren_53 ⟨rfl, _, rfl, by first | rfl | assumption | exact nar_b01 (by assumption)⟩ ?_
          exact hq
        | some c =>
          have hc := ho c rfl
          show WP mX11_grossByChildren (d + n + 2 + 1) 24 [.ref (rf 9 y), .ref (rf 1 (16 * y + i)), .int (nI l), .int a, .ref (rf 1 (16 * y + c))] [] M Q
          refine R.aload dX11_grossByChildren_24 rfl (by first | rfl | exact rfv_rf _) ?_
          refine R.ifnullS (tgt := 52) (by first | decide | exact Nat.lt_of_le_of_lt (Nat.le_of_eq (kd_rf _ _ (by decide))) (by decide)) dX11_grossByChildren_26 (by decide) ?_
          refine R.iload_n dX11_grossByChildren_29 rfl ?_
          refine R.aload_n dX11_grossByChildren_30 rfl (by first | rfl | exact rfv_rf _) ?_
          refine R.aload dX11_grossByChildren_31 rfl (by first | rfl | exact rfv_rf _) ?_
          refine R.iload_n dX11_grossByChildren_33 rfl ?_
          refine R.iconst (v := 1) dX11_grossByChildren_34 rfl ?_
          refine R.iadd dX11_grossByChildren_35 ?_
          rw [show nI l + (1 : Int32) = nI (l + 1) from (nI_succ l).symm]
          refine cl_X11_204 rfl rfl (by first | exact Nat.le_of_ble_eq_true rfl | simp [rf_cat, Value.category]) dX11_grossByChildren_36 ?_
          refine ih (l + 1) c (by omega) hc ?_
          refine R.iadd dX11_grossByChildren_39 ?_
          refine R.istore_n dX11_grossByChildren_40 (Nat.le_of_ble_eq_true rfl) (by decide) (by first | rfl | simp [lft, rf_cat]) rfl ?_
          refine R.aload_n dX11_grossByChildren_41 rfl (by first | rfl | exact rfv_rf _) ?_
          refine R.aload dX11_grossByChildren_42 rfl (by first | rfl | exact rfv_rf _) ?_
          refine cl_X11_219 rfl rfl (by first | exact Nat.le_of_ble_eq_true rfl | simp [rf_cat, Value.category]) dX11_grossByChildren_44 ?_
          refine s_yNext h hc ?_
          refine R.astore dX11_grossByChildren_47 (by first | rfl | exact rfv_rf _) (Nat.le_of_ble_eq_true rfl) (by decide) (by first | rfl | simp [lft, rf_cat]) rfl ?_
          refine R.goto (tgt := 24) dX11_grossByChildren_49 (by decide) ?_
          exact key (nCh Y c) _ hE (fun e he => nCh_lt he) hq
    refine R.aload_n dX11_grossByChildren_0 rfl (by first | rfl | exact rfv_rf _) ?_
    refine R.getI dX11_grossByChildren_1 fl_X11_93 (by decide) rfl ?_
    rw [h.rC hi]
    refine R.aload_n dX11_grossByChildren_4 rfl (by first | rfl | exact rfv_rf _) ?_
    refine R.getI dX11_grossByChildren_5 fl_X11_96 (by decide) rfl ?_
    rw [h.rC hi]
    refine R.iadd dX11_grossByChildren_8 ?_
    refine R.istore_n dX11_grossByChildren_9 (Nat.le_of_ble_eq_true rfl) (by decide) (by first | rfl | simp [lft, rf_cat]) rfl ?_
    refine R.iload_n dX11_grossByChildren_10 rfl ?_
    refine R.iconst (v := 5) dX11_grossByChildren_11 rfl ?_
    refine R.icmp_lt (tgt := 17) dX11_grossByChildren_12 (by decide) (fun _ => ?_) (fun c => absurd (nI_lt (a := l) (b := 5) (by omega) (by decide)) c)
    refine R.aload_n dX11_grossByChildren_17 rfl (by first | rfl | exact rfv_rf _) ?_
    refine R.aload_n dX11_grossByChildren_18 rfl (by first | rfl | exact rfv_rf _) ?_
    refine cl_X11_215 rfl rfl (by first | exact Nat.le_of_ble_eq_true rfl | simp [rf_cat, Value.category]) dX11_grossByChildren_19 ?_
    refine s_yFirst h ?_
    refine R.astore dX11_grossByChildren_22 (by first | rfl | exact rfv_rf _) (Nat.le_of_ble_eq_true rfl) (by decide) (by first | rfl | simp [lft, rf_cat]) rfl ?_
    exact key 17 (fCh Y i) _ (hE i hi) (fun e he => fCh_lt he) hq
def aoF (Y : Yd) : Nat → Nat → Int32
  | 0, _ => 1
  | k + 1, i => if gcF Y 5 i = yC Y i 4 ∧ gcF Y 5 i = gaF Y i 16 0 0 ∧ yL Y i 9 = (yC Y i 8).toInt64 * (yC Y i 4).toInt64 + yL Y i 10 + (if rem (yC Y i 8) 2 = 0 then 0 else (yC Y i 12).toInt64) then aoF Y k (i + 1) else 0
set_option maxHeartbeats 1000000 in
set_option maxRecDepth 4000 in
theorem s_yAll {d : Nat} {y : Nat} {Y : Yd} {M : Mem} {Q : Out → Mem → Prop} (h : Yv M y Y) (hA : Acy Y) (hE : ChE Y) (hq : Q (.inl (some (.int (aoF Y 16 0)))) M) : WPc (d + 8) mX11_areCratesSound [.ref (rf 9 y)] M Q := by
  refine WPc.of (by decide +kernel) (Nat.le_of_ble_eq_true rfl) rfl ?_
  have hL := h.lay
  have key : ∀ (k i : Nat) (v : Value) (v2 v3 : Value), i + k = 16 → Q (.inl (some (.int (aoF Y k i)))) M → WP mX11_areCratesSound (d + 8) 10 [.ref (rf 9 y), .ref (rf 18 y), .int (nI 16), .int (nI i), v, v2, v3] [] M Q := by
    intro k
    induction k with
    | zero =>
      intro i v v2 v3 hik hq
      have e : i = 16 := by omega
      subst e
      refine R.iload_n dX11_areCratesSound_10 rfl ?_
      refine R.iload_n dX11_areCratesSound_11 rfl ?_
      refine R.geT (tgt := 78) (Int32.le_refl _) dX11_areCratesSound_12 (by decide) ?_
      refine R.iconst (v := 1) dX11_areCratesSound_78 rfl ?_
      refine WP.ret (ov := some (.int _)) dX11_areCratesSound_79 ⟨rfl, _, rfl, by first | rfl | assumption | exact nar_b01 (by assumption)⟩ ?_
      exact hq
    | succ k ih =>
      intro i v v2 v3 hik hq
      have hi : i < 16 := by omega
      refine R.iload_n dX11_areCratesSound_10 rfl ?_
      refine R.iload_n dX11_areCratesSound_11 rfl ?_
      refine R.geF (tgt := 78) (nI_ge hi (by decide)) dX11_areCratesSound_12 (by decide) ?_
      refine R.aload_n dX11_areCratesSound_15 rfl (by first | rfl | exact rfv_rf _) ?_
      refine R.iload_n dX11_areCratesSound_16 rfl ?_
      refine R.aalS (Lay.cr (by first | assumption | exact hL) hi) (by decide) (by decide) dX11_areCratesSound_17 (nI_pos (by omega)) (Lay.crl (by first | assumption | exact hL) hi) ?_
      refine R.astore dX11_areCratesSound_18 (by first | rfl | exact rfv_rf _) (Nat.le_of_ble_eq_true rfl) (by decide) (by first | rfl | simp [lft, rf_cat]) rfl ?_
      refine R.aload_n dX11_areCratesSound_20 rfl (by first | rfl | exact rfv_rf _) ?_
      refine R.aload dX11_areCratesSound_21 rfl (by first | rfl | exact rfv_rf _) ?_
      refine R.iconst (v := 0) dX11_areCratesSound_23 rfl ?_
      refine cl_X11_204 rfl rfl (by first | exact Nat.le_of_ble_eq_true rfl | simp [rf_cat, Value.category]) dX11_areCratesSound_24 ?_
      refine s_yChl (d := d) h hE 5 0 i (by omega) hi ?_
      refine R.istore dX11_areCratesSound_27 (Nat.le_of_ble_eq_true rfl) (by decide) (by first | rfl | simp [lft, rf_cat]) rfl ?_
      refine R.iload dX11_areCratesSound_29 rfl ?_
      refine R.aload dX11_areCratesSound_31 rfl (by first | rfl | exact rfv_rf _) ?_
      refine R.getI dX11_areCratesSound_33 fl_X11_99 (by decide) rfl ?_
      rw [h.rC hi]
      refine R.icmp_ne (tgt := 54) dX11_areCratesSound_36 (by decide) (fun c36 => ?_) (fun c36 => ?_)
      · refine R.iconst (v := 0) dX11_areCratesSound_54 rfl ?_
        refine R.istore dX11_areCratesSound_55 (Nat.le_of_ble_eq_true rfl) (by decide) (by first | rfl | simp [lft, rf_cat]) rfl ?_
        refine R.iload dX11_areCratesSound_57 rfl ?_
        refine R.if_eq (tgt := 70) dX11_areCratesSound_59 (by decide) (fun _ => ?_) (fun c => absurd (by decide) c)
        refine R.iconst (v := 0) dX11_areCratesSound_70 rfl ?_
        refine WP.ret (ov := some (.int _)) dX11_areCratesSound_71 ⟨rfl, _, rfl, by first | rfl | assumption | exact nar_b01 (by assumption)⟩ ?_
        rw [aoF, if_neg (fun z => c36 z.1)] at hq
        exact hq
      · refine R.iload dX11_areCratesSound_39 rfl ?_
        refine R.aload_n dX11_areCratesSound_41 rfl (by first | rfl | exact rfv_rf _) ?_
        refine R.aload dX11_areCratesSound_42 rfl (by first | rfl | exact rfv_rf _) ?_
        refine cl_X11_208 rfl rfl (by first | exact Nat.le_of_ble_eq_true rfl | simp [rf_cat, Value.category]) dX11_areCratesSound_44 ?_
        refine s_yAnc (d := d + 6) h hA ?_
        refine R.icmp_ne (tgt := 54) dX11_areCratesSound_47 (by decide) (fun c47 => ?_) (fun c47 => ?_)
        · refine R.iconst (v := 0) dX11_areCratesSound_54 rfl ?_
          refine R.istore dX11_areCratesSound_55 (Nat.le_of_ble_eq_true rfl) (by decide) (by first | rfl | simp [lft, rf_cat]) rfl ?_
          refine R.iload dX11_areCratesSound_57 rfl ?_
          refine R.if_eq (tgt := 70) dX11_areCratesSound_59 (by decide) (fun _ => ?_) (fun c => absurd (by decide) c)
          refine R.iconst (v := 0) dX11_areCratesSound_70 rfl ?_
          refine WP.ret (ov := some (.int _)) dX11_areCratesSound_71 ⟨rfl, _, rfl, by first | rfl | assumption | exact nar_b01 (by assumption)⟩ ?_
          rw [aoF, if_neg (fun z => c47 z.2.1)] at hq
          exact hq
        · refine R.iconst (v := 1) dX11_areCratesSound_50 rfl ?_
          refine R.goto (tgt := 55) dX11_areCratesSound_51 (by decide) ?_
          refine R.istore dX11_areCratesSound_55 (Nat.le_of_ble_eq_true rfl) (by decide) (by first | rfl | simp [lft, rf_cat]) rfl ?_
          refine R.iload dX11_areCratesSound_57 rfl ?_
          refine R.if_eq (tgt := 70) dX11_areCratesSound_59 (by decide) (fun c => absurd c (by decide)) (fun _ => ?_)
          refine R.aload dX11_areCratesSound_62 rfl (by first | rfl | exact rfv_rf _) ?_
          refine cl_X11_211 rfl rfl (by first | exact Nat.le_of_ble_eq_true rfl | simp [rf_cat, Value.category]) dX11_areCratesSound_64 ?_
          refine s_cSound (d := d + 6) ?_
          rw [h.rC hi, h.rC hi, h.rL hi, h.rL hi, h.rC hi]
          refine R.if_ne (tgt := 72) dX11_areCratesSound_67 (by decide) (fun c67 => ?_) (fun c67 => ?_)
          · refine R.iinc dX11_areCratesSound_72 (Nat.le_of_ble_eq_true rfl) (by decide) (by first | rfl | simp [lft, rf_cat]) rfl (inc_nI _) rfl ?_
            refine R.goto (tgt := 10) dX11_areCratesSound_75 (by decide) ?_
            refine ih (i + 1) _ _ _ (by omega) ?_
            rw [aoF, if_pos ⟨c36, c47, by apply Decidable.byContradiction; intro z; rw [if_neg z] at c67; exact c67 rfl⟩] at hq
            exact hq
          · refine R.iconst (v := 0) dX11_areCratesSound_70 rfl ?_
            refine WP.ret (ov := some (.int _)) dX11_areCratesSound_71 ⟨rfl, _, rfl, by first | rfl | assumption | exact nar_b01 (by assumption)⟩ ?_
            rw [aoF, if_neg (fun z => by rw [if_pos z.2.2] at c67; exact absurd c67 (by decide))] at hq
            exact hq
  refine R.aload_n dX11_areCratesSound_0 rfl (by first | rfl | exact rfv_rf _) ?_
  refine R.getS (lay0 (by first | assumption | exact hL)) dX11_areCratesSound_1 fl_X11_11 (by decide) rfl ?_
  refine R.astore_n dX11_areCratesSound_4 (by first | rfl | exact rfv_rf _) (Nat.le_of_ble_eq_true rfl) (by decide) (by first | rfl | simp [lft, rf_cat]) rfl ?_
  refine R.aload_n dX11_areCratesSound_5 rfl (by first | rfl | exact rfv_rf _) ?_
  refine R.alenS (lay4 (by first | assumption | exact hL)) (by decide) (by decide) dX11_areCratesSound_6 ?_
  refine R.istore_n dX11_areCratesSound_7 (Nat.le_of_ble_eq_true rfl) (by decide) (by first | rfl | simp [lft, rf_cat]) rfl ?_
  refine R.iconst (v := 0) dX11_areCratesSound_8 rfl ?_
  refine R.istore_n dX11_areCratesSound_9 (Nat.le_of_ble_eq_true rfl) (by decide) (by first | rfl | simp [lft, rf_cat]) rfl ?_
  exact key 16 0 _ _ _ (by omega) hq
