/-! a yard's methods that change nothing, continued -/
set_option maxHeartbeats 1000000 in
set_option maxRecDepth 4000 in
theorem s_yAfter {d : Nat} {y : Nat} {Y : Yd} {o : Nat} {t : Int32} {M : Mem} {Q : Out → Mem → Prop} (h : Yv M y Y) (hq : Q (.inl (some (va_rf ((caF Y o t 16 0 none).map fun j => rf 1 (16 * y + j))))) M) : WPc d mX11_childAfter [.ref (rf 9 y), .ref (rf 1 (16 * y + o)), .int t] M Q := by
  refine WPc.of (by decide +kernel) (Nat.le_of_ble_eq_true rfl) rfl ?_
  have hL := h.lay
  have key : ∀ (k i : Nat) (v v2 : Value) (b : Option Nat), i + k = 16 → (∀ c, b = some c → c < 16) → Q (.inl (some (va_rf ((caF Y o t k i b).map fun j => rf 1 (16 * y + j))))) M → WP mX11_childAfter d 16 [.ref (rf 9 y), .ref (rf 1 (16 * y + o)), .int t, va_rf (b.map fun j => rf 1 (16 * y + j)), .ref (rf 18 y), .int (nI 16), .int (nI i), v, v2] [] M Q := by
    intro k
    induction k with
    | zero =>
      intro i v v2 b hik hb hq
      have e : i = 16 := by omega
      subst e
      refine R.iload dX11_childAfter_16 rfl ?_
      refine R.iload dX11_childAfter_18 rfl ?_
      refine R.geT (tgt := 85) (Int32.le_refl _) dX11_childAfter_20 (by decide) ?_
      cases b with
      | none =>
        refine R.aload_n (v := .null) dX11_childAfter_85 rfl rfl ?_
        refine WP.ret (ov := some .null) dX11_childAfter_86 ⟨rfl, _, rfl, Or.inl ⟨_, rfl⟩⟩ ?_
        exact hq
      | some c =>
        refine R.aload_n (v := .ref _) dX11_childAfter_85 rfl rfl ?_
        refine WP.ret (ov := some (.ref _)) dX11_childAfter_86 ⟨rfl, _, rfl, Or.inl ⟨_, rfl⟩⟩ ?_
        exact hq
    | succ k ih =>
      intro i v v2 b hik hb hq
      have hi : i < 16 := by omega
      refine R.iload dX11_childAfter_16 rfl ?_
      refine R.iload dX11_childAfter_18 rfl ?_
      refine R.geF (tgt := 85) (nI_ge hi (by decide)) dX11_childAfter_20 (by decide) ?_
      refine R.aload dX11_childAfter_23 rfl (by first | rfl | exact rfv_rf _) ?_
      refine R.iload dX11_childAfter_25 rfl ?_
      refine R.aalS (Lay.cr (by first | assumption | exact hL) hi) (by decide) (by decide) dX11_childAfter_27 (nI_pos (by omega)) (Lay.crl (by first | assumption | exact hL) hi) ?_
      refine R.astore dX11_childAfter_28 (by first | rfl | exact rfv_rf _) (Nat.le_of_ble_eq_true rfl) (by decide) (by first | rfl | simp [lft, rf_cat]) rfl ?_
      refine R.aload dX11_childAfter_30 rfl (by first | rfl | exact rfv_rf _) ?_
      refine R.getR dX11_childAfter_32 fl_X11_82 (by decide) rfl ?_
      rw [h.rP hi]
      refine R.aload_n dX11_childAfter_35 rfl (by first | rfl | exact rfv_rf _) ?_
      refine R.acmp_ne (o1 := (yP Y i).map fun j => rf 1 (16 * y + j)) (o2 := some (rf 1 (16 * y + o))) (tgt := 52) kd_map kd_one dX11_childAfter_36 (by decide) (fun c36 => ?_) (fun c36 => ?_)
      · refine R.iconst (v := 0) dX11_childAfter_52 rfl ?_
        refine R.istore dX11_childAfter_53 (Nat.le_of_ble_eq_true rfl) (by decide) (by first | rfl | simp [lft, rf_cat]) rfl ?_
        refine R.iload dX11_childAfter_55 rfl ?_
        refine R.if_eq (tgt := 79) dX11_childAfter_57 (by decide) (fun _ => ?_) (fun c => absurd (by decide) c)
        refine R.iinc dX11_childAfter_79 (Nat.le_of_ble_eq_true rfl) (by decide) (by first | rfl | simp [lft, rf_cat]) rfl (inc_nI _) rfl ?_
        refine R.goto (tgt := 16) dX11_childAfter_82 (by decide) ?_
        refine ih (i + 1) _ _ b (by omega) hb ?_
        rw [caF, if_neg (by intro z; simp only [caC, Bool.and_eq_true, decide_eq_true_eq] at z; exact c36 (map_inj.mpr z.1))] at hq
        exact hq
      · refine R.aload dX11_childAfter_39 rfl (by first | rfl | exact rfv_rf _) ?_
        refine R.getI dX11_childAfter_41 fl_X11_126 (by decide) rfl ?_
        refine R.iload_n dX11_childAfter_44 rfl ?_
        refine R.icmp_le (tgt := 52) dX11_childAfter_45 (by decide) (fun c45 => ?_) (fun c45 => ?_)
        · have n45 := i_nl2 c45
          refine R.iconst (v := 0) dX11_childAfter_52 rfl ?_
          refine R.istore dX11_childAfter_53 (Nat.le_of_ble_eq_true rfl) (by decide) (by first | rfl | simp [lft, rf_cat]) rfl ?_
          refine R.iload dX11_childAfter_55 rfl ?_
          refine R.if_eq (tgt := 79) dX11_childAfter_57 (by decide) (fun _ => ?_) (fun c => absurd (by decide) c)
          refine R.iinc dX11_childAfter_79 (Nat.le_of_ble_eq_true rfl) (by decide) (by first | rfl | simp [lft, rf_cat]) rfl (inc_nI _) rfl ?_
          refine R.goto (tgt := 16) dX11_childAfter_82 (by decide) ?_
          refine ih (i + 1) _ _ b (by omega) hb ?_
          rw [caF, if_neg (by intro z; simp only [caC, Bool.and_eq_true, decide_eq_true_eq] at z; rw [h.rC hi] at c45; exact absurd c45 (i_nle z.2.1))] at hq
          exact hq
        · have n45 := i_lt c45
          refine R.iconst (v := 1) dX11_childAfter_48 rfl ?_
          refine R.goto (tgt := 53) dX11_childAfter_49 (by decide) ?_
          refine R.istore dX11_childAfter_53 (Nat.le_of_ble_eq_true rfl) (by decide) (by first | rfl | simp [lft, rf_cat]) rfl ?_
          refine R.iload dX11_childAfter_55 rfl ?_
          refine R.if_eq (tgt := 79) dX11_childAfter_57 (by decide) (fun c => absurd c (by decide)) (fun _ => ?_)
          cases b with
          | none =>
            show WP mX11_childAfter (d) 60 [.ref (rf 9 y), .ref (rf 1 (16 * y + o)), .int t, .null, .ref (rf 18 y), .int (nI 16), .int (nI i), .ref (rf 1 (16 * y + i)), .int 1] [] M Q
            refine R.aload_n dX11_childAfter_60 rfl (by first | rfl | exact rfv_rf _) ?_
            refine R.ifnullN (tgt := 76) dX11_childAfter_61 (by decide) ?_
            refine R.aload dX11_childAfter_76 rfl (by first | rfl | exact rfv_rf _) ?_
            refine R.astore_n dX11_childAfter_78 (by first | rfl | exact rfv_rf _) (Nat.le_of_ble_eq_true rfl) (by decide) (by first | rfl | simp [lft, rf_cat]) rfl ?_
            refine R.iinc dX11_childAfter_79 (Nat.le_of_ble_eq_true rfl) (by decide) (by first | rfl | simp [lft, rf_cat]) rfl (inc_nI _) rfl ?_
            refine R.goto (tgt := 16) dX11_childAfter_82 (by decide) ?_
            refine ih (i + 1) _ _ (some i) (by omega) (fun c e => by cases e; exact hi) ?_
            rw [caF, if_pos (by simp [caC, map_inj.mp c36, show t < yC Y i 6 from i_lt (by rw [h.rC hi] at c45; exact c45)])] at hq
            exact hq
          | some c =>
            show WP mX11_childAfter (d) 60 [.ref (rf 9 y), .ref (rf 1 (16 * y + o)), .int t, .ref (rf 1 (16 * y + c)), .ref (rf 18 y), .int (nI 16), .int (nI i), .ref (rf 1 (16 * y + i)), .int 1] [] M Q
            refine R.aload_n dX11_childAfter_60 rfl (by first | rfl | exact rfv_rf _) ?_
            refine R.ifnullS (tgt := 76) (by first | decide | exact Nat.lt_of_le_of_lt (Nat.le_of_eq (kd_rf _ _ (by decide))) (by decide)) dX11_childAfter_61 (by decide) ?_
            refine R.aload dX11_childAfter_64 rfl (by first | rfl | exact rfv_rf _) ?_
            refine R.getI dX11_childAfter_66 fl_X11_126 (by decide) rfl ?_
            refine R.aload_n dX11_childAfter_69 rfl (by first | rfl | exact rfv_rf _) ?_
            refine R.getI dX11_childAfter_70 fl_X11_126 (by decide) rfl ?_
            refine R.icmp_ge (tgt := 79) dX11_childAfter_73 (by decide) (fun c73 => ?_) (fun c73 => ?_)
            · have n73 := i_nl2 c73
              refine R.iinc dX11_childAfter_79 (Nat.le_of_ble_eq_true rfl) (by decide) (by first | rfl | simp [lft, rf_cat]) rfl (inc_nI _) rfl ?_
              refine R.goto (tgt := 16) dX11_childAfter_82 (by decide) ?_
              refine ih (i + 1) _ _ (some c) (by omega) hb ?_
              rw [caF, if_neg (by intro z; simp only [caC, Bool.and_eq_true, decide_eq_true_eq] at z; rw [h.rC hi, h.rC (hb c rfl)] at c73; exact absurd c73 (i_nle z.2.2))] at hq
              exact hq
            · have n73 := i_lt c73
              refine R.aload dX11_childAfter_76 rfl (by first | rfl | exact rfv_rf _) ?_
              refine R.astore_n dX11_childAfter_78 (by first | rfl | exact rfv_rf _) (Nat.le_of_ble_eq_true rfl) (by decide) (by first | rfl | simp [lft, rf_cat]) rfl ?_
              refine R.iinc dX11_childAfter_79 (Nat.le_of_ble_eq_true rfl) (by decide) (by first | rfl | simp [lft, rf_cat]) rfl (inc_nI _) rfl ?_
              refine R.goto (tgt := 16) dX11_childAfter_82 (by decide) ?_
              refine ih (i + 1) _ _ (some i) (by omega) (fun c e => by cases e; exact hi) ?_
              rw [caF, if_pos (by simp [caC, map_inj.mp c36, show t < yC Y i 6 from i_lt (by rw [h.rC hi] at c45; exact c45), show yC Y i 6 < yC Y c 6 from i_lt (by rw [h.rC hi, h.rC (hb c rfl)] at c73; exact c73)])] at hq
              exact hq
  refine R.null dX11_childAfter_0 ?_
  refine R.astore_n dX11_childAfter_1 (by first | rfl | exact rfv_rf _) (Nat.le_of_ble_eq_true rfl) (by decide) (by first | rfl | simp [lft, rf_cat]) rfl ?_
  refine R.aload_n dX11_childAfter_2 rfl (by first | rfl | exact rfv_rf _) ?_
  refine R.getS (lay0 (by first | assumption | exact hL)) dX11_childAfter_3 fl_X11_11 (by decide) rfl ?_
  refine R.astore dX11_childAfter_6 (by first | rfl | exact rfv_rf _) (Nat.le_of_ble_eq_true rfl) (by decide) (by first | rfl | simp [lft, rf_cat]) rfl ?_
  refine R.aload dX11_childAfter_8 rfl (by first | rfl | exact rfv_rf _) ?_
  refine R.alenS (lay4 (by first | assumption | exact hL)) (by decide) (by decide) dX11_childAfter_10 ?_
  refine R.istore dX11_childAfter_11 (Nat.le_of_ble_eq_true rfl) (by decide) (by first | rfl | simp [lft, rf_cat]) rfl ?_
  refine R.iconst (v := 0) dX11_childAfter_13 rfl ?_
  refine R.istore dX11_childAfter_14 (Nat.le_of_ble_eq_true rfl) (by decide) (by first | rfl | simp [lft, rf_cat]) rfl ?_
  exact key 16 0 _ _ none (by omega) (fun _ e => nomatch e) hq
set_option maxHeartbeats 1000000 in
set_option maxRecDepth 4000 in
theorem s_yFirst {d : Nat} {y : Nat} {Y : Yd} {o : Nat} {M : Mem} {Q : Out → Mem → Prop} (h : Yv M y Y) (hq : Q (.inl (some (va_rf ((fCh Y o).map fun j => rf 1 (16 * y + j))))) M) : WPc (d + 1) mX11_firstChild [.ref (rf 9 y), .ref (rf 1 (16 * y + o))] M Q := by
  refine WPc.of (by decide +kernel) (Nat.le_of_ble_eq_true rfl) rfl ?_
  unfold fCh at hq
  refine R.aload_n dX11_firstChild_0 rfl (by first | rfl | exact rfv_rf _) ?_
  refine R.aload_n dX11_firstChild_1 rfl (by first | rfl | exact rfv_rf _) ?_
  refine R.iconst (v := 0) dX11_firstChild_2 rfl ?_
  refine cl_X11_122 rfl rfl (by first | exact Nat.le_of_ble_eq_true rfl | simp [rf_cat, Value.category]) dX11_firstChild_3 ?_
  refine s_yAfter (by assumption) ?_
  cases hce : caF Y o 0 16 0 none with
  | none =>
    rw [hce] at hq
    refine WP.ret (ov := some .null) dX11_firstChild_6 ⟨rfl, _, rfl, Or.inl ⟨_, rfl⟩⟩ ?_
    exact hq
  | some c =>
    rw [hce] at hq
    refine WP.ret (ov := some (.ref _)) dX11_firstChild_6 ⟨rfl, _, rfl, Or.inl ⟨_, rfl⟩⟩ ?_
    exact hq
set_option maxHeartbeats 1000000 in
set_option maxRecDepth 4000 in
theorem s_yNext {d : Nat} {y : Nat} {Y : Yd} {c : Nat} {M : Mem} {Q : Out → Mem → Prop} (h : Yv M y Y) (hc : c < 16) (hq : Q (.inl (some (va_rf ((nCh Y c).map fun j => rf 1 (16 * y + j))))) M) : WPc (d + 1) mX11_nextChild [.ref (rf 9 y), .ref (rf 1 (16 * y + c))] M Q := by
  refine WPc.of (by decide +kernel) (Nat.le_of_ble_eq_true rfl) rfl ?_
  have hp := h.rP hc
  unfold nCh at hq
  cases e : yP Y c with
  | none =>
    rw [e] at hp hq
    refine R.aload_n dX11_nextChild_0 rfl (by first | rfl | exact rfv_rf _) ?_
    refine R.getN (hp) dX11_nextChild_1 fl_X11_82 (by decide) rfl ?_
    refine R.ifnonnullN (tgt := 11) dX11_nextChild_4 (by decide) ?_
    refine R.null dX11_nextChild_7 ?_
    refine R.goto (tgt := 23) dX11_nextChild_8 (by decide) ?_
    first | refine WP.ret (ov := some (.ref _)) dX11_nextChild_23 ⟨rfl, _, rfl, Or.inl ⟨_, rfl⟩⟩ ?_ | refine WP.ret (ov := some .null) dX11_nextChild_23 ⟨rfl, _, rfl, Or.inl ⟨_, rfl⟩⟩ ?_
    exact hq
  | some o =>
    rw [e] at hp hq
    refine R.aload_n dX11_nextChild_0 rfl (by first | rfl | exact rfv_rf _) ?_
    refine R.getS (hp) dX11_nextChild_1 fl_X11_82 (by decide) rfl ?_
    refine R.ifnonnullS (tgt := 11) (by first | decide | exact Nat.lt_of_le_of_lt (Nat.le_of_eq (kd_rf _ _ (by decide))) (by decide)) dX11_nextChild_4 (by decide) ?_
    refine R.aload_n dX11_nextChild_11 rfl (by first | rfl | exact rfv_rf _) ?_
    refine R.aload_n dX11_nextChild_12 rfl (by first | rfl | exact rfv_rf _) ?_
    refine R.getS (hp) dX11_nextChild_13 fl_X11_82 (by decide) rfl ?_
    refine R.aload_n dX11_nextChild_16 rfl (by first | rfl | exact rfv_rf _) ?_
    refine R.getI dX11_nextChild_17 fl_X11_126 (by decide) rfl ?_
    rw [h.rC hc]
    refine cl_X11_122 rfl rfl (by first | exact Nat.le_of_ble_eq_true rfl | simp [rf_cat, Value.category]) dX11_nextChild_20 ?_
    refine s_yAfter h ?_
    cases hce : caF Y o (yC Y c 6) 16 0 none with
    | none =>
      simp only [hce] at hq
      refine WP.ret (ov := some .null) dX11_nextChild_23 ⟨rfl, _, rfl, Or.inl ⟨_, rfl⟩⟩ ?_
      exact hq
    | some c =>
      simp only [hce] at hq
      refine WP.ret (ov := some (.ref _)) dX11_nextChild_23 ⟨rfl, _, rfl, Or.inl ⟨_, rfl⟩⟩ ?_
      exact hq
theorem hac1 {Y : Yd} (hA : Acy Y) {i : Nat} (hi : i < 16) : acyO 6 (yP Y) (some i) := hA i hi
set_option maxHeartbeats 1000000 in
set_option maxRecDepth 4000 in
theorem s_yLevels {d : Nat} {y : Nat} {Y : Yd} {t : Nat} {M : Mem} {Q : Out → Mem → Prop} (h : Yv M y Y) (hA : Acy Y) (ht : t < 16) (hq : Q (.inl (some (.int (lvF Y t 16 0 0)))) M) : WPc (d + 1) mX11_levelsInside [.ref (rf 9 y), .ref (rf 1 (16 * y + t))] M Q := by
  refine WPc.of (by decide +kernel) (Nat.le_of_ble_eq_true rfl) rfl ?_
  have hL := h.lay
  have key : ∀ (k i : Nat) (v : Value) (a : Int32), i + k = 16 → Q (.inl (some (.int (lvF Y t k i a)))) M → WP mX11_levelsInside (d + 1) 14 [.ref (rf 9 y), .ref (rf 1 (16 * y + t)), .int a, .ref (rf 18 y), .int (nI 16), .int (nI i), v] [] M Q := by
    intro k
    induction k with
    | zero =>
      intro i v a hik hq
      have e : i = 16 := by omega
      subst e
      refine R.iload dX11_levelsInside_14 rfl ?_
      refine R.iload dX11_levelsInside_16 rfl ?_
      refine R.geT (tgt := 57) (Int32.le_refl _) dX11_levelsInside_18 (by decide) ?_
      refine R.iload_n dX11_levelsInside_57 rfl ?_
      refine WP.ret (ov := some (.int _)) dX11_levelsInside_58 ⟨rfl, _, rfl, by first | rfl | assumption | exact nar_b01 (by assumption)⟩ ?_
      exact hq
    | succ k ih =>
      intro i v a hik hq
      have hi : i < 16 := by omega
      refine R.iload dX11_levelsInside_14 rfl ?_
      refine R.iload dX11_levelsInside_16 rfl ?_
      refine R.geF (tgt := 57) (nI_ge hi (by decide)) dX11_levelsInside_18 (by decide) ?_
      refine R.aload_n dX11_levelsInside_21 rfl (by first | rfl | exact rfv_rf _) ?_
      refine R.iload dX11_levelsInside_22 rfl ?_
      refine R.aalS (Lay.cr (by first | assumption | exact hL) hi) (by decide) (by decide) dX11_levelsInside_24 (nI_pos (by omega)) (Lay.crl (by first | assumption | exact hL) hi) ?_
      refine R.astore dX11_levelsInside_25 (by first | rfl | exact rfv_rf _) (Nat.le_of_ble_eq_true rfl) (by decide) (by first | rfl | simp [lft, rf_cat]) rfl ?_
      refine R.aload dX11_levelsInside_27 rfl (by first | rfl | exact rfv_rf _) ?_
      refine R.aload_n dX11_levelsInside_29 rfl (by first | rfl | exact rfv_rf _) ?_
      refine cl_X11_140 rfl rfl (by first | exact Nat.le_of_ble_eq_true rfl | simp [rf_cat, Value.category]) dX11_levelsInside_30 ?_
      refine s_cIn h hi (hac1 hA hi) ?_
      refine R.if_eq (tgt := 51) dX11_levelsInside_33 (by decide) (fun c33 => ?_) (fun c33 => ?_)
      · refine R.iinc dX11_levelsInside_51 (Nat.le_of_ble_eq_true rfl) (by decide) (by first | rfl | simp [lft, rf_cat]) rfl (inc_nI _) rfl ?_
        refine R.goto (tgt := 14) dX11_levelsInside_54 (by decide) ?_
        refine ih (i + 1) _ _ (by omega) ?_
        rw [lvF, if_neg (by intro z; unfold ins at z; rw [if_pos z] at c33; exact absurd c33 (by decide))] at hq
        exact hq
      · refine R.iload_n dX11_levelsInside_36 rfl ?_
        refine R.aload dX11_levelsInside_37 rfl (by first | rfl | exact rfv_rf _) ?_
        refine cl_X11_144 rfl rfl (by first | exact Nat.le_of_ble_eq_true rfl | simp [rf_cat, Value.category]) dX11_levelsInside_39 ?_
        refine s_cDepth h hi (hA i hi) ?_
        refine R.aload_n dX11_levelsInside_42 rfl (by first | rfl | exact rfv_rf _) ?_
        refine cl_X11_144 rfl rfl (by first | exact Nat.le_of_ble_eq_true rfl | simp [rf_cat, Value.category]) dX11_levelsInside_43 ?_
        refine s_cDepth h ht (hA t ht) ?_
        refine R.isub dX11_levelsInside_46 ?_
        refine cl_X11_150 rfl rfl (by first | exact Nat.le_of_ble_eq_true rfl | simp [rf_cat, Value.category]) dX11_levelsInside_47 ?_
        refine s_max ?_
        refine R.istore_n dX11_levelsInside_50 (Nat.le_of_ble_eq_true rfl) (by decide) (by first | rfl | simp [lft, rf_cat]) rfl ?_
        refine R.iinc dX11_levelsInside_51 (Nat.le_of_ble_eq_true rfl) (by decide) (by first | rfl | simp [lft, rf_cat]) rfl (inc_nI _) rfl ?_
        refine R.goto (tgt := 14) dX11_levelsInside_54 (by decide) ?_
        refine ih (i + 1) _ _ (by omega) ?_
        rw [lvF, if_pos (by unfold ins; cases z : inO 6 (yP Y) (some i) t; rw [z] at c33; exact absurd rfl c33; rfl)] at hq
        exact hq
  refine R.iconst (v := 0) dX11_levelsInside_0 rfl ?_
  refine R.istore_n dX11_levelsInside_1 (Nat.le_of_ble_eq_true rfl) (by decide) (by first | rfl | simp [lft, rf_cat]) rfl ?_
  refine R.aload_n dX11_levelsInside_2 rfl (by first | rfl | exact rfv_rf _) ?_
  refine R.getS (lay0 (by first | assumption | exact hL)) dX11_levelsInside_3 fl_X11_11 (by decide) rfl ?_
  refine R.astore_n dX11_levelsInside_6 (by first | rfl | exact rfv_rf _) (Nat.le_of_ble_eq_true rfl) (by decide) (by first | rfl | simp [lft, rf_cat]) rfl ?_
  refine R.aload_n dX11_levelsInside_7 rfl (by first | rfl | exact rfv_rf _) ?_
  refine R.alenS (lay4 (by first | assumption | exact hL)) (by decide) (by decide) dX11_levelsInside_8 ?_
  refine R.istore dX11_levelsInside_9 (Nat.le_of_ble_eq_true rfl) (by decide) (by first | rfl | simp [lft, rf_cat]) rfl ?_
  refine R.iconst (v := 0) dX11_levelsInside_11 rfl ?_
  refine R.istore dX11_levelsInside_12 (Nat.le_of_ble_eq_true rfl) (by decide) (by first | rfl | simp [lft, rf_cat]) rfl ?_
  exact key 16 0 _ 0 (by omega) hq
def yCan (Y : Yd) (i o : Nat) : Int32 := if ¬ yC Y i 7 = 0 ∧ ¬ yC Y o 7 = 0 ∧ ¬ ins Y o i = true ∧ nI (dp Y o) + 1 + lvF Y i 16 0 0 ≤ 5 then 1 else 0
set_option maxHeartbeats 1000000 in
set_option maxRecDepth 4000 in
theorem s_yCan {d : Nat} {y : Nat} {Y : Yd} {i o : Nat} {M : Mem} {Q : Out → Mem → Prop} (h : Yv M y Y) (hA : Acy Y) (hi : i < 16) (ho : o < 16) (hq : Q (.inl (some (.int (yCan Y i o)))) M) : WPc (d + 2) mX11_canNest [.ref (rf 9 y), .ref (rf 1 (16 * y + i)), .ref (rf 1 (16 * y + o))] M Q := by
  refine WPc.of (by decide +kernel) (Nat.le_of_ble_eq_true rfl) rfl ?_
  refine R.aload_n dX11_canNest_0 rfl (by first | rfl | exact rfv_rf _) ?_
  refine R.getI dX11_canNest_1 fl_X11_102 (by decide) rfl ?_
  refine R.if_eq (tgt := 42) dX11_canNest_4 (by decide) (fun c4 => ?_) (fun c4 => ?_)
  · refine R.iconst (v := 0) dX11_canNest_42 rfl ?_
    refine WP.ret (ov := some (.int _)) dX11_canNest_43 ⟨rfl, _, rfl, by first | rfl | assumption | exact nar_b01 (by assumption)⟩ ?_
    unfold yCan at hq
    rw [h.rC hi] at c4
    rw [if_neg (fun z => z.1 c4)] at hq
    exact hq
  · refine R.aload_n dX11_canNest_7 rfl (by first | rfl | exact rfv_rf _) ?_
    refine R.getI dX11_canNest_8 fl_X11_102 (by decide) rfl ?_
    refine R.if_eq (tgt := 42) dX11_canNest_11 (by decide) (fun c11 => ?_) (fun c11 => ?_)
    · refine R.iconst (v := 0) dX11_canNest_42 rfl ?_
      refine WP.ret (ov := some (.int _)) dX11_canNest_43 ⟨rfl, _, rfl, by first | rfl | assumption | exact nar_b01 (by assumption)⟩ ?_
      unfold yCan at hq
      rw [h.rC ho] at c11
      rw [if_neg (fun z => z.2.1 c11)] at hq
      exact hq
    · refine R.aload_n dX11_canNest_14 rfl (by first | rfl | exact rfv_rf _) ?_
      refine R.aload_n dX11_canNest_15 rfl (by first | rfl | exact rfv_rf _) ?_
      refine cl_X11_140 rfl rfl (by first | exact Nat.le_of_ble_eq_true rfl | simp [rf_cat, Value.category]) dX11_canNest_16 ?_
      refine s_cIn h ho (hac1 hA ho) ?_
      refine R.if_ne (tgt := 42) dX11_canNest_19 (by decide) (fun c19 => ?_) (fun c19 => ?_)
      · refine R.iconst (v := 0) dX11_canNest_42 rfl ?_
        refine WP.ret (ov := some (.int _)) dX11_canNest_43 ⟨rfl, _, rfl, by first | rfl | assumption | exact nar_b01 (by assumption)⟩ ?_
        unfold yCan at hq
        rw [if_neg (fun z => c19 (by rw [if_neg]; exact z.2.2.1))] at hq
        exact hq
      · refine R.aload_n dX11_canNest_22 rfl (by first | rfl | exact rfv_rf _) ?_
        refine cl_X11_144 rfl rfl (by first | exact Nat.le_of_ble_eq_true rfl | simp [rf_cat, Value.category]) dX11_canNest_23 ?_
        refine s_cDepth h ho (hA o ho) ?_
        refine R.iconst (v := 1) dX11_canNest_26 rfl ?_
        refine R.iadd dX11_canNest_27 ?_
        refine R.aload_n dX11_canNest_28 rfl (by first | rfl | exact rfv_rf _) ?_
        refine R.aload_n dX11_canNest_29 rfl (by first | rfl | exact rfv_rf _) ?_
        refine cl_X11_147 rfl rfl (by first | exact Nat.le_of_ble_eq_true rfl | simp [rf_cat, Value.category]) dX11_canNest_30 ?_
        refine s_yLevels h hA hi ?_
        refine R.iadd dX11_canNest_33 ?_
        refine R.iconst (v := 5) dX11_canNest_34 rfl ?_
        refine R.icmp_gt (tgt := 42) dX11_canNest_35 (by decide) (fun c35 => ?_) (fun c35 => ?_)
        · have n35 := i_nle c35
          refine R.iconst (v := 0) dX11_canNest_42 rfl ?_
          refine WP.ret (ov := some (.int _)) dX11_canNest_43 ⟨rfl, _, rfl, by first | rfl | assumption | exact nar_b01 (by assumption)⟩ ?_
          unfold yCan at hq
          rw [if_neg (fun z => i_nle c35 z.2.2.2)] at hq
          exact hq
        · have n35 := i_nlt c35
          refine R.iconst (v := 1) dX11_canNest_38 rfl ?_
          refine R.goto (tgt := 43) dX11_canNest_39 (by decide) ?_
          refine WP.ret (ov := some (.int _)) dX11_canNest_43 ⟨rfl, _, rfl, by first | rfl | assumption | exact nar_b01 (by assumption)⟩ ?_
          unfold yCan at hq
          rw [h.rC hi] at c4
          rw [h.rC ho] at c11
          rw [if_pos ⟨c4, c11, fun z => by unfold ins at z; rw [if_pos z] at c19; exact absurd c19 (by decide), i_nlt c35⟩] at hq
          exact hq
set_option maxHeartbeats 1000000 in
set_option maxRecDepth 4000 in
theorem s_yRef {d : Nat} {y : Nat} {Y : Yd} {i b : Nat} {M : Mem} {Q : Out → Mem → Prop} (h : Yv M y Y) (hi : i < 16) (hb : b < 6) (hq : Q (.inl (some (.int (yRef Y i b)))) M) : WPc (d + 3) mX11_refusal [.ref (rf 9 y), .ref (rf 1 (16 * y + i)), .ref (rf 0 (6 * y + b))] M Q := by
  refine WPc.of (by decide +kernel) (Nat.le_of_ble_eq_true rfl) rfl ?_
  unfold yRef yPrice yMean at hq
  have hp := h.rP hi
  refine R.aload_n dX11_refusal_0 rfl (by first | rfl | exact rfv_rf _) ?_
  refine R.getI dX11_refusal_1 fl_X11_102 (by decide) rfl ?_
  rw [h.rC hi]
  refine R.if_ne (tgt := 9) dX11_refusal_4 (by decide) (fun c4 => ?_) (fun c4 => ?_)
  · rw [if_neg c4] at hq
    cases e : yP Y i with
    | none =>
      rw [e] at hp hq
      rw [if_pos rfl] at hq
      refine R.aload_n dX11_refusal_9 rfl (by first | rfl | exact rfv_rf _) ?_
      refine R.getN (hp) dX11_refusal_10 fl_X11_82 (by decide) rfl ?_
      refine R.ifnullN (tgt := 18) dX11_refusal_13 (by decide) ?_
      refine R.aload_n dX11_refusal_18 rfl (by first | rfl | exact rfv_rf _) ?_
      refine R.getI dX11_refusal_19 fl_X11_159 (by decide) rfl ?_
      refine R.aload_n dX11_refusal_22 rfl (by first | rfl | exact rfv_rf _) ?_
      refine R.getI dX11_refusal_23 fl_X11_51 (by decide) rfl ?_
      refine R.icmp_ge (tgt := 31) dX11_refusal_26 (by decide) (fun c26 => ?_) (fun c26 => ?_)
      · have n26 := i_nl2 c26
        refine R.aload_n dX11_refusal_31 rfl (by first | rfl | exact rfv_rf _) ?_
        refine R.getI dX11_refusal_32 fl_X11_116 (by decide) rfl ?_
        refine R.aload_n dX11_refusal_35 rfl (by first | rfl | exact rfv_rf _) ?_
        refine R.getI dX11_refusal_36 fl_X11_54 (by decide) rfl ?_
        refine R.icmp_ge (tgt := 44) dX11_refusal_39 (by decide) (fun c39 => ?_) (fun c39 => ?_)
        · have n39 := i_nl2 c39
          refine R.aload_n dX11_refusal_44 rfl (by first | rfl | exact rfv_rf _) ?_
          refine cl_X11_169 rfl rfl (by first | exact Nat.le_of_ble_eq_true rfl | simp [rf_cat, Value.category]) dX11_refusal_45 ?_
          refine s_cPrice ?_
          refine R.aload_n dX11_refusal_48 rfl (by first | rfl | exact rfv_rf _) ?_
          refine R.getI dX11_refusal_49 fl_X11_110 (by decide) rfl ?_
          refine R.icmp_le (tgt := 59) dX11_refusal_52 (by decide) (fun c52 => ?_) (fun c52 => ?_)
          · have n52 := i_nl2 c52
            refine R.iconst (v := 0) dX11_refusal_59 rfl ?_
            refine WP.ret (ov := some (.int _)) dX11_refusal_60 ⟨rfl, _, rfl, by first | rfl | assumption | exact nar_b01 (by assumption)⟩ ?_
            rw [h.rC hi, h.rF] at c26
            rw [if_neg (fun z => i_nle z c26)] at hq
            rw [h.rB hb, h.rF] at c39
            rw [if_neg (fun z => i_nle z c39)] at hq
            rw [h.rC hi, h.rL hi, h.rB hb] at c52
            rw [if_neg (fun z => i_nle z c52)] at hq
            exact hq
          · have n52 := i_lt c52
            refine R.iconst (v := 5) dX11_refusal_55 rfl ?_
            refine R.goto (tgt := 60) dX11_refusal_56 (by decide) ?_
            refine WP.ret (ov := some (.int _)) dX11_refusal_60 ⟨rfl, _, rfl, by first | rfl | assumption | exact nar_b01 (by assumption)⟩ ?_
            rw [h.rC hi, h.rF] at c26
            rw [if_neg (fun z => i_nle z c26)] at hq
            rw [h.rB hb, h.rF] at c39
            rw [if_neg (fun z => i_nle z c39)] at hq
            rw [h.rC hi, h.rL hi, h.rB hb] at c52
            rw [if_pos (i_lt c52)] at hq
            exact hq
        · have n39 := i_lt c39
          refine R.iconst (v := 4) dX11_refusal_42 rfl ?_
          refine WP.ret (ov := some (.int _)) dX11_refusal_43 ⟨rfl, _, rfl, by first | rfl | assumption | exact nar_b01 (by assumption)⟩ ?_
          rw [h.rC hi, h.rF] at c26
          rw [if_neg (fun z => i_nle z c26)] at hq
          rw [h.rB hb, h.rF] at c39
          rw [if_pos (i_lt c39)] at hq
          exact hq
      · have n26 := i_lt c26
        refine R.iconst (v := 3) dX11_refusal_29 rfl ?_
        refine WP.ret (ov := some (.int _)) dX11_refusal_30 ⟨rfl, _, rfl, by first | rfl | assumption | exact nar_b01 (by assumption)⟩ ?_
        rw [h.rC hi, h.rF] at c26
        rw [if_pos (i_lt c26)] at hq
        exact hq
    | some j =>
      rw [e] at hp hq
      refine R.aload_n dX11_refusal_9 rfl (by first | rfl | exact rfv_rf _) ?_
      refine R.getS (hp) dX11_refusal_10 fl_X11_82 (by decide) rfl ?_
      refine R.ifnullS (tgt := 18) (by first | decide | exact Nat.lt_of_le_of_lt (Nat.le_of_eq (kd_rf _ _ (by decide))) (by decide)) dX11_refusal_13 (by decide) ?_
      refine R.iconst (v := 2) dX11_refusal_16 rfl ?_
      refine WP.ret (ov := some (.int _)) dX11_refusal_17 ⟨rfl, _, rfl, by first | rfl | assumption | exact nar_b01 (by assumption)⟩ ?_
      rw [if_neg (fun z => nomatch z)] at hq
      exact hq
  · refine R.iconst (v := 1) dX11_refusal_7 rfl ?_
    refine WP.ret (ov := some (.int _)) dX11_refusal_8 ⟨rfl, _, rfl, by first | rfl | assumption | exact nar_b01 (by assumption)⟩ ?_
    rw [if_pos c4] at hq
    exact hq
