/-! the model predicts -/
theorem tk_8 (Y : Yd) (c : Nat) : yC (tkY Y c).2 c 8 = yC Y c 8 + 1 := by
  by_cases z : rem (yC Y c 8) 2 = 0
  · rw [tk_N z, rf_C, if_neg (by omega), if_pos ⟨rfl, rfl⟩]
    show (if c = c ∧ 8 = 12 then _ else yC Y c 8) + 1 = _
    rw [if_neg (by omega)]
  · rw [tk_O z, rf_C, if_neg (by omega), if_pos ⟨rfl, rfl⟩]
    rfl
theorem tkN_8 (c : Nat) : ∀ (t : Nat) (Y : Yd), yC (tkN c t Y) c 8 = yC Y c 8 + nI t := by
  intro t
  induction t with
  | zero => intro Y; exact (Int32.add_zero _).symm
  | succ t ih =>
    intro Y
    rw [tkN, ih, tk_8, Int32.add_assoc, show (1 : Int32) = nI 1 from rfl, nI_1a, Nat.add_comm]
theorem PV.p8t {Y : Yd} {m b T i t : Nat} (h : PV Y m b T) (hT : T + t ≤ 57100) (hi : i < 16) (ht : 1 ≤ t) : ¬ yC (tkN i t Y) i 8 ≤ 0 := by
  obtain ⟨r, s, h1, h2, -⟩ := h.e hi
  rw [tkN_8, h1, nI_add9]
  exact nI_nle (by omega) (by omega)
theorem MSt.bk {M : Mem} {S : KS} {T : Nat} {g w2 : Nat → Int32} (h : MSt M S T) (hw : ∀ x, x < 370 → w2 x = mI M 14 0 x) : MSt (sW (sA M 2 g) w2) S T := by
  have h2 : MSt (sA M 2 g) S T := h.fr rfl rfl (fun i hi => mI_sAn _ _ _ (by omega)) (fun f _ => by rw [mI_sAn _ _ _ (by decide)])
  exact h2.sw (h.y.eq hw) (Nat.le_refl T)
theorem Fr_bk (M : Mem) (g w2 : Nat → Int32) : Fr inM M (sW (sA M 2 g) w2) := (Fr_sA9 M 2 g).tr (Fr_sW9 _ w2)
theorem th_bk (M : Mem) (g w2 : Nat → Int32) : mI (sW (sA M 2 g) w2) 11 0 7 = mI M 11 0 7 := by rw [th_sW, mI_sAn _ _ _ (by decide)]
set_option maxHeartbeats 2000000 in
set_option maxRecDepth 4000 in
theorem n_predictReading {d T : Nat} {S : KS} {M : Mem} {Q : Out → Mem → Prop} {p : Nat} {x : Int32} (h : MSt M S T) (hT : T ≤ 56900) (hq : QMr Q M S T cdB (rC S x fun i => if yC (kY S) i 7 = 0 then .inl eS else .inr ((tkY (kY S) i).1, S, p))) : WPc (d + 20) mX13_predictReading [.ref (rf 11 0), .int x] M Q := by
  refine WPc.of (by decide +kernel) (Nat.le_of_ble_eq_true rfl) rfl ?_
  refine R.aload_n dX13_predictReading_0 rfl (by first | rfl | exact rfv_rf _) ?_
  refine R.iconst (v := 0) dX13_predictReading_1 rfl ?_
  refine R.putI dX13_predictReading_2 fl_X13_65 (fun q hq => by cases hq; exact Or.inl rfl) (by decide) rfl rfl rfl ?_
  have h1 := h.th 0
  have F1 := Fr_th M 0
  have z1 : mI (sI M 11 0 7 0) 11 0 7 = 0 := th7 M 0
  generalize sI M 11 0 7 0 = M1 at h1 F1 z1 ⊢
  obtain ⟨m, b, hR, hV⟩ := h1.y
  have hL := h1.l
  have hm16 := hV.m16
  have hb6 := hV.b6
  rw [← bW (M := M1) rfl]
  generalize hw : mI M1 14 0 = w at hR ⊢
  cases hx : kC (kY S) x with
  | none =>
    rw [rC_n hx] at hq
    refine R.aload_n dX13_predictReading_5 rfl (by first | rfl | exact rfv_rf _) ?_
    refine R.iload_n dX13_predictReading_6 rfl ?_
    refine cl_X13_395 rfl rfl (by first | exact Nat.le_of_ble_eq_true rfl | simp [rf_cat, Value.category]) dX13_predictReading_7 ?_
    refine m_noCN hL hR hV.f4 hx ?_
    refine R.if_ne (tgt := 34) dX13_predictReading_10 (by decide) (fun _ => ?_) (fun c9 => absurd c9 (by decide))
    refine R.iconst (v := 0) dX13_predictReading_34 rfl ?_
    refine WP.ret (ov := some (.int _)) dX13_predictReading_35 ⟨rfl, _, rfl, by first | rfl | assumption | exact nar_b01 (by assumption)⟩ ?_
    rw [bW (show mI (sI M1 11 0 7 1) 14 0 = w from hw)]
    exact hq _ (h1.th _) ((th7 _ _).trans cdB_I.symm) (F1.tr (Fr_th _ _))
  | some i =>
    rw [rC_s hx] at hq
    obtain ⟨ex, hi⟩ := kC_m hx hm16 hV.f4
    subst ex
    by_cases c7 : yC (kY S) i 7 = 0
    · simp only [if_pos c7] at hq
      refine R.aload_n dX13_predictReading_5 rfl (by first | rfl | exact rfv_rf _) ?_
      refine R.iload_n dX13_predictReading_6 rfl ?_
      refine cl_X13_395 rfl rfl (by first | exact Nat.le_of_ble_eq_true rfl | simp [rf_cat, Value.category]) dX13_predictReading_7 ?_
      refine m_noCS hL hR hV.f4 hx ?_
      refine R.if_ne (tgt := 34) dX13_predictReading_10 (by decide) (fun c9 => absurd (rfl) c9) (fun _ => ?_)
      refine R.aload_n dX13_predictReading_13 rfl (by first | rfl | exact rfv_rf _) ?_
      refine R.aload_n dX13_predictReading_14 rfl (by first | rfl | exact rfv_rf _) ?_
      refine R.iload_n dX13_predictReading_15 rfl ?_
      refine cl_X13_136 rfl rfl (by first | exact Nat.le_of_ble_eq_true rfl | simp [rf_cat, Value.category]) dX13_predictReading_16 ?_
      refine m_th hL hR hi ?_
      rw [if_pos c7]
      refine R.if_ne (tgt := 26) dX13_predictReading_19 (by decide) (fun c9 => absurd (rfl) c9) (fun _ => ?_)
      refine R.iconst (v := 1) dX13_predictReading_22 rfl ?_
      refine R.goto (tgt := 27) dX13_predictReading_23 (by decide) ?_
      refine R.iconst (v := 2) dX13_predictReading_27 rfl ?_
      refine cl_X13_391 rfl rfl (by first | exact Nat.le_of_ble_eq_true rfl | simp [rf_cat, Value.category]) dX13_predictReading_28 ?_
      refine m_fail1 ?_
      rw [sI_sWf M1 w 0 7 2 (by decide)]
      refine R.if_eq (tgt := 36) dX13_predictReading_31 (by decide) (fun c9 => absurd c9 (by decide)) (fun _ => ?_)
      refine R.iconst (v := 0) dX13_predictReading_34 rfl ?_
      refine WP.ret (ov := some (.int _)) dX13_predictReading_35 ⟨rfl, _, rfl, by first | rfl | assumption | exact nar_b01 (by assumption)⟩ ?_
      rw [bW (show mI (sI M1 11 0 7 2) 14 0 = w from hw)]
      exact hq _ (h1.th _) ((th7 _ _).trans cdB_S.symm) (F1.tr (Fr_th _ _))
    · simp only [if_neg c7] at hq
      refine R.aload_n dX13_predictReading_5 rfl (by first | rfl | exact rfv_rf _) ?_
      refine R.iload_n dX13_predictReading_6 rfl ?_
      refine cl_X13_395 rfl rfl (by first | exact Nat.le_of_ble_eq_true rfl | simp [rf_cat, Value.category]) dX13_predictReading_7 ?_
      refine m_noCS hL hR hV.f4 hx ?_
      refine R.if_ne (tgt := 34) dX13_predictReading_10 (by decide) (fun c9 => absurd (rfl) c9) (fun _ => ?_)
      refine R.aload_n dX13_predictReading_13 rfl (by first | rfl | exact rfv_rf _) ?_
      refine R.aload_n dX13_predictReading_14 rfl (by first | rfl | exact rfv_rf _) ?_
      refine R.iload_n dX13_predictReading_15 rfl ?_
      refine cl_X13_136 rfl rfl (by first | exact Nat.le_of_ble_eq_true rfl | simp [rf_cat, Value.category]) dX13_predictReading_16 ?_
      refine m_th hL hR hi ?_
      rw [if_neg c7]
      refine R.if_ne (tgt := 26) dX13_predictReading_19 (by decide) (fun _ => ?_) (fun c9 => absurd c9 (by decide))
      refine R.iconst (v := 0) dX13_predictReading_26 rfl ?_
      refine R.iconst (v := 2) dX13_predictReading_27 rfl ?_
      refine cl_X13_391 rfl rfl (by first | exact Nat.le_of_ble_eq_true rfl | simp [rf_cat, Value.category]) dX13_predictReading_28 ?_
      refine m_fail0 ?_
      refine R.if_eq (tgt := 36) dX13_predictReading_31 (by decide) (fun _ => ?_) (fun c9 => absurd (rfl) c9)
      refine R.aload_n dX13_predictReading_36 rfl (by first | rfl | exact rfv_rf _) ?_
      refine cl_X13_410 rfl rfl (by first | exact Nat.le_of_ble_eq_true rfl | simp [rf_cat, Value.category]) dX13_predictReading_37 ?_
      refine m_aside hL (fun g hg => ?_)
      have hL2 : ML (sA M1 2 g) := hL.fr rfl rfl
      refine R.aload_n dX13_predictReading_40 rfl (by first | rfl | exact rfv_rf _) ?_
      refine R.aload_n dX13_predictReading_41 rfl (by first | rfl | exact rfv_rf _) ?_
      refine R.iload_n dX13_predictReading_42 rfl ?_
      refine cl_X13_117 rfl rfl (by first | exact Nat.le_of_ble_eq_true rfl | simp [rf_cat, Value.category]) dX13_predictReading_43 ?_
      refine m_weighs (d := d + 10) hL2 hR (by omega) (hV.wg (by omega) (by omega)) (fun w3 hR3 => ?_)
      refine cl_X13_413 rfl rfl (by first | exact Nat.le_of_ble_eq_true rfl | simp [rf_cat, Value.category]) dX13_predictReading_46 ?_
      refine m_back hL (fun w9 hw9 => ?_)
      refine WP.ret (ov := some (.int _)) dX13_predictReading_49 ⟨rfl, _, rfl, by first | rfl | assumption | exact nar_b01 (by assumption)⟩ ?_
      exact hq _ ((h1.bk (fun x hx => (hw9 x hx).trans ((hg x hx).trans (congrFun hw.symm x)))).mono (Nat.le_succ T)) ((th_bk _ _ _).trans z1) (F1.tr (Fr_bk _ _ _))
set_option maxHeartbeats 1000000 in
theorem m_cpN {d m b K : Nat} {Y : Yd} {x z : Int32} {w : Nat → Int32} {M : Mem} {Q : Out → Mem → Prop} (hL : ML M) (hR : RW Y m b K w) (h4 : yF Y 4 = nI m)  (hx : kC Y x = none) (hq : Q (.inl (some (.int 1))) (sW (sI M 11 0 7 1) w)) : WPc (d + 4) mX13_cannotPredict [.ref (rf 11 0), .int x, .int z] (sW M w) Q := by
  refine WPc.of (by decide +kernel) (Nat.le_of_ble_eq_true rfl) rfl ?_
  refine R.aload_n dX13_cannotPredict_0 rfl (by first | rfl | exact rfv_rf _) ?_
  refine R.iload_n dX13_cannotPredict_1 rfl ?_
  refine cl_X13_395 rfl rfl (by first | exact Nat.le_of_ble_eq_true rfl | simp [rf_cat, Value.category]) dX13_cannotPredict_2 ?_
  refine m_noCN hL hR h4 hx ?_
  refine R.if_ne (tgt := 52) dX13_cannotPredict_5 (by decide) (fun _ => ?_) (fun c9 => absurd c9 (by decide))
  refine R.iconst (v := 1) dX13_cannotPredict_52 rfl ?_
  refine R.goto (tgt := 57) dX13_cannotPredict_53 (by decide) ?_
  refine WP.ret (ov := some (.int _)) dX13_cannotPredict_57 ⟨rfl, _, rfl, by first | rfl | assumption | exact nar_b01 (by assumption)⟩ ?_
  exact hq
set_option maxHeartbeats 1000000 in
theorem m_cpR {d i m b K : Nat} {Y : Yd} {x z : Int32} {w : Nat → Int32} {M : Mem} {Q : Out → Mem → Prop} (hL : ML M) (hR : RW Y m b K w) (h4 : yF Y 4 = nI m)  (hx : kC Y x = some i) (hr : ¬ (1 ≤ z ∧ z ≤ 100)) (hq : Q (.inl (some (.int 1))) (sW (sI M 11 0 7 2) w)) : WPc (d + 4) mX13_cannotPredict [.ref (rf 11 0), .int x, .int z] (sW M w) Q := by
  refine WPc.of (by decide +kernel) (Nat.le_of_ble_eq_true rfl) rfl ?_
  obtain ⟨ex, hi⟩ := kC_m hx hR.t.le h4
  subst ex
  refine R.aload_n dX13_cannotPredict_0 rfl (by first | rfl | exact rfv_rf _) ?_
  refine R.iload_n dX13_cannotPredict_1 rfl ?_
  refine cl_X13_395 rfl rfl (by first | exact Nat.le_of_ble_eq_true rfl | simp [rf_cat, Value.category]) dX13_cannotPredict_2 ?_
  refine m_noCS hL hR h4 hx ?_
  refine R.if_ne (tgt := 52) dX13_cannotPredict_5 (by decide) (fun c9 => absurd (rfl) c9) (fun _ => ?_)
  refine R.aload_n dX13_cannotPredict_8 rfl (by first | rfl | exact rfv_rf _) ?_
  refine R.iload_n dX13_cannotPredict_9 rfl ?_
  refine R.iconst (v := 1) dX13_cannotPredict_10 rfl ?_
  refine R.bipush (v := 100) dX13_cannotPredict_11 (by decide) ?_
  refine cl_X13_140 rfl rfl (by first | exact Nat.le_of_ble_eq_true rfl | simp [rf_cat, Value.category]) dX13_cannotPredict_13 ?_
  refine m_inR ?_
  rw [if_neg hr]
  refine R.if_ne (tgt := 23) dX13_cannotPredict_16 (by decide) (fun c9 => absurd (rfl) c9) (fun _ => ?_)
  refine R.iconst (v := 1) dX13_cannotPredict_19 rfl ?_
  refine R.goto (tgt := 24) dX13_cannotPredict_20 (by decide) ?_
  refine R.iconst (v := 2) dX13_cannotPredict_24 rfl ?_
  refine cl_X13_391 rfl rfl (by first | exact Nat.le_of_ble_eq_true rfl | simp [rf_cat, Value.category]) dX13_cannotPredict_25 ?_
  refine m_fail1 ?_
  rw [sI_sWf M w 0 7 2 (by decide)]
  refine R.if_ne (tgt := 52) dX13_cannotPredict_28 (by decide) (fun _ => ?_) (fun c9 => absurd c9 (by decide))
  refine R.iconst (v := 1) dX13_cannotPredict_52 rfl ?_
  refine R.goto (tgt := 57) dX13_cannotPredict_53 (by decide) ?_
  refine WP.ret (ov := some (.int _)) dX13_cannotPredict_57 ⟨rfl, _, rfl, by first | rfl | assumption | exact nar_b01 (by assumption)⟩ ?_
  exact hq
set_option maxHeartbeats 1000000 in
theorem m_cpT {d i m b K : Nat} {Y : Yd} {x z : Int32} {w : Nat → Int32} {M : Mem} {Q : Out → Mem → Prop} (hL : ML M) (hR : RW Y m b K w) (h4 : yF Y 4 = nI m)  (hx : kC Y x = some i) (hr : 1 ≤ z ∧ z ≤ 100) (c7 : yC Y i 7 = 0) (hq : Q (.inl (some (.int 1))) (sW (sI M 11 0 7 3) w)) : WPc (d + 4) mX13_cannotPredict [.ref (rf 11 0), .int x, .int z] (sW M w) Q := by
  refine WPc.of (by decide +kernel) (Nat.le_of_ble_eq_true rfl) rfl ?_
  obtain ⟨ex, hi⟩ := kC_m hx hR.t.le h4
  subst ex
  refine R.aload_n dX13_cannotPredict_0 rfl (by first | rfl | exact rfv_rf _) ?_
  refine R.iload_n dX13_cannotPredict_1 rfl ?_
  refine cl_X13_395 rfl rfl (by first | exact Nat.le_of_ble_eq_true rfl | simp [rf_cat, Value.category]) dX13_cannotPredict_2 ?_
  refine m_noCS hL hR h4 hx ?_
  refine R.if_ne (tgt := 52) dX13_cannotPredict_5 (by decide) (fun c9 => absurd (rfl) c9) (fun _ => ?_)
  refine R.aload_n dX13_cannotPredict_8 rfl (by first | rfl | exact rfv_rf _) ?_
  refine R.iload_n dX13_cannotPredict_9 rfl ?_
  refine R.iconst (v := 1) dX13_cannotPredict_10 rfl ?_
  refine R.bipush (v := 100) dX13_cannotPredict_11 (by decide) ?_
  refine cl_X13_140 rfl rfl (by first | exact Nat.le_of_ble_eq_true rfl | simp [rf_cat, Value.category]) dX13_cannotPredict_13 ?_
  refine m_inR ?_
  rw [if_pos hr]
  refine R.if_ne (tgt := 23) dX13_cannotPredict_16 (by decide) (fun _ => ?_) (fun c9 => absurd c9 (by decide))
  refine R.iconst (v := 0) dX13_cannotPredict_23 rfl ?_
  refine R.iconst (v := 2) dX13_cannotPredict_24 rfl ?_
  refine cl_X13_391 rfl rfl (by first | exact Nat.le_of_ble_eq_true rfl | simp [rf_cat, Value.category]) dX13_cannotPredict_25 ?_
  refine m_fail0 ?_
  refine R.if_ne (tgt := 52) dX13_cannotPredict_28 (by decide) (fun c9 => absurd (rfl) c9) (fun _ => ?_)
  refine R.aload_n dX13_cannotPredict_31 rfl (by first | rfl | exact rfv_rf _) ?_
  refine R.aload_n dX13_cannotPredict_32 rfl (by first | rfl | exact rfv_rf _) ?_
  refine R.iload_n dX13_cannotPredict_33 rfl ?_
  refine cl_X13_136 rfl rfl (by first | exact Nat.le_of_ble_eq_true rfl | simp [rf_cat, Value.category]) dX13_cannotPredict_34 ?_
  refine m_th hL hR hi ?_
  rw [if_pos c7]
  refine R.if_ne (tgt := 44) dX13_cannotPredict_37 (by decide) (fun c9 => absurd (rfl) c9) (fun _ => ?_)
  refine R.iconst (v := 1) dX13_cannotPredict_40 rfl ?_
  refine R.goto (tgt := 45) dX13_cannotPredict_41 (by decide) ?_
  refine R.iconst (v := 3) dX13_cannotPredict_45 rfl ?_
  refine cl_X13_391 rfl rfl (by first | exact Nat.le_of_ble_eq_true rfl | simp [rf_cat, Value.category]) dX13_cannotPredict_46 ?_
  refine m_fail1 ?_
  rw [sI_sWf M w 0 7 3 (by decide)]
  refine R.if_eq (tgt := 56) dX13_cannotPredict_49 (by decide) (fun c9 => absurd c9 (by decide)) (fun _ => ?_)
  refine R.iconst (v := 1) dX13_cannotPredict_52 rfl ?_
  refine R.goto (tgt := 57) dX13_cannotPredict_53 (by decide) ?_
  refine WP.ret (ov := some (.int _)) dX13_cannotPredict_57 ⟨rfl, _, rfl, by first | rfl | assumption | exact nar_b01 (by assumption)⟩ ?_
  exact hq
set_option maxHeartbeats 1000000 in
theorem m_cpS {d i m b K : Nat} {Y : Yd} {x z : Int32} {w : Nat → Int32} {M : Mem} {Q : Out → Mem → Prop} (hL : ML M) (hR : RW Y m b K w) (h4 : yF Y 4 = nI m)  (hx : kC Y x = some i) (hr : 1 ≤ z ∧ z ≤ 100) (c7 : ¬ yC Y i 7 = 0) (hq : Q (.inl (some (.int 0))) (sW M w)) : WPc (d + 4) mX13_cannotPredict [.ref (rf 11 0), .int x, .int z] (sW M w) Q := by
  refine WPc.of (by decide +kernel) (Nat.le_of_ble_eq_true rfl) rfl ?_
  obtain ⟨ex, hi⟩ := kC_m hx hR.t.le h4
  subst ex
  refine R.aload_n dX13_cannotPredict_0 rfl (by first | rfl | exact rfv_rf _) ?_
  refine R.iload_n dX13_cannotPredict_1 rfl ?_
  refine cl_X13_395 rfl rfl (by first | exact Nat.le_of_ble_eq_true rfl | simp [rf_cat, Value.category]) dX13_cannotPredict_2 ?_
  refine m_noCS hL hR h4 hx ?_
  refine R.if_ne (tgt := 52) dX13_cannotPredict_5 (by decide) (fun c9 => absurd (rfl) c9) (fun _ => ?_)
  refine R.aload_n dX13_cannotPredict_8 rfl (by first | rfl | exact rfv_rf _) ?_
  refine R.iload_n dX13_cannotPredict_9 rfl ?_
  refine R.iconst (v := 1) dX13_cannotPredict_10 rfl ?_
  refine R.bipush (v := 100) dX13_cannotPredict_11 (by decide) ?_
  refine cl_X13_140 rfl rfl (by first | exact Nat.le_of_ble_eq_true rfl | simp [rf_cat, Value.category]) dX13_cannotPredict_13 ?_
  refine m_inR ?_
  rw [if_pos hr]
  refine R.if_ne (tgt := 23) dX13_cannotPredict_16 (by decide) (fun _ => ?_) (fun c9 => absurd c9 (by decide))
  refine R.iconst (v := 0) dX13_cannotPredict_23 rfl ?_
  refine R.iconst (v := 2) dX13_cannotPredict_24 rfl ?_
  refine cl_X13_391 rfl rfl (by first | exact Nat.le_of_ble_eq_true rfl | simp [rf_cat, Value.category]) dX13_cannotPredict_25 ?_
  refine m_fail0 ?_
  refine R.if_ne (tgt := 52) dX13_cannotPredict_28 (by decide) (fun c9 => absurd (rfl) c9) (fun _ => ?_)
  refine R.aload_n dX13_cannotPredict_31 rfl (by first | rfl | exact rfv_rf _) ?_
  refine R.aload_n dX13_cannotPredict_32 rfl (by first | rfl | exact rfv_rf _) ?_
  refine R.iload_n dX13_cannotPredict_33 rfl ?_
  refine cl_X13_136 rfl rfl (by first | exact Nat.le_of_ble_eq_true rfl | simp [rf_cat, Value.category]) dX13_cannotPredict_34 ?_
  refine m_th hL hR hi ?_
  rw [if_neg c7]
  refine R.if_ne (tgt := 44) dX13_cannotPredict_37 (by decide) (fun _ => ?_) (fun c9 => absurd c9 (by decide))
  refine R.iconst (v := 0) dX13_cannotPredict_44 rfl ?_
  refine R.iconst (v := 3) dX13_cannotPredict_45 rfl ?_
  refine cl_X13_391 rfl rfl (by first | exact Nat.le_of_ble_eq_true rfl | simp [rf_cat, Value.category]) dX13_cannotPredict_46 ?_
  refine m_fail0 ?_
  refine R.if_eq (tgt := 56) dX13_cannotPredict_49 (by decide) (fun _ => ?_) (fun c9 => absurd (rfl) c9)
  refine R.iconst (v := 0) dX13_cannotPredict_56 rfl ?_
  refine WP.ret (ov := some (.int _)) dX13_cannotPredict_57 ⟨rfl, _, rfl, by first | rfl | assumption | exact nar_b01 (by assumption)⟩ ?_
  exact hq
set_option maxHeartbeats 2000000 in
set_option maxRecDepth 4000 in
theorem n_predictMean {d T : Nat} {S : KS} {M : Mem} {Q : Out → Mem → Prop} {p : Nat} {x z : Int32} (h : MSt M S T) (hT : T ≤ 56900) (hq : QMr Q M S T cdC (rC S x fun i => if 1 ≤ z ∧ z ≤ 100 then (if yC (kY S) i 7 = 0 then .inl eS else .inr (yMean (tkN i z.toNatClampNeg (kY S)) i, S, p)) else .inl eA)) : WPc (d + 20) mX13_predictMean [.ref (rf 11 0), .int x, .int z] M Q := by
  refine WPc.of (by decide +kernel) (Nat.le_of_ble_eq_true rfl) rfl ?_
  refine R.aload_n dX13_predictMean_0 rfl (by first | rfl | exact rfv_rf _) ?_
  refine R.iconst (v := 0) dX13_predictMean_1 rfl ?_
  refine R.putI dX13_predictMean_2 fl_X13_65 (fun q hq => by cases hq; exact Or.inl rfl) (by decide) rfl rfl rfl ?_
  have h1 := h.th 0
  have F1 := Fr_th M 0
  have z1 : mI (sI M 11 0 7 0) 11 0 7 = 0 := th7 M 0
  generalize sI M 11 0 7 0 = M1 at h1 F1 z1 ⊢
  obtain ⟨m, b, hR, hV⟩ := h1.y
  have hL := h1.l
  have hm16 := hV.m16
  have hb6 := hV.b6
  rw [← bW (M := M1) rfl]
  generalize hw : mI M1 14 0 = w at hR ⊢
  cases hx : kC (kY S) x with
  | none =>
    rw [rC_n hx] at hq
    refine R.aload_n dX13_predictMean_5 rfl (by first | rfl | exact rfv_rf _) ?_
    refine R.iload_n dX13_predictMean_6 rfl ?_
    refine R.iload_n dX13_predictMean_7 rfl ?_
    refine cl_X13_416 rfl rfl (by first | exact Nat.le_of_ble_eq_true rfl | simp [rf_cat, Value.category]) dX13_predictMean_8 ?_
    refine m_cpN hL hR hV.f4 hx ?_
    refine R.if_eq (tgt := 16) dX13_predictMean_11 (by decide) (fun c9 => absurd c9 (by decide)) (fun _ => ?_)
    refine R.iconst (v := 0) dX13_predictMean_14 rfl ?_
    refine WP.ret (ov := some (.int _)) dX13_predictMean_15 ⟨rfl, _, rfl, by first | rfl | assumption | exact nar_b01 (by assumption)⟩ ?_
    rw [bW (show mI (sI M1 11 0 7 1) 14 0 = w from hw)]
    exact hq _ (h1.th _) ((th7 _ _).trans cdC_I.symm) (F1.tr (Fr_th _ _))
  | some i =>
    rw [rC_s hx] at hq
    by_cases hr : 1 ≤ z ∧ z ≤ 100
    · simp only [if_pos hr] at hq
      by_cases c7 : yC (kY S) i 7 = 0
      · simp only [if_pos c7] at hq
        refine R.aload_n dX13_predictMean_5 rfl (by first | rfl | exact rfv_rf _) ?_
        refine R.iload_n dX13_predictMean_6 rfl ?_
        refine R.iload_n dX13_predictMean_7 rfl ?_
        refine cl_X13_416 rfl rfl (by first | exact Nat.le_of_ble_eq_true rfl | simp [rf_cat, Value.category]) dX13_predictMean_8 ?_
        refine m_cpT hL hR hV.f4 hx hr c7 ?_
        refine R.if_eq (tgt := 16) dX13_predictMean_11 (by decide) (fun c9 => absurd c9 (by decide)) (fun _ => ?_)
        refine R.iconst (v := 0) dX13_predictMean_14 rfl ?_
        refine WP.ret (ov := some (.int _)) dX13_predictMean_15 ⟨rfl, _, rfl, by first | rfl | assumption | exact nar_b01 (by assumption)⟩ ?_
        rw [bW (show mI (sI M1 11 0 7 3) 14 0 = w from hw)]
        exact hq _ (h1.th _) ((th7 _ _).trans cdC_S.symm) (F1.tr (Fr_th _ _))
      · simp only [if_neg c7] at hq
        obtain ⟨n, hn, ez⟩ := nI_of (x := z) (fun q => absurd (Int32.le_trans (show (0 : Int32) ≤ 1 by decide) hr.1) (i_nle q))
        have n1 : 1 ≤ n := (nI_leI (by omega) hn).mp (by rw [← ez]; exact hr.1)
        have n2 : n ≤ 100 := (nI_leI hn (by omega)).mp (by rw [← ez]; exact hr.2)
        have hx2 := hx
        obtain ⟨ex, hi⟩ := kC_m hx hm16 hV.f4
        subst ez
        rw [nI_clamp hn] at hq
        subst ex
        refine R.aload_n dX13_predictMean_5 rfl (by first | rfl | exact rfv_rf _) ?_
        refine R.iload_n dX13_predictMean_6 rfl ?_
        refine R.iload_n dX13_predictMean_7 rfl ?_
        refine cl_X13_416 rfl rfl (by first | exact Nat.le_of_ble_eq_true rfl | simp [rf_cat, Value.category]) dX13_predictMean_8 ?_
        refine m_cpS hL hR hV.f4 hx2 hr c7 ?_
        refine R.if_eq (tgt := 16) dX13_predictMean_11 (by decide) (fun _ => ?_) (fun c9 => absurd (rfl) c9)
        refine R.aload_n dX13_predictMean_16 rfl (by first | rfl | exact rfv_rf _) ?_
        refine cl_X13_410 rfl rfl (by first | exact Nat.le_of_ble_eq_true rfl | simp [rf_cat, Value.category]) dX13_predictMean_17 ?_
        refine m_aside hL (fun g hg => ?_)
        have hL2 : ML (sA M1 2 g) := hL.fr rfl rfl
        refine R.aload_n dX13_predictMean_20 rfl (by first | rfl | exact rfv_rf _) ?_
        refine R.iload_n dX13_predictMean_21 rfl ?_
        refine R.iload_n dX13_predictMean_22 rfl ?_
        refine cl_X13_352 rfl rfl (by first | exact Nat.le_of_ble_eq_true rfl | simp [rf_cat, Value.category]) dX13_predictMean_23 ?_
        refine m_wMany (d := d + 9) hL2 hR (by omega) (by omega) (fun a ha => (PV.tkn a (kY S) T hV (by omega) hi).wg (by omega) (by omega)) (fun v3 w3 hR3 => ?_)
        refine R.istore_n dX13_predictMean_26 (Nat.le_of_ble_eq_true rfl) (by decide) (by first | rfl | simp [lft, rf_cat]) rfl ?_
        refine R.aload_n dX13_predictMean_27 rfl (by first | rfl | exact rfv_rf _) ?_
        refine R.aload_n dX13_predictMean_28 rfl (by first | rfl | exact rfv_rf _) ?_
        refine R.iload_n dX13_predictMean_29 rfl ?_
        refine cl_X13_130 rfl rfl (by first | exact Nat.le_of_ble_eq_true rfl | simp [rf_cat, Value.category]) dX13_predictMean_30 ?_
        refine m_mean hL2 hR3 hi ((PV.tkn n (kY S) T hV (by omega) hi).mo (by omega) (by omega)) (PV.p8t hV (by omega) (by omega) n1) ?_
        refine cl_X13_413 rfl rfl (by first | exact Nat.le_of_ble_eq_true rfl | simp [rf_cat, Value.category]) dX13_predictMean_33 ?_
        refine m_back hL (fun w9 hw9 => ?_)
        refine WP.ret (ov := some (.int _)) dX13_predictMean_36 ⟨rfl, _, rfl, by first | rfl | assumption | exact nar_b01 (by assumption)⟩ ?_
        exact hq _ ((h1.bk (fun x hx => (hw9 x hx).trans ((hg x hx).trans (congrFun hw.symm x)))).mono (Nat.le_succ T)) ((th_bk _ _ _).trans z1) (F1.tr (Fr_bk _ _ _))
    · simp only [if_neg hr] at hq
      refine R.aload_n dX13_predictMean_5 rfl (by first | rfl | exact rfv_rf _) ?_
      refine R.iload_n dX13_predictMean_6 rfl ?_
      refine R.iload_n dX13_predictMean_7 rfl ?_
      refine cl_X13_416 rfl rfl (by first | exact Nat.le_of_ble_eq_true rfl | simp [rf_cat, Value.category]) dX13_predictMean_8 ?_
      refine m_cpR hL hR hV.f4 hx hr ?_
      refine R.if_eq (tgt := 16) dX13_predictMean_11 (by decide) (fun c9 => absurd c9 (by decide)) (fun _ => ?_)
      refine R.iconst (v := 0) dX13_predictMean_14 rfl ?_
      refine WP.ret (ov := some (.int _)) dX13_predictMean_15 ⟨rfl, _, rfl, by first | rfl | assumption | exact nar_b01 (by assumption)⟩ ?_
      rw [bW (show mI (sI M1 11 0 7 2) 14 0 = w from hw)]
      exact hq _ (h1.th _) ((th7 _ _).trans cdC_A.symm) (F1.tr (Fr_th _ _))
set_option maxHeartbeats 2000000 in
set_option maxRecDepth 4000 in
theorem n_worstErrorWithin {d T : Nat} {S : KS} {M : Mem} {Q : Out → Mem → Prop} {p : Nat} {x z : Int32} (h : MSt M S T) (hT : T ≤ 56900) (hq : QMr Q M S T cdC (rC S x fun i => if 1 ≤ z ∧ z ≤ 100 then (if yC (kY S) i 7 = 0 then .inl eS else .inr (woF (kY S) i z.toNatClampNeg 0 0, S, p)) else .inl eA)) : WPc (d + 20) mX13_worstErrorWithin [.ref (rf 11 0), .int x, .int z] M Q := by
  refine WPc.of (by decide +kernel) (Nat.le_of_ble_eq_true rfl) rfl ?_
  refine R.aload_n dX13_worstErrorWithin_0 rfl (by first | rfl | exact rfv_rf _) ?_
  refine R.iconst (v := 0) dX13_worstErrorWithin_1 rfl ?_
  refine R.putI dX13_worstErrorWithin_2 fl_X13_65 (fun q hq => by cases hq; exact Or.inl rfl) (by decide) rfl rfl rfl ?_
  have h1 := h.th 0
  have F1 := Fr_th M 0
  have z1 : mI (sI M 11 0 7 0) 11 0 7 = 0 := th7 M 0
  generalize sI M 11 0 7 0 = M1 at h1 F1 z1 ⊢
  obtain ⟨m, b, hR, hV⟩ := h1.y
  have hL := h1.l
  have hm16 := hV.m16
  have hb6 := hV.b6
  rw [← bW (M := M1) rfl]
  generalize hw : mI M1 14 0 = w at hR ⊢
  cases hx : kC (kY S) x with
  | none =>
    rw [rC_n hx] at hq
    refine R.aload_n dX13_worstErrorWithin_5 rfl (by first | rfl | exact rfv_rf _) ?_
    refine R.iload_n dX13_worstErrorWithin_6 rfl ?_
    refine R.iload_n dX13_worstErrorWithin_7 rfl ?_
    refine cl_X13_416 rfl rfl (by first | exact Nat.le_of_ble_eq_true rfl | simp [rf_cat, Value.category]) dX13_worstErrorWithin_8 ?_
    refine m_cpN hL hR hV.f4 hx ?_
    refine R.if_eq (tgt := 16) dX13_worstErrorWithin_11 (by decide) (fun c9 => absurd c9 (by decide)) (fun _ => ?_)
    refine R.iconst (v := 0) dX13_worstErrorWithin_14 rfl ?_
    refine WP.ret (ov := some (.int _)) dX13_worstErrorWithin_15 ⟨rfl, _, rfl, by first | rfl | assumption | exact nar_b01 (by assumption)⟩ ?_
    rw [bW (show mI (sI M1 11 0 7 1) 14 0 = w from hw)]
    exact hq _ (h1.th _) ((th7 _ _).trans cdC_I.symm) (F1.tr (Fr_th _ _))
  | some i =>
    rw [rC_s hx] at hq
    by_cases hr : 1 ≤ z ∧ z ≤ 100
    · simp only [if_pos hr] at hq
      by_cases c7 : yC (kY S) i 7 = 0
      · simp only [if_pos c7] at hq
        refine R.aload_n dX13_worstErrorWithin_5 rfl (by first | rfl | exact rfv_rf _) ?_
        refine R.iload_n dX13_worstErrorWithin_6 rfl ?_
        refine R.iload_n dX13_worstErrorWithin_7 rfl ?_
        refine cl_X13_416 rfl rfl (by first | exact Nat.le_of_ble_eq_true rfl | simp [rf_cat, Value.category]) dX13_worstErrorWithin_8 ?_
        refine m_cpT hL hR hV.f4 hx hr c7 ?_
        refine R.if_eq (tgt := 16) dX13_worstErrorWithin_11 (by decide) (fun c9 => absurd c9 (by decide)) (fun _ => ?_)
        refine R.iconst (v := 0) dX13_worstErrorWithin_14 rfl ?_
        refine WP.ret (ov := some (.int _)) dX13_worstErrorWithin_15 ⟨rfl, _, rfl, by first | rfl | assumption | exact nar_b01 (by assumption)⟩ ?_
        rw [bW (show mI (sI M1 11 0 7 3) 14 0 = w from hw)]
        exact hq _ (h1.th _) ((th7 _ _).trans cdC_S.symm) (F1.tr (Fr_th _ _))
      · simp only [if_neg c7] at hq
        obtain ⟨n, hn, ez⟩ := nI_of (x := z) (fun q => absurd (Int32.le_trans (show (0 : Int32) ≤ 1 by decide) hr.1) (i_nle q))
        have n1 : 1 ≤ n := (nI_leI (by omega) hn).mp (by rw [← ez]; exact hr.1)
        have n2 : n ≤ 100 := (nI_leI hn (by omega)).mp (by rw [← ez]; exact hr.2)
        have hx2 := hx
        obtain ⟨ex, hi⟩ := kC_m hx hm16 hV.f4
        subst ez
        rw [nI_clamp hn] at hq
        subst ex
        refine R.aload_n dX13_worstErrorWithin_5 rfl (by first | rfl | exact rfv_rf _) ?_
        refine R.iload_n dX13_worstErrorWithin_6 rfl ?_
        refine R.iload_n dX13_worstErrorWithin_7 rfl ?_
        refine cl_X13_416 rfl rfl (by first | exact Nat.le_of_ble_eq_true rfl | simp [rf_cat, Value.category]) dX13_worstErrorWithin_8 ?_
        refine m_cpS hL hR hV.f4 hx2 hr c7 ?_
        refine R.if_eq (tgt := 16) dX13_worstErrorWithin_11 (by decide) (fun _ => ?_) (fun c9 => absurd (rfl) c9)
        refine R.aload_n dX13_worstErrorWithin_16 rfl (by first | rfl | exact rfv_rf _) ?_
        refine cl_X13_410 rfl rfl (by first | exact Nat.le_of_ble_eq_true rfl | simp [rf_cat, Value.category]) dX13_worstErrorWithin_17 ?_
        refine m_aside hL (fun g hg => ?_)
        have hL2 : ML (sA M1 2 g) := hL.fr rfl rfl
        refine R.iconst (v := 0) dX13_worstErrorWithin_20 rfl ?_
        refine R.istore_n dX13_worstErrorWithin_21 (Nat.le_of_ble_eq_true rfl) (by decide) (by first | rfl | simp [lft, rf_cat]) rfl ?_
        refine R.iconst (v := nI 0) dX13_worstErrorWithin_22 rfl ?_
        refine R.istore dX13_worstErrorWithin_23 (Nat.le_of_ble_eq_true rfl) (by decide) (by first | rfl | simp [lft, rf_cat]) rfl ?_
        have key : ∀ (f k : Nat) (y : Int32) (w3 : Nat → Int32) (v5 : Value), k + f = n → RW (tkN i k (kY S)) m b T w3 → QMr Q M S T cdC (.inr (woF (kY S) i f k y, S, p)) → WP mX13_worstErrorWithin (d + 20) 25 [.ref (rf 11 0), .int (nI i), .int (nI n), .int y, .int (nI k), v5] [] (sW (sA M1 2 g) w3) Q := by
          intro f
          induction f with
          | zero =>
            intro k y w3 v5 hk hR3 hq2
            have ek : k = n := by omega
            subst ek
            refine R.iload dX13_worstErrorWithin_25 rfl ?_
            refine R.iload_n dX13_worstErrorWithin_27 rfl ?_
            refine R.geT (tgt := 54) (Int32.le_refl _) dX13_worstErrorWithin_28 (by decide) ?_
            refine R.aload_n dX13_worstErrorWithin_54 rfl (by first | rfl | exact rfv_rf _) ?_
            refine R.iload_n dX13_worstErrorWithin_55 rfl ?_
            refine cl_X13_413 rfl rfl (by first | exact Nat.le_of_ble_eq_true rfl | simp [rf_cat, Value.category]) dX13_worstErrorWithin_56 ?_
            refine m_back hL (fun w9 hw9 => ?_)
            refine WP.ret (ov := some (.int _)) dX13_worstErrorWithin_59 ⟨rfl, _, rfl, by first | rfl | assumption | exact nar_b01 (by assumption)⟩ ?_
            exact hq2 _ ((h1.bk (fun x hx => (hw9 x hx).trans ((hg x hx).trans (congrFun hw.symm x)))).mono (Nat.le_succ T)) ((th_bk _ _ _).trans z1) (F1.tr (Fr_bk _ _ _))
          | succ f ih =>
            intro k y w3 v5 hf hR3 hq2
            rw [woF] at hq2
            refine R.iload dX13_worstErrorWithin_25 rfl ?_
            refine R.iload_n dX13_worstErrorWithin_27 rfl ?_
            refine R.geF (tgt := 54) (nI_ge (show k < n by omega) (by omega)) dX13_worstErrorWithin_28 (by decide) ?_
            refine R.aload_n dX13_worstErrorWithin_31 rfl (by first | rfl | exact rfv_rf _) ?_
            refine R.iload_n dX13_worstErrorWithin_32 rfl ?_
            refine cl_X13_117 rfl rfl (by first | exact Nat.le_of_ble_eq_true rfl | simp [rf_cat, Value.category]) dX13_worstErrorWithin_33 ?_
            refine m_weighs (d := d + 10) hL2 hR3 (by omega) ((PV.tkn k (kY S) T hV (by omega) hi).wg (by omega) (by omega)) (fun w4 hR4 => ?_)
            rw [← tkN_s] at hR4
            refine R.istore dX13_worstErrorWithin_36 (Nat.le_of_ble_eq_true rfl) (by decide) (by first | rfl | simp [lft, rf_cat]) rfl ?_
            refine R.iload_n dX13_worstErrorWithin_38 rfl ?_
            refine R.aload_n dX13_worstErrorWithin_39 rfl (by first | rfl | exact rfv_rf _) ?_
            refine R.iload_n dX13_worstErrorWithin_40 rfl ?_
            refine cl_X13_163 rfl rfl (by first | exact Nat.le_of_ble_eq_true rfl | simp [rf_cat, Value.category]) dX13_worstErrorWithin_41 ?_
            refine m_off (d := d + 10) hL2 hR4 hi (PV.tkn (k + 1) (kY S) T hV (by omega) hi).l (PV.tkn (k + 1) (kY S) T hV (by omega) hi).acy ((PV.tkn (k + 1) (kY S) T hV (by omega) hi).mo (by omega) (by omega)) (PV.p8t hV (by omega) (by omega) (by omega)) ?_
            refine cl_X13_88 rfl rfl (by first | exact Nat.le_of_ble_eq_true rfl | simp [rf_cat, Value.category]) dX13_worstErrorWithin_44 ?_
            refine s_max ?_
            refine R.istore_n dX13_worstErrorWithin_47 (Nat.le_of_ble_eq_true rfl) (by decide) (by first | rfl | simp [lft, rf_cat]) rfl ?_
            refine R.iinc dX13_worstErrorWithin_48 (Nat.le_of_ble_eq_true rfl) (by decide) (by first | rfl | simp [lft, rf_cat]) rfl (inc_nI _) rfl ?_
            refine R.goto (tgt := 25) dX13_worstErrorWithin_51 (by decide) ?_
            exact ih (k + 1) _ w4 _ (by omega) hR4 hq2
        exact key n 0 0 w _ (by omega) hR hq
    · simp only [if_neg hr] at hq
      refine R.aload_n dX13_worstErrorWithin_5 rfl (by first | rfl | exact rfv_rf _) ?_
      refine R.iload_n dX13_worstErrorWithin_6 rfl ?_
      refine R.iload_n dX13_worstErrorWithin_7 rfl ?_
      refine cl_X13_416 rfl rfl (by first | exact Nat.le_of_ble_eq_true rfl | simp [rf_cat, Value.category]) dX13_worstErrorWithin_8 ?_
      refine m_cpR hL hR hV.f4 hx hr ?_
      refine R.if_eq (tgt := 16) dX13_worstErrorWithin_11 (by decide) (fun c9 => absurd c9 (by decide)) (fun _ => ?_)
      refine R.iconst (v := 0) dX13_worstErrorWithin_14 rfl ?_
      refine WP.ret (ov := some (.int _)) dX13_worstErrorWithin_15 ⟨rfl, _, rfl, by first | rfl | assumption | exact nar_b01 (by assumption)⟩ ?_
      rw [bW (show mI (sI M1 11 0 7 2) 14 0 = w from hw)]
      exact hq _ (h1.th _) ((th7 _ _).trans cdC_A.symm) (F1.tr (Fr_th _ _))
set_option maxHeartbeats 2000000 in
set_option maxRecDepth 4000 in
theorem n_readingsUntilWithin {d T : Nat} {S : KS} {M : Mem} {Q : Out → Mem → Prop} {p : Nat} {x z : Int32} (h : MSt M S T) (hT : T ≤ 56900) (hq : QMr Q M S T cdC (rC S x fun i => if 0 ≤ z ∧ z ≤ 50 then (if yC (kY S) i 7 = 0 then .inl eS else if 0 < yC (kY S) i 8 ∧ fabs (yErr (kY S) i) ≤ z then .inr (0, S, p) else .inr (ruF (kY S) i z 100 0, S, p)) else .inl eA)) : WPc (d + 20) mX13_readingsUntilWithin [.ref (rf 11 0), .int x, .int z] M Q := by
  refine WPc.of (by decide +kernel) (Nat.le_of_ble_eq_true rfl) rfl ?_
  refine R.aload_n dX13_readingsUntilWithin_0 rfl (by first | rfl | exact rfv_rf _) ?_
  refine R.iconst (v := 0) dX13_readingsUntilWithin_1 rfl ?_
  refine R.putI dX13_readingsUntilWithin_2 fl_X13_65 (fun q hq => by cases hq; exact Or.inl rfl) (by decide) rfl rfl rfl ?_
  have h1 := h.th 0
  have F1 := Fr_th M 0
  have z1 : mI (sI M 11 0 7 0) 11 0 7 = 0 := th7 M 0
  generalize sI M 11 0 7 0 = M1 at h1 F1 z1 ⊢
  obtain ⟨m, b, hR, hV⟩ := h1.y
  have hL := h1.l
  have hm16 := hV.m16
  have hb6 := hV.b6
  rw [← bW (M := M1) rfl]
  generalize hw : mI M1 14 0 = w at hR ⊢
  cases hx : kC (kY S) x with
  | none =>
    rw [rC_n hx] at hq
    refine R.aload_n dX13_readingsUntilWithin_5 rfl (by first | rfl | exact rfv_rf _) ?_
    refine R.iload_n dX13_readingsUntilWithin_6 rfl ?_
    refine cl_X13_395 rfl rfl (by first | exact Nat.le_of_ble_eq_true rfl | simp [rf_cat, Value.category]) dX13_readingsUntilWithin_7 ?_
    refine m_noCN hL hR hV.f4 hx ?_
    refine R.if_ne (tgt := 57) dX13_readingsUntilWithin_10 (by decide) (fun _ => ?_) (fun c9 => absurd c9 (by decide))
    refine R.iconst (v := 0) dX13_readingsUntilWithin_57 rfl ?_
    refine WP.ret (ov := some (.int _)) dX13_readingsUntilWithin_58 ⟨rfl, _, rfl, by first | rfl | assumption | exact nar_b01 (by assumption)⟩ ?_
    rw [bW (show mI (sI M1 11 0 7 1) 14 0 = w from hw)]
    exact hq _ (h1.th _) ((th7 _ _).trans cdC_I.symm) (F1.tr (Fr_th _ _))
  | some i =>
    rw [rC_s hx] at hq
    obtain ⟨ex, hi⟩ := kC_m hx hm16 hV.f4
    subst ex
    by_cases hr : 0 ≤ z ∧ z ≤ 50
    · simp only [if_pos hr] at hq
      by_cases c7 : yC (kY S) i 7 = 0
      · simp only [if_pos c7] at hq
        refine R.aload_n dX13_readingsUntilWithin_5 rfl (by first | rfl | exact rfv_rf _) ?_
        refine R.iload_n dX13_readingsUntilWithin_6 rfl ?_
        refine cl_X13_395 rfl rfl (by first | exact Nat.le_of_ble_eq_true rfl | simp [rf_cat, Value.category]) dX13_readingsUntilWithin_7 ?_
        refine m_noCS hL hR hV.f4 hx ?_
        refine R.if_ne (tgt := 57) dX13_readingsUntilWithin_10 (by decide) (fun c9 => absurd (rfl) c9) (fun _ => ?_)
        refine R.aload_n dX13_readingsUntilWithin_13 rfl (by first | rfl | exact rfv_rf _) ?_
        refine R.iload_n dX13_readingsUntilWithin_14 rfl ?_
        refine R.iconst (v := 0) dX13_readingsUntilWithin_15 rfl ?_
        refine R.bipush (v := 50) dX13_readingsUntilWithin_16 (by decide) ?_
        refine cl_X13_140 rfl rfl (by first | exact Nat.le_of_ble_eq_true rfl | simp [rf_cat, Value.category]) dX13_readingsUntilWithin_18 ?_
        refine m_inR ?_
        rw [if_pos hr]
        refine R.if_ne (tgt := 28) dX13_readingsUntilWithin_21 (by decide) (fun _ => ?_) (fun c9 => absurd c9 (by decide))
        refine R.iconst (v := 0) dX13_readingsUntilWithin_28 rfl ?_
        refine R.iconst (v := 2) dX13_readingsUntilWithin_29 rfl ?_
        refine cl_X13_391 rfl rfl (by first | exact Nat.le_of_ble_eq_true rfl | simp [rf_cat, Value.category]) dX13_readingsUntilWithin_30 ?_
        refine m_fail0 ?_
        refine R.if_ne (tgt := 57) dX13_readingsUntilWithin_33 (by decide) (fun c9 => absurd (rfl) c9) (fun _ => ?_)
        refine R.aload_n dX13_readingsUntilWithin_36 rfl (by first | rfl | exact rfv_rf _) ?_
        refine R.aload_n dX13_readingsUntilWithin_37 rfl (by first | rfl | exact rfv_rf _) ?_
        refine R.iload_n dX13_readingsUntilWithin_38 rfl ?_
        refine cl_X13_136 rfl rfl (by first | exact Nat.le_of_ble_eq_true rfl | simp [rf_cat, Value.category]) dX13_readingsUntilWithin_39 ?_
        refine m_th hL hR hi ?_
        rw [if_pos c7]
        refine R.if_ne (tgt := 49) dX13_readingsUntilWithin_42 (by decide) (fun c9 => absurd (rfl) c9) (fun _ => ?_)
        refine R.iconst (v := 1) dX13_readingsUntilWithin_45 rfl ?_
        refine R.goto (tgt := 50) dX13_readingsUntilWithin_46 (by decide) ?_
        refine R.iconst (v := 3) dX13_readingsUntilWithin_50 rfl ?_
        refine cl_X13_391 rfl rfl (by first | exact Nat.le_of_ble_eq_true rfl | simp [rf_cat, Value.category]) dX13_readingsUntilWithin_51 ?_
        refine m_fail1 ?_
        rw [sI_sWf M1 w 0 7 3 (by decide)]
        refine R.if_eq (tgt := 59) dX13_readingsUntilWithin_54 (by decide) (fun c9 => absurd c9 (by decide)) (fun _ => ?_)
        refine R.iconst (v := 0) dX13_readingsUntilWithin_57 rfl ?_
        refine WP.ret (ov := some (.int _)) dX13_readingsUntilWithin_58 ⟨rfl, _, rfl, by first | rfl | assumption | exact nar_b01 (by assumption)⟩ ?_
        rw [bW (show mI (sI M1 11 0 7 3) 14 0 = w from hw)]
        exact hq _ (h1.th _) ((th7 _ _).trans cdC_S.symm) (F1.tr (Fr_th _ _))
      · simp only [if_neg c7] at hq
        by_cases c8 : 0 < yC (kY S) i 8
        · by_cases cz : fabs (yErr (kY S) i) ≤ z
          · rw [if_pos ⟨c8, cz⟩] at hq
            refine R.aload_n dX13_readingsUntilWithin_5 rfl (by first | rfl | exact rfv_rf _) ?_
            refine R.iload_n dX13_readingsUntilWithin_6 rfl ?_
            refine cl_X13_395 rfl rfl (by first | exact Nat.le_of_ble_eq_true rfl | simp [rf_cat, Value.category]) dX13_readingsUntilWithin_7 ?_
            refine m_noCS hL hR hV.f4 hx ?_
            refine R.if_ne (tgt := 57) dX13_readingsUntilWithin_10 (by decide) (fun c9 => absurd (rfl) c9) (fun _ => ?_)
            refine R.aload_n dX13_readingsUntilWithin_13 rfl (by first | rfl | exact rfv_rf _) ?_
            refine R.iload_n dX13_readingsUntilWithin_14 rfl ?_
            refine R.iconst (v := 0) dX13_readingsUntilWithin_15 rfl ?_
            refine R.bipush (v := 50) dX13_readingsUntilWithin_16 (by decide) ?_
            refine cl_X13_140 rfl rfl (by first | exact Nat.le_of_ble_eq_true rfl | simp [rf_cat, Value.category]) dX13_readingsUntilWithin_18 ?_
            refine m_inR ?_
            rw [if_pos hr]
            refine R.if_ne (tgt := 28) dX13_readingsUntilWithin_21 (by decide) (fun _ => ?_) (fun c9 => absurd c9 (by decide))
            refine R.iconst (v := 0) dX13_readingsUntilWithin_28 rfl ?_
            refine R.iconst (v := 2) dX13_readingsUntilWithin_29 rfl ?_
            refine cl_X13_391 rfl rfl (by first | exact Nat.le_of_ble_eq_true rfl | simp [rf_cat, Value.category]) dX13_readingsUntilWithin_30 ?_
            refine m_fail0 ?_
            refine R.if_ne (tgt := 57) dX13_readingsUntilWithin_33 (by decide) (fun c9 => absurd (rfl) c9) (fun _ => ?_)
            refine R.aload_n dX13_readingsUntilWithin_36 rfl (by first | rfl | exact rfv_rf _) ?_
            refine R.aload_n dX13_readingsUntilWithin_37 rfl (by first | rfl | exact rfv_rf _) ?_
            refine R.iload_n dX13_readingsUntilWithin_38 rfl ?_
            refine cl_X13_136 rfl rfl (by first | exact Nat.le_of_ble_eq_true rfl | simp [rf_cat, Value.category]) dX13_readingsUntilWithin_39 ?_
            refine m_th hL hR hi ?_
            rw [if_neg c7]
            refine R.if_ne (tgt := 49) dX13_readingsUntilWithin_42 (by decide) (fun _ => ?_) (fun c9 => absurd c9 (by decide))
            refine R.iconst (v := 0) dX13_readingsUntilWithin_49 rfl ?_
            refine R.iconst (v := 3) dX13_readingsUntilWithin_50 rfl ?_
            refine cl_X13_391 rfl rfl (by first | exact Nat.le_of_ble_eq_true rfl | simp [rf_cat, Value.category]) dX13_readingsUntilWithin_51 ?_
            refine m_fail0 ?_
            refine R.if_eq (tgt := 59) dX13_readingsUntilWithin_54 (by decide) (fun _ => ?_) (fun c9 => absurd (rfl) c9)
            refine R.aload_n dX13_readingsUntilWithin_59 rfl (by first | rfl | exact rfv_rf _) ?_
            refine R.iload_n dX13_readingsUntilWithin_60 rfl ?_
            refine R.bipush (v := nI 12) dX13_readingsUntilWithin_61 (by decide) ?_
            refine cl_X13_68 rfl rfl (by first | exact Nat.le_of_ble_eq_true rfl | simp [rf_cat, Value.category]) dX13_readingsUntilWithin_63 ?_
            refine m_of hL (by omega) (by omega) ?_
            rw [(hR.d (by omega : i < 16)).1]
            refine R.if_le (tgt := 80) dX13_readingsUntilWithin_66 (by decide) (fun c9 => absurd c9 (i_nle c8)) (fun _ => ?_)
            refine R.aload_n dX13_readingsUntilWithin_69 rfl (by first | rfl | exact rfv_rf _) ?_
            refine R.iload_n dX13_readingsUntilWithin_70 rfl ?_
            refine cl_X13_163 rfl rfl (by first | exact Nat.le_of_ble_eq_true rfl | simp [rf_cat, Value.category]) dX13_readingsUntilWithin_71 ?_
            refine m_off (d := d + 10) hL hR hi hV.l hV.acy (hV.mo (by omega) (by omega)) (fun q => absurd q (i_nle c8)) ?_
            refine R.iload_n dX13_readingsUntilWithin_74 rfl ?_
            refine R.icmp_gt (tgt := 80) dX13_readingsUntilWithin_75 (by decide) (fun c9 => absurd c9 (i_nl2 cz)) (fun _ => ?_)
            refine R.iconst (v := 0) dX13_readingsUntilWithin_78 rfl ?_
            refine WP.ret (ov := some (.int _)) dX13_readingsUntilWithin_79 ⟨rfl, _, rfl, by first | rfl | assumption | exact nar_b01 (by assumption)⟩ ?_
            rw [bW hw]
            exact hq _ (h1.mono (Nat.le_succ T)) z1 F1
          · rw [if_neg (fun q => cz q.2)] at hq
            refine R.aload_n dX13_readingsUntilWithin_5 rfl (by first | rfl | exact rfv_rf _) ?_
            refine R.iload_n dX13_readingsUntilWithin_6 rfl ?_
            refine cl_X13_395 rfl rfl (by first | exact Nat.le_of_ble_eq_true rfl | simp [rf_cat, Value.category]) dX13_readingsUntilWithin_7 ?_
            refine m_noCS hL hR hV.f4 hx ?_
            refine R.if_ne (tgt := 57) dX13_readingsUntilWithin_10 (by decide) (fun c9 => absurd (rfl) c9) (fun _ => ?_)
            refine R.aload_n dX13_readingsUntilWithin_13 rfl (by first | rfl | exact rfv_rf _) ?_
            refine R.iload_n dX13_readingsUntilWithin_14 rfl ?_
            refine R.iconst (v := 0) dX13_readingsUntilWithin_15 rfl ?_
            refine R.bipush (v := 50) dX13_readingsUntilWithin_16 (by decide) ?_
            refine cl_X13_140 rfl rfl (by first | exact Nat.le_of_ble_eq_true rfl | simp [rf_cat, Value.category]) dX13_readingsUntilWithin_18 ?_
            refine m_inR ?_
            rw [if_pos hr]
            refine R.if_ne (tgt := 28) dX13_readingsUntilWithin_21 (by decide) (fun _ => ?_) (fun c9 => absurd c9 (by decide))
            refine R.iconst (v := 0) dX13_readingsUntilWithin_28 rfl ?_
            refine R.iconst (v := 2) dX13_readingsUntilWithin_29 rfl ?_
            refine cl_X13_391 rfl rfl (by first | exact Nat.le_of_ble_eq_true rfl | simp [rf_cat, Value.category]) dX13_readingsUntilWithin_30 ?_
            refine m_fail0 ?_
            refine R.if_ne (tgt := 57) dX13_readingsUntilWithin_33 (by decide) (fun c9 => absurd (rfl) c9) (fun _ => ?_)
            refine R.aload_n dX13_readingsUntilWithin_36 rfl (by first | rfl | exact rfv_rf _) ?_
            refine R.aload_n dX13_readingsUntilWithin_37 rfl (by first | rfl | exact rfv_rf _) ?_
            refine R.iload_n dX13_readingsUntilWithin_38 rfl ?_
            refine cl_X13_136 rfl rfl (by first | exact Nat.le_of_ble_eq_true rfl | simp [rf_cat, Value.category]) dX13_readingsUntilWithin_39 ?_
            refine m_th hL hR hi ?_
            rw [if_neg c7]
            refine R.if_ne (tgt := 49) dX13_readingsUntilWithin_42 (by decide) (fun _ => ?_) (fun c9 => absurd c9 (by decide))
            refine R.iconst (v := 0) dX13_readingsUntilWithin_49 rfl ?_
            refine R.iconst (v := 3) dX13_readingsUntilWithin_50 rfl ?_
            refine cl_X13_391 rfl rfl (by first | exact Nat.le_of_ble_eq_true rfl | simp [rf_cat, Value.category]) dX13_readingsUntilWithin_51 ?_
            refine m_fail0 ?_
            refine R.if_eq (tgt := 59) dX13_readingsUntilWithin_54 (by decide) (fun _ => ?_) (fun c9 => absurd (rfl) c9)
            refine R.aload_n dX13_readingsUntilWithin_59 rfl (by first | rfl | exact rfv_rf _) ?_
            refine R.iload_n dX13_readingsUntilWithin_60 rfl ?_
            refine R.bipush (v := nI 12) dX13_readingsUntilWithin_61 (by decide) ?_
            refine cl_X13_68 rfl rfl (by first | exact Nat.le_of_ble_eq_true rfl | simp [rf_cat, Value.category]) dX13_readingsUntilWithin_63 ?_
            refine m_of hL (by omega) (by omega) ?_
            rw [(hR.d (by omega : i < 16)).1]
            refine R.if_le (tgt := 80) dX13_readingsUntilWithin_66 (by decide) (fun c9 => absurd c9 (i_nle c8)) (fun _ => ?_)
            refine R.aload_n dX13_readingsUntilWithin_69 rfl (by first | rfl | exact rfv_rf _) ?_
            refine R.iload_n dX13_readingsUntilWithin_70 rfl ?_
            refine cl_X13_163 rfl rfl (by first | exact Nat.le_of_ble_eq_true rfl | simp [rf_cat, Value.category]) dX13_readingsUntilWithin_71 ?_
            refine m_off (d := d + 10) hL hR hi hV.l hV.acy (hV.mo (by omega) (by omega)) (fun q => absurd q (i_nle c8)) ?_
            refine R.iload_n dX13_readingsUntilWithin_74 rfl ?_
            refine R.icmp_gt (tgt := 80) dX13_readingsUntilWithin_75 (by decide) (fun _ => ?_) (fun c9 => absurd (i_lt cz) c9)
            refine R.aload_n dX13_readingsUntilWithin_80 rfl (by first | rfl | exact rfv_rf _) ?_
            refine cl_X13_410 rfl rfl (by first | exact Nat.le_of_ble_eq_true rfl | simp [rf_cat, Value.category]) dX13_readingsUntilWithin_81 ?_
            refine m_aside hL (fun g hg => ?_)
            have hL2 : ML (sA M1 2 g) := hL.fr rfl rfl
            refine R.iconst (v := nI 1) dX13_readingsUntilWithin_84 rfl ?_
            refine R.istore_n dX13_readingsUntilWithin_85 (Nat.le_of_ble_eq_true rfl) (by decide) (by first | rfl | simp [lft, rf_cat]) rfl ?_
            have key : ∀ (f k : Nat) (w3 : Nat → Int32) (v5 : Value), k + f = 100 → RW (tkN i k (kY S)) m b T w3 → QMr Q M S T cdC (.inr (ruF (kY S) i z f k, S, p)) → WP mX13_readingsUntilWithin (d + 20) 86 [.ref (rf 11 0), .int (nI i), .int z, .int (nI (k + 1)), v5] [] (sW (sA M1 2 g) w3) Q := by
              intro f
              induction f with
              | zero =>
                intro k w3 v5 hk hR3 hq2
                have ek : k = 100 := by omega
                subst ek
                refine R.iload_n dX13_readingsUntilWithin_86 rfl ?_
                refine R.bipush (v := nI 100) dX13_readingsUntilWithin_87 (by decide) ?_
                refine R.icmp_gt (tgt := 120) dX13_readingsUntilWithin_89 (by decide) (fun _ => ?_) (fun c9 => absurd (nI_lt (show 100 < 101 by omega) (by omega)) c9)
                refine R.aload_n dX13_readingsUntilWithin_120 rfl (by first | rfl | exact rfv_rf _) ?_
                refine R.iconst (v := (-1)) dX13_readingsUntilWithin_121 rfl ?_
                refine cl_X13_413 rfl rfl (by first | exact Nat.le_of_ble_eq_true rfl | simp [rf_cat, Value.category]) dX13_readingsUntilWithin_122 ?_
                refine m_back hL (fun w9 hw9 => ?_)
                refine WP.ret (ov := some (.int _)) dX13_readingsUntilWithin_125 ⟨rfl, _, rfl, by first | rfl | assumption | exact nar_b01 (by assumption)⟩ ?_
                exact hq2 _ ((h1.bk (fun x hx => (hw9 x hx).trans ((hg x hx).trans (congrFun hw.symm x)))).mono (Nat.le_succ T)) ((th_bk _ _ _).trans z1) (F1.tr (Fr_bk _ _ _))
              | succ f ih =>
                intro k w3 v5 hf hR3 hq2
                rw [ruF] at hq2
                by_cases ce : fabs (yErr (tkN i (k + 1) (kY S)) i) ≤ z
                · rw [if_pos ce] at hq2
                  refine R.iload_n dX13_readingsUntilWithin_86 rfl ?_
                  refine R.bipush (v := nI 100) dX13_readingsUntilWithin_87 (by decide) ?_
                  refine R.icmp_gt (tgt := 120) dX13_readingsUntilWithin_89 (by decide) (fun c9 => absurd c9 (nI_nlt (show k + 1 ≤ 100 by omega) (by omega))) (fun _ => ?_)
                  refine R.aload_n dX13_readingsUntilWithin_92 rfl (by first | rfl | exact rfv_rf _) ?_
                  refine R.iload_n dX13_readingsUntilWithin_93 rfl ?_
                  refine cl_X13_117 rfl rfl (by first | exact Nat.le_of_ble_eq_true rfl | simp [rf_cat, Value.category]) dX13_readingsUntilWithin_94 ?_
                  refine m_weighs (d := d + 10) hL2 hR3 (by omega) ((PV.tkn k (kY S) T hV (by omega) hi).wg (by omega) (by omega)) (fun w4 hR4 => ?_)
                  rw [← tkN_s] at hR4
                  refine R.istore dX13_readingsUntilWithin_97 (Nat.le_of_ble_eq_true rfl) (by decide) (by first | rfl | simp [lft, rf_cat]) rfl ?_
                  refine R.aload_n dX13_readingsUntilWithin_99 rfl (by first | rfl | exact rfv_rf _) ?_
                  refine R.iload_n dX13_readingsUntilWithin_100 rfl ?_
                  refine cl_X13_163 rfl rfl (by first | exact Nat.le_of_ble_eq_true rfl | simp [rf_cat, Value.category]) dX13_readingsUntilWithin_101 ?_
                  refine m_off (d := d + 10) hL2 hR4 hi (PV.tkn (k + 1) (kY S) T hV (by omega) hi).l (PV.tkn (k + 1) (kY S) T hV (by omega) hi).acy ((PV.tkn (k + 1) (kY S) T hV (by omega) hi).mo (by omega) (by omega)) (PV.p8t hV (by omega) (by omega) (by omega)) ?_
                  refine R.iload_n dX13_readingsUntilWithin_104 rfl ?_
                  refine R.icmp_gt (tgt := 114) dX13_readingsUntilWithin_105 (by decide) (fun c9 => absurd c9 (i_nl2 ce)) (fun _ => ?_)
                  refine R.aload_n dX13_readingsUntilWithin_108 rfl (by first | rfl | exact rfv_rf _) ?_
                  refine R.iload_n dX13_readingsUntilWithin_109 rfl ?_
                  refine cl_X13_413 rfl rfl (by first | exact Nat.le_of_ble_eq_true rfl | simp [rf_cat, Value.category]) dX13_readingsUntilWithin_110 ?_
                  refine m_back hL (fun w9 hw9 => ?_)
                  refine WP.ret (ov := some (.int _)) dX13_readingsUntilWithin_113 ⟨rfl, _, rfl, by first | rfl | assumption | exact nar_b01 (by assumption)⟩ ?_
                  exact hq2 _ ((h1.bk (fun x hx => (hw9 x hx).trans ((hg x hx).trans (congrFun hw.symm x)))).mono (Nat.le_succ T)) ((th_bk _ _ _).trans z1) (F1.tr (Fr_bk _ _ _))
                · rw [if_neg ce] at hq2
                  refine R.iload_n dX13_readingsUntilWithin_86 rfl ?_
                  refine R.bipush (v := nI 100) dX13_readingsUntilWithin_87 (by decide) ?_
                  refine R.icmp_gt (tgt := 120) dX13_readingsUntilWithin_89 (by decide) (fun c9 => absurd c9 (nI_nlt (show k + 1 ≤ 100 by omega) (by omega))) (fun _ => ?_)
                  refine R.aload_n dX13_readingsUntilWithin_92 rfl (by first | rfl | exact rfv_rf _) ?_
                  refine R.iload_n dX13_readingsUntilWithin_93 rfl ?_
                  refine cl_X13_117 rfl rfl (by first | exact Nat.le_of_ble_eq_true rfl | simp [rf_cat, Value.category]) dX13_readingsUntilWithin_94 ?_
                  refine m_weighs (d := d + 10) hL2 hR3 (by omega) ((PV.tkn k (kY S) T hV (by omega) hi).wg (by omega) (by omega)) (fun w4 hR4 => ?_)
                  rw [← tkN_s] at hR4
                  refine R.istore dX13_readingsUntilWithin_97 (Nat.le_of_ble_eq_true rfl) (by decide) (by first | rfl | simp [lft, rf_cat]) rfl ?_
                  refine R.aload_n dX13_readingsUntilWithin_99 rfl (by first | rfl | exact rfv_rf _) ?_
                  refine R.iload_n dX13_readingsUntilWithin_100 rfl ?_
                  refine cl_X13_163 rfl rfl (by first | exact Nat.le_of_ble_eq_true rfl | simp [rf_cat, Value.category]) dX13_readingsUntilWithin_101 ?_
                  refine m_off (d := d + 10) hL2 hR4 hi (PV.tkn (k + 1) (kY S) T hV (by omega) hi).l (PV.tkn (k + 1) (kY S) T hV (by omega) hi).acy ((PV.tkn (k + 1) (kY S) T hV (by omega) hi).mo (by omega) (by omega)) (PV.p8t hV (by omega) (by omega) (by omega)) ?_
                  refine R.iload_n dX13_readingsUntilWithin_104 rfl ?_
                  refine R.icmp_gt (tgt := 114) dX13_readingsUntilWithin_105 (by decide) (fun _ => ?_) (fun c9 => absurd (i_lt ce) c9)
                  refine R.iinc dX13_readingsUntilWithin_114 (Nat.le_of_ble_eq_true rfl) (by decide) (by first | rfl | simp [lft, rf_cat]) rfl (inc_nI _) rfl ?_
                  refine R.goto (tgt := 86) dX13_readingsUntilWithin_117 (by decide) ?_
                  exact ih (k + 1) w4 _ (by omega) hR4 hq2
            exact key 100 0 w _ (by omega) hR hq
        · rw [if_neg (fun q => c8 q.1)] at hq
          refine R.aload_n dX13_readingsUntilWithin_5 rfl (by first | rfl | exact rfv_rf _) ?_
          refine R.iload_n dX13_readingsUntilWithin_6 rfl ?_
          refine cl_X13_395 rfl rfl (by first | exact Nat.le_of_ble_eq_true rfl | simp [rf_cat, Value.category]) dX13_readingsUntilWithin_7 ?_
          refine m_noCS hL hR hV.f4 hx ?_
          refine R.if_ne (tgt := 57) dX13_readingsUntilWithin_10 (by decide) (fun c9 => absurd (rfl) c9) (fun _ => ?_)
          refine R.aload_n dX13_readingsUntilWithin_13 rfl (by first | rfl | exact rfv_rf _) ?_
          refine R.iload_n dX13_readingsUntilWithin_14 rfl ?_
          refine R.iconst (v := 0) dX13_readingsUntilWithin_15 rfl ?_
          refine R.bipush (v := 50) dX13_readingsUntilWithin_16 (by decide) ?_
          refine cl_X13_140 rfl rfl (by first | exact Nat.le_of_ble_eq_true rfl | simp [rf_cat, Value.category]) dX13_readingsUntilWithin_18 ?_
          refine m_inR ?_
          rw [if_pos hr]
          refine R.if_ne (tgt := 28) dX13_readingsUntilWithin_21 (by decide) (fun _ => ?_) (fun c9 => absurd c9 (by decide))
          refine R.iconst (v := 0) dX13_readingsUntilWithin_28 rfl ?_
          refine R.iconst (v := 2) dX13_readingsUntilWithin_29 rfl ?_
          refine cl_X13_391 rfl rfl (by first | exact Nat.le_of_ble_eq_true rfl | simp [rf_cat, Value.category]) dX13_readingsUntilWithin_30 ?_
          refine m_fail0 ?_
          refine R.if_ne (tgt := 57) dX13_readingsUntilWithin_33 (by decide) (fun c9 => absurd (rfl) c9) (fun _ => ?_)
          refine R.aload_n dX13_readingsUntilWithin_36 rfl (by first | rfl | exact rfv_rf _) ?_
          refine R.aload_n dX13_readingsUntilWithin_37 rfl (by first | rfl | exact rfv_rf _) ?_
          refine R.iload_n dX13_readingsUntilWithin_38 rfl ?_
          refine cl_X13_136 rfl rfl (by first | exact Nat.le_of_ble_eq_true rfl | simp [rf_cat, Value.category]) dX13_readingsUntilWithin_39 ?_
          refine m_th hL hR hi ?_
          rw [if_neg c7]
          refine R.if_ne (tgt := 49) dX13_readingsUntilWithin_42 (by decide) (fun _ => ?_) (fun c9 => absurd c9 (by decide))
          refine R.iconst (v := 0) dX13_readingsUntilWithin_49 rfl ?_
          refine R.iconst (v := 3) dX13_readingsUntilWithin_50 rfl ?_
          refine cl_X13_391 rfl rfl (by first | exact Nat.le_of_ble_eq_true rfl | simp [rf_cat, Value.category]) dX13_readingsUntilWithin_51 ?_
          refine m_fail0 ?_
          refine R.if_eq (tgt := 59) dX13_readingsUntilWithin_54 (by decide) (fun _ => ?_) (fun c9 => absurd (rfl) c9)
          refine R.aload_n dX13_readingsUntilWithin_59 rfl (by first | rfl | exact rfv_rf _) ?_
          refine R.iload_n dX13_readingsUntilWithin_60 rfl ?_
          refine R.bipush (v := nI 12) dX13_readingsUntilWithin_61 (by decide) ?_
          refine cl_X13_68 rfl rfl (by first | exact Nat.le_of_ble_eq_true rfl | simp [rf_cat, Value.category]) dX13_readingsUntilWithin_63 ?_
          refine m_of hL (by omega) (by omega) ?_
          rw [(hR.d (by omega : i < 16)).1]
          refine R.if_le (tgt := 80) dX13_readingsUntilWithin_66 (by decide) (fun _ => ?_) (fun c9 => absurd (i_nlt c8) c9)
          refine R.aload_n dX13_readingsUntilWithin_80 rfl (by first | rfl | exact rfv_rf _) ?_
          refine cl_X13_410 rfl rfl (by first | exact Nat.le_of_ble_eq_true rfl | simp [rf_cat, Value.category]) dX13_readingsUntilWithin_81 ?_
          refine m_aside hL (fun g hg => ?_)
          have hL2 : ML (sA M1 2 g) := hL.fr rfl rfl
          refine R.iconst (v := nI 1) dX13_readingsUntilWithin_84 rfl ?_
          refine R.istore_n dX13_readingsUntilWithin_85 (Nat.le_of_ble_eq_true rfl) (by decide) (by first | rfl | simp [lft, rf_cat]) rfl ?_
          have key : ∀ (f k : Nat) (w3 : Nat → Int32) (v5 : Value), k + f = 100 → RW (tkN i k (kY S)) m b T w3 → QMr Q M S T cdC (.inr (ruF (kY S) i z f k, S, p)) → WP mX13_readingsUntilWithin (d + 20) 86 [.ref (rf 11 0), .int (nI i), .int z, .int (nI (k + 1)), v5] [] (sW (sA M1 2 g) w3) Q := by
            intro f
            induction f with
            | zero =>
              intro k w3 v5 hk hR3 hq2
              have ek : k = 100 := by omega
              subst ek
              refine R.iload_n dX13_readingsUntilWithin_86 rfl ?_
              refine R.bipush (v := nI 100) dX13_readingsUntilWithin_87 (by decide) ?_
              refine R.icmp_gt (tgt := 120) dX13_readingsUntilWithin_89 (by decide) (fun _ => ?_) (fun c9 => absurd (nI_lt (show 100 < 101 by omega) (by omega)) c9)
              refine R.aload_n dX13_readingsUntilWithin_120 rfl (by first | rfl | exact rfv_rf _) ?_
              refine R.iconst (v := (-1)) dX13_readingsUntilWithin_121 rfl ?_
              refine cl_X13_413 rfl rfl (by first | exact Nat.le_of_ble_eq_true rfl | simp [rf_cat, Value.category]) dX13_readingsUntilWithin_122 ?_
              refine m_back hL (fun w9 hw9 => ?_)
              refine WP.ret (ov := some (.int _)) dX13_readingsUntilWithin_125 ⟨rfl, _, rfl, by first | rfl | assumption | exact nar_b01 (by assumption)⟩ ?_
              exact hq2 _ ((h1.bk (fun x hx => (hw9 x hx).trans ((hg x hx).trans (congrFun hw.symm x)))).mono (Nat.le_succ T)) ((th_bk _ _ _).trans z1) (F1.tr (Fr_bk _ _ _))
            | succ f ih =>
              intro k w3 v5 hf hR3 hq2
              rw [ruF] at hq2
              by_cases ce : fabs (yErr (tkN i (k + 1) (kY S)) i) ≤ z
              · rw [if_pos ce] at hq2
                refine R.iload_n dX13_readingsUntilWithin_86 rfl ?_
                refine R.bipush (v := nI 100) dX13_readingsUntilWithin_87 (by decide) ?_
                refine R.icmp_gt (tgt := 120) dX13_readingsUntilWithin_89 (by decide) (fun c9 => absurd c9 (nI_nlt (show k + 1 ≤ 100 by omega) (by omega))) (fun _ => ?_)
                refine R.aload_n dX13_readingsUntilWithin_92 rfl (by first | rfl | exact rfv_rf _) ?_
                refine R.iload_n dX13_readingsUntilWithin_93 rfl ?_
                refine cl_X13_117 rfl rfl (by first | exact Nat.le_of_ble_eq_true rfl | simp [rf_cat, Value.category]) dX13_readingsUntilWithin_94 ?_
                refine m_weighs (d := d + 10) hL2 hR3 (by omega) ((PV.tkn k (kY S) T hV (by omega) hi).wg (by omega) (by omega)) (fun w4 hR4 => ?_)
                rw [← tkN_s] at hR4
                refine R.istore dX13_readingsUntilWithin_97 (Nat.le_of_ble_eq_true rfl) (by decide) (by first | rfl | simp [lft, rf_cat]) rfl ?_
                refine R.aload_n dX13_readingsUntilWithin_99 rfl (by first | rfl | exact rfv_rf _) ?_
                refine R.iload_n dX13_readingsUntilWithin_100 rfl ?_
                refine cl_X13_163 rfl rfl (by first | exact Nat.le_of_ble_eq_true rfl | simp [rf_cat, Value.category]) dX13_readingsUntilWithin_101 ?_
                refine m_off (d := d + 10) hL2 hR4 hi (PV.tkn (k + 1) (kY S) T hV (by omega) hi).l (PV.tkn (k + 1) (kY S) T hV (by omega) hi).acy ((PV.tkn (k + 1) (kY S) T hV (by omega) hi).mo (by omega) (by omega)) (PV.p8t hV (by omega) (by omega) (by omega)) ?_
                refine R.iload_n dX13_readingsUntilWithin_104 rfl ?_
                refine R.icmp_gt (tgt := 114) dX13_readingsUntilWithin_105 (by decide) (fun c9 => absurd c9 (i_nl2 ce)) (fun _ => ?_)
                refine R.aload_n dX13_readingsUntilWithin_108 rfl (by first | rfl | exact rfv_rf _) ?_
                refine R.iload_n dX13_readingsUntilWithin_109 rfl ?_
                refine cl_X13_413 rfl rfl (by first | exact Nat.le_of_ble_eq_true rfl | simp [rf_cat, Value.category]) dX13_readingsUntilWithin_110 ?_
                refine m_back hL (fun w9 hw9 => ?_)
                refine WP.ret (ov := some (.int _)) dX13_readingsUntilWithin_113 ⟨rfl, _, rfl, by first | rfl | assumption | exact nar_b01 (by assumption)⟩ ?_
                exact hq2 _ ((h1.bk (fun x hx => (hw9 x hx).trans ((hg x hx).trans (congrFun hw.symm x)))).mono (Nat.le_succ T)) ((th_bk _ _ _).trans z1) (F1.tr (Fr_bk _ _ _))
              · rw [if_neg ce] at hq2
                refine R.iload_n dX13_readingsUntilWithin_86 rfl ?_
                refine R.bipush (v := nI 100) dX13_readingsUntilWithin_87 (by decide) ?_
                refine R.icmp_gt (tgt := 120) dX13_readingsUntilWithin_89 (by decide) (fun c9 => absurd c9 (nI_nlt (show k + 1 ≤ 100 by omega) (by omega))) (fun _ => ?_)
                refine R.aload_n dX13_readingsUntilWithin_92 rfl (by first | rfl | exact rfv_rf _) ?_
                refine R.iload_n dX13_readingsUntilWithin_93 rfl ?_
                refine cl_X13_117 rfl rfl (by first | exact Nat.le_of_ble_eq_true rfl | simp [rf_cat, Value.category]) dX13_readingsUntilWithin_94 ?_
                refine m_weighs (d := d + 10) hL2 hR3 (by omega) ((PV.tkn k (kY S) T hV (by omega) hi).wg (by omega) (by omega)) (fun w4 hR4 => ?_)
                rw [← tkN_s] at hR4
                refine R.istore dX13_readingsUntilWithin_97 (Nat.le_of_ble_eq_true rfl) (by decide) (by first | rfl | simp [lft, rf_cat]) rfl ?_
                refine R.aload_n dX13_readingsUntilWithin_99 rfl (by first | rfl | exact rfv_rf _) ?_
                refine R.iload_n dX13_readingsUntilWithin_100 rfl ?_
                refine cl_X13_163 rfl rfl (by first | exact Nat.le_of_ble_eq_true rfl | simp [rf_cat, Value.category]) dX13_readingsUntilWithin_101 ?_
                refine m_off (d := d + 10) hL2 hR4 hi (PV.tkn (k + 1) (kY S) T hV (by omega) hi).l (PV.tkn (k + 1) (kY S) T hV (by omega) hi).acy ((PV.tkn (k + 1) (kY S) T hV (by omega) hi).mo (by omega) (by omega)) (PV.p8t hV (by omega) (by omega) (by omega)) ?_
                refine R.iload_n dX13_readingsUntilWithin_104 rfl ?_
                refine R.icmp_gt (tgt := 114) dX13_readingsUntilWithin_105 (by decide) (fun _ => ?_) (fun c9 => absurd (i_lt ce) c9)
                refine R.iinc dX13_readingsUntilWithin_114 (Nat.le_of_ble_eq_true rfl) (by decide) (by first | rfl | simp [lft, rf_cat]) rfl (inc_nI _) rfl ?_
                refine R.goto (tgt := 86) dX13_readingsUntilWithin_117 (by decide) ?_
                exact ih (k + 1) w4 _ (by omega) hR4 hq2
          exact key 100 0 w _ (by omega) hR hq
    · simp only [if_neg hr] at hq
      refine R.aload_n dX13_readingsUntilWithin_5 rfl (by first | rfl | exact rfv_rf _) ?_
      refine R.iload_n dX13_readingsUntilWithin_6 rfl ?_
      refine cl_X13_395 rfl rfl (by first | exact Nat.le_of_ble_eq_true rfl | simp [rf_cat, Value.category]) dX13_readingsUntilWithin_7 ?_
      refine m_noCS hL hR hV.f4 hx ?_
      refine R.if_ne (tgt := 57) dX13_readingsUntilWithin_10 (by decide) (fun c9 => absurd (rfl) c9) (fun _ => ?_)
      refine R.aload_n dX13_readingsUntilWithin_13 rfl (by first | rfl | exact rfv_rf _) ?_
      refine R.iload_n dX13_readingsUntilWithin_14 rfl ?_
      refine R.iconst (v := 0) dX13_readingsUntilWithin_15 rfl ?_
      refine R.bipush (v := 50) dX13_readingsUntilWithin_16 (by decide) ?_
      refine cl_X13_140 rfl rfl (by first | exact Nat.le_of_ble_eq_true rfl | simp [rf_cat, Value.category]) dX13_readingsUntilWithin_18 ?_
      refine m_inR ?_
      rw [if_neg hr]
      refine R.if_ne (tgt := 28) dX13_readingsUntilWithin_21 (by decide) (fun c9 => absurd (rfl) c9) (fun _ => ?_)
      refine R.iconst (v := 1) dX13_readingsUntilWithin_24 rfl ?_
      refine R.goto (tgt := 29) dX13_readingsUntilWithin_25 (by decide) ?_
      refine R.iconst (v := 2) dX13_readingsUntilWithin_29 rfl ?_
      refine cl_X13_391 rfl rfl (by first | exact Nat.le_of_ble_eq_true rfl | simp [rf_cat, Value.category]) dX13_readingsUntilWithin_30 ?_
      refine m_fail1 ?_
      rw [sI_sWf M1 w 0 7 2 (by decide)]
      refine R.if_ne (tgt := 57) dX13_readingsUntilWithin_33 (by decide) (fun _ => ?_) (fun c9 => absurd c9 (by decide))
      refine R.iconst (v := 0) dX13_readingsUntilWithin_57 rfl ?_
      refine WP.ret (ov := some (.int _)) dX13_readingsUntilWithin_58 ⟨rfl, _, rfl, by first | rfl | assumption | exact nar_b01 (by assumption)⟩ ?_
      rw [bW (show mI (sI M1 11 0 7 2) 14 0 = w from hw)]
      exact hq _ (h1.th _) ((th7 _ _).trans cdC_A.symm) (F1.tr (Fr_th _ _))
