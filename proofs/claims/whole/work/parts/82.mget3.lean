/-! the model's further getters -/
theorem th7 (M : Mem) (c : Int32) : mI (sI M 11 0 7 c) 11 0 7 = c := by rw [mI_sI, if_pos ⟨rfl, rfl, rfl⟩]
set_option maxHeartbeats 2000000 in
set_option maxRecDepth 4000 in
theorem n_isInYard {d T : Nat} {S : KS} {M : Mem} {Q : Out → Mem → Prop} {x : Int32} (h : MSt M S T) (hT : T ≤ 57000) (hq : QMa Q M S T cdA (aC S x fun i => .inl (yC (kY S) i 7))) : WPc (d + 20) mX13_isInYard [.ref (rf 11 0), .int x] M Q := by
  refine WPc.of (by decide +kernel) (Nat.le_of_ble_eq_true rfl) rfl ?_
  refine R.aload_n dX13_isInYard_0 rfl (by first | rfl | exact rfv_rf _) ?_
  refine R.iconst (v := 0) dX13_isInYard_1 rfl ?_
  refine R.putI dX13_isInYard_2 fl_X13_65 (fun q hq => by cases hq; exact Or.inl rfl) (by decide) rfl rfl rfl ?_
  have h1 := h.th 0
  have F1 := Fr_th M 0
  have z1 : mI (sI M 11 0 7 0) 11 0 7 = 0 := th7 M 0
  generalize sI M 11 0 7 0 = M1 at h1 F1 z1 ⊢
  obtain ⟨m, b, hR, hV⟩ := h1.y
  have hL := h1.l
  have hm16 := hV.m16
  have hb6 := hV.b6
  rw [← bW (M := M1) rfl]
  generalize hw : mI M1 14 0 = w at hR ⊢
  cases hx : kC (kY S) x with
  | none =>
    rw [aC_n hx] at hq
    refine R.aload_n dX13_isInYard_5 rfl (by first | rfl | exact rfv_rf _) ?_
    refine R.iload_n dX13_isInYard_6 rfl ?_
    refine cl_X13_395 rfl rfl (by first | exact Nat.le_of_ble_eq_true rfl | simp [rf_cat, Value.category]) dX13_isInYard_7 ?_
    refine m_noCN hL hR hV.f4 hx ?_
    refine R.if_ne (tgt := 25) dX13_isInYard_10 (by decide) (fun _ => ?_) (fun c9 => absurd c9 (by decide))
    refine R.iconst (v := 0) dX13_isInYard_25 rfl ?_
    refine WP.ret (ov := some (.int _)) dX13_isInYard_26 ⟨rfl, _, rfl, by first | rfl | assumption | exact nar_b01 (by assumption)⟩ ?_
    rw [bW (show mI (sI M1 11 0 7 1) 14 0 = w from hw)]
    exact hq _ (h1.th _) ((th7 _ _).trans rfl) (F1.tr (Fr_th _ _))
  | some i =>
    rw [aC_s hx] at hq
    obtain ⟨ex, hi⟩ := kC_m hx hm16 hV.f4
    subst ex
    rcases hV.a.1 i (by omega) with c7 | c7
    · rw [c7] at hq
      refine R.aload_n dX13_isInYard_5 rfl (by first | rfl | exact rfv_rf _) ?_
      refine R.iload_n dX13_isInYard_6 rfl ?_
      refine cl_X13_395 rfl rfl (by first | exact Nat.le_of_ble_eq_true rfl | simp [rf_cat, Value.category]) dX13_isInYard_7 ?_
      refine m_noCS hL hR hV.f4 hx ?_
      refine R.if_ne (tgt := 25) dX13_isInYard_10 (by decide) (fun c9 => absurd (rfl) c9) (fun _ => ?_)
      refine R.aload_n dX13_isInYard_13 rfl (by first | rfl | exact rfv_rf _) ?_
      refine R.iload_n dX13_isInYard_14 rfl ?_
      refine cl_X13_136 rfl rfl (by first | exact Nat.le_of_ble_eq_true rfl | simp [rf_cat, Value.category]) dX13_isInYard_15 ?_
      refine m_th hL hR hi ?_
      rw [if_pos c7]
      refine R.if_eq (tgt := 25) dX13_isInYard_18 (by decide) (fun _ => ?_) (fun c9 => absurd (rfl) c9)
      refine R.iconst (v := 0) dX13_isInYard_25 rfl ?_
      refine WP.ret (ov := some (.int _)) dX13_isInYard_26 ⟨rfl, _, rfl, by first | rfl | assumption | exact nar_b01 (by assumption)⟩ ?_
      rw [bW hw]
      exact hq _ h1 z1 F1
    · rw [c7] at hq
      refine R.aload_n dX13_isInYard_5 rfl (by first | rfl | exact rfv_rf _) ?_
      refine R.iload_n dX13_isInYard_6 rfl ?_
      refine cl_X13_395 rfl rfl (by first | exact Nat.le_of_ble_eq_true rfl | simp [rf_cat, Value.category]) dX13_isInYard_7 ?_
      refine m_noCS hL hR hV.f4 hx ?_
      refine R.if_ne (tgt := 25) dX13_isInYard_10 (by decide) (fun c9 => absurd (rfl) c9) (fun _ => ?_)
      refine R.aload_n dX13_isInYard_13 rfl (by first | rfl | exact rfv_rf _) ?_
      refine R.iload_n dX13_isInYard_14 rfl ?_
      refine cl_X13_136 rfl rfl (by first | exact Nat.le_of_ble_eq_true rfl | simp [rf_cat, Value.category]) dX13_isInYard_15 ?_
      refine m_th hL hR hi ?_
      rw [c7, if_neg (by decide : ¬ (1 : Int32) = 0)]
      refine R.if_eq (tgt := 25) dX13_isInYard_18 (by decide) (fun c9 => absurd c9 (by decide)) (fun _ => ?_)
      refine R.iconst (v := 1) dX13_isInYard_21 rfl ?_
      refine R.goto (tgt := 26) dX13_isInYard_22 (by decide) ?_
      refine WP.ret (ov := some (.int _)) dX13_isInYard_26 ⟨rfl, _, rfl, by first | rfl | assumption | exact nar_b01 (by assumption)⟩ ?_
      rw [bW hw]
      exact hq _ h1 z1 F1
set_option maxHeartbeats 2000000 in
set_option maxRecDepth 4000 in
theorem n_lastReading {d T : Nat} {S : KS} {M : Mem} {Q : Out → Mem → Prop} {x : Int32} (h : MSt M S T) (hT : T ≤ 57000) (hq : QMa Q M S T cdB (aC S x fun i => if yC (kY S) i 8 = 0 then .inr eN else .inl (yC (kY S) i 11))) : WPc (d + 20) mX13_lastReading [.ref (rf 11 0), .int x] M Q := by
  refine WPc.of (by decide +kernel) (Nat.le_of_ble_eq_true rfl) rfl ?_
  refine R.aload_n dX13_lastReading_0 rfl (by first | rfl | exact rfv_rf _) ?_
  refine R.iconst (v := 0) dX13_lastReading_1 rfl ?_
  refine R.putI dX13_lastReading_2 fl_X13_65 (fun q hq => by cases hq; exact Or.inl rfl) (by decide) rfl rfl rfl ?_
  have h1 := h.th 0
  have F1 := Fr_th M 0
  have z1 : mI (sI M 11 0 7 0) 11 0 7 = 0 := th7 M 0
  generalize sI M 11 0 7 0 = M1 at h1 F1 z1 ⊢
  obtain ⟨m, b, hR, hV⟩ := h1.y
  have hL := h1.l
  have hm16 := hV.m16
  have hb6 := hV.b6
  rw [← bW (M := M1) rfl]
  generalize hw : mI M1 14 0 = w at hR ⊢
  cases hx : kC (kY S) x with
  | none =>
    rw [aC_n hx] at hq
    refine R.aload_n dX13_lastReading_5 rfl (by first | rfl | exact rfv_rf _) ?_
    refine R.iload_n dX13_lastReading_6 rfl ?_
    refine cl_X13_407 rfl rfl (by first | exact Nat.le_of_ble_eq_true rfl | simp [rf_cat, Value.category]) dX13_lastReading_7 ?_
    refine m_hasN (d := d + 17) hL hR hV.f4 hx ?_
    refine R.if_eq (tgt := 17) dX13_lastReading_10 (by decide) (fun c9 => absurd c9 (by decide)) (fun _ => ?_)
    refine R.iconst (v := 0) dX13_lastReading_13 rfl ?_
    refine R.goto (tgt := 24) dX13_lastReading_14 (by decide) ?_
    refine WP.ret (ov := some (.int _)) dX13_lastReading_24 ⟨rfl, _, rfl, by first | rfl | assumption | exact nar_b01 (by assumption)⟩ ?_
    rw [bW (show mI (sI M1 11 0 7 1) 14 0 = w from hw)]
    exact hq _ (h1.th _) ((th7 _ _).trans cdB_I.symm) (F1.tr (Fr_th _ _))
  | some i =>
    rw [aC_s hx] at hq
    obtain ⟨ex, hi⟩ := kC_m hx hm16 hV.f4
    subst ex
    by_cases z8 : yC (kY S) i 8 = 0
    · simp only [if_pos z8] at hq
      refine R.aload_n dX13_lastReading_5 rfl (by first | rfl | exact rfv_rf _) ?_
      refine R.iload_n dX13_lastReading_6 rfl ?_
      refine cl_X13_407 rfl rfl (by first | exact Nat.le_of_ble_eq_true rfl | simp [rf_cat, Value.category]) dX13_lastReading_7 ?_
      refine m_hasZ (d := d + 17) hL hR hV.f4 hx z8 ?_
      refine R.if_eq (tgt := 17) dX13_lastReading_10 (by decide) (fun c9 => absurd c9 (by decide)) (fun _ => ?_)
      refine R.iconst (v := 0) dX13_lastReading_13 rfl ?_
      refine R.goto (tgt := 24) dX13_lastReading_14 (by decide) ?_
      refine WP.ret (ov := some (.int _)) dX13_lastReading_24 ⟨rfl, _, rfl, by first | rfl | assumption | exact nar_b01 (by assumption)⟩ ?_
      rw [bW (show mI (sI M1 11 0 7 2) 14 0 = w from hw)]
      exact hq _ (h1.th _) ((th7 _ _).trans cdB_N.symm) (F1.tr (Fr_th _ _))
    · simp only [if_neg z8] at hq
      refine R.aload_n dX13_lastReading_5 rfl (by first | rfl | exact rfv_rf _) ?_
      refine R.iload_n dX13_lastReading_6 rfl ?_
      refine cl_X13_407 rfl rfl (by first | exact Nat.le_of_ble_eq_true rfl | simp [rf_cat, Value.category]) dX13_lastReading_7 ?_
      refine m_hasS (d := d + 17) hL hR hV.f4 hx z8 ?_
      refine R.if_eq (tgt := 17) dX13_lastReading_10 (by decide) (fun _ => ?_) (fun c9 => absurd (rfl) c9)
      refine R.aload_n dX13_lastReading_17 rfl (by first | rfl | exact rfv_rf _) ?_
      refine R.iload_n dX13_lastReading_18 rfl ?_
      refine R.bipush (v := nI 14) dX13_lastReading_19 (by decide) ?_
      refine cl_X13_68 rfl rfl (by first | exact Nat.le_of_ble_eq_true rfl | simp [rf_cat, Value.category]) dX13_lastReading_21 ?_
      refine m_of hL (by omega) (by omega) ?_
      rw [(hR.d (by omega : i < 16)).2.2.1]
      refine WP.ret (ov := some (.int _)) dX13_lastReading_24 ⟨rfl, _, rfl, by first | rfl | assumption | exact nar_b01 (by assumption)⟩ ?_
      rw [bW hw]
      exact hq _ h1 z1 F1
theorem PV.p8 {Y : Yd} {m b T i : Nat} (h : PV Y m b T) (hT : T ≤ 57100) (hi : i < 16) (z : ¬ yC Y i 8 = 0) : ¬ yC Y i 8 ≤ 0 := by
  obtain ⟨r, s, h1, h2, -⟩ := h.e hi
  rw [h1] at z ⊢
  refine nI_nle (Nat.pos_of_ne_zero fun q => z ?_) (by omega)
  rw [q]; rfl
set_option maxHeartbeats 2000000 in
set_option maxRecDepth 4000 in
theorem n_meanReading {d T : Nat} {S : KS} {M : Mem} {Q : Out → Mem → Prop} {x : Int32} (h : MSt M S T) (hT : T ≤ 57000) (hq : QMa Q M S T cdB (aC S x fun i => if yC (kY S) i 8 = 0 then .inr eN else .inl (yMean (kY S) i))) : WPc (d + 20) mX13_meanReading [.ref (rf 11 0), .int x] M Q := by
  refine WPc.of (by decide +kernel) (Nat.le_of_ble_eq_true rfl) rfl ?_
  refine R.aload_n dX13_meanReading_0 rfl (by first | rfl | exact rfv_rf _) ?_
  refine R.iconst (v := 0) dX13_meanReading_1 rfl ?_
  refine R.putI dX13_meanReading_2 fl_X13_65 (fun q hq => by cases hq; exact Or.inl rfl) (by decide) rfl rfl rfl ?_
  have h1 := h.th 0
  have F1 := Fr_th M 0
  have z1 : mI (sI M 11 0 7 0) 11 0 7 = 0 := th7 M 0
  generalize sI M 11 0 7 0 = M1 at h1 F1 z1 ⊢
  obtain ⟨m, b, hR, hV⟩ := h1.y
  have hL := h1.l
  have hm16 := hV.m16
  have hb6 := hV.b6
  rw [← bW (M := M1) rfl]
  generalize hw : mI M1 14 0 = w at hR ⊢
  cases hx : kC (kY S) x with
  | none =>
    rw [aC_n hx] at hq
    refine R.aload_n dX13_meanReading_5 rfl (by first | rfl | exact rfv_rf _) ?_
    refine R.iload_n dX13_meanReading_6 rfl ?_
    refine cl_X13_407 rfl rfl (by first | exact Nat.le_of_ble_eq_true rfl | simp [rf_cat, Value.category]) dX13_meanReading_7 ?_
    refine m_hasN (d := d + 17) hL hR hV.f4 hx ?_
    refine R.if_eq (tgt := 17) dX13_meanReading_10 (by decide) (fun c9 => absurd c9 (by decide)) (fun _ => ?_)
    refine R.iconst (v := 0) dX13_meanReading_13 rfl ?_
    refine R.goto (tgt := 22) dX13_meanReading_14 (by decide) ?_
    refine WP.ret (ov := some (.int _)) dX13_meanReading_22 ⟨rfl, _, rfl, by first | rfl | assumption | exact nar_b01 (by assumption)⟩ ?_
    rw [bW (show mI (sI M1 11 0 7 1) 14 0 = w from hw)]
    exact hq _ (h1.th _) ((th7 _ _).trans cdB_I.symm) (F1.tr (Fr_th _ _))
  | some i =>
    rw [aC_s hx] at hq
    obtain ⟨ex, hi⟩ := kC_m hx hm16 hV.f4
    subst ex
    by_cases z8 : yC (kY S) i 8 = 0
    · simp only [if_pos z8] at hq
      refine R.aload_n dX13_meanReading_5 rfl (by first | rfl | exact rfv_rf _) ?_
      refine R.iload_n dX13_meanReading_6 rfl ?_
      refine cl_X13_407 rfl rfl (by first | exact Nat.le_of_ble_eq_true rfl | simp [rf_cat, Value.category]) dX13_meanReading_7 ?_
      refine m_hasZ (d := d + 17) hL hR hV.f4 hx z8 ?_
      refine R.if_eq (tgt := 17) dX13_meanReading_10 (by decide) (fun c9 => absurd c9 (by decide)) (fun _ => ?_)
      refine R.iconst (v := 0) dX13_meanReading_13 rfl ?_
      refine R.goto (tgt := 22) dX13_meanReading_14 (by decide) ?_
      refine WP.ret (ov := some (.int _)) dX13_meanReading_22 ⟨rfl, _, rfl, by first | rfl | assumption | exact nar_b01 (by assumption)⟩ ?_
      rw [bW (show mI (sI M1 11 0 7 2) 14 0 = w from hw)]
      exact hq _ (h1.th _) ((th7 _ _).trans cdB_N.symm) (F1.tr (Fr_th _ _))
    · simp only [if_neg z8] at hq
      refine R.aload_n dX13_meanReading_5 rfl (by first | rfl | exact rfv_rf _) ?_
      refine R.iload_n dX13_meanReading_6 rfl ?_
      refine cl_X13_407 rfl rfl (by first | exact Nat.le_of_ble_eq_true rfl | simp [rf_cat, Value.category]) dX13_meanReading_7 ?_
      refine m_hasS (d := d + 17) hL hR hV.f4 hx z8 ?_
      refine R.if_eq (tgt := 17) dX13_meanReading_10 (by decide) (fun _ => ?_) (fun c9 => absurd (rfl) c9)
      refine R.aload_n dX13_meanReading_17 rfl (by first | rfl | exact rfv_rf _) ?_
      refine R.iload_n dX13_meanReading_18 rfl ?_
      refine cl_X13_130 rfl rfl (by first | exact Nat.le_of_ble_eq_true rfl | simp [rf_cat, Value.category]) dX13_meanReading_19 ?_
      refine m_mean hL hR hi (hV.mo (by omega) (by omega)) (PV.p8 hV (by omega) (by omega) z8) ?_
      refine WP.ret (ov := some (.int _)) dX13_meanReading_22 ⟨rfl, _, rfl, by first | rfl | assumption | exact nar_b01 (by assumption)⟩ ?_
      rw [bW hw]
      exact hq _ h1 z1 F1
set_option maxHeartbeats 2000000 in
set_option maxRecDepth 4000 in
theorem n_meanError {d T : Nat} {S : KS} {M : Mem} {Q : Out → Mem → Prop} {x : Int32} (h : MSt M S T) (hT : T ≤ 57000) (hq : QMa Q M S T cdB (aC S x fun i => if yC (kY S) i 8 = 0 then .inr eN else .inl (yErr (kY S) i))) : WPc (d + 20) mX13_meanError [.ref (rf 11 0), .int x] M Q := by
  refine WPc.of (by decide +kernel) (Nat.le_of_ble_eq_true rfl) rfl ?_
  refine R.aload_n dX13_meanError_0 rfl (by first | rfl | exact rfv_rf _) ?_
  refine R.iconst (v := 0) dX13_meanError_1 rfl ?_
  refine R.putI dX13_meanError_2 fl_X13_65 (fun q hq => by cases hq; exact Or.inl rfl) (by decide) rfl rfl rfl ?_
  have h1 := h.th 0
  have F1 := Fr_th M 0
  have z1 : mI (sI M 11 0 7 0) 11 0 7 = 0 := th7 M 0
  generalize sI M 11 0 7 0 = M1 at h1 F1 z1 ⊢
  obtain ⟨m, b, hR, hV⟩ := h1.y
  have hL := h1.l
  have hm16 := hV.m16
  have hb6 := hV.b6
  rw [← bW (M := M1) rfl]
  generalize hw : mI M1 14 0 = w at hR ⊢
  cases hx : kC (kY S) x with
  | none =>
    rw [aC_n hx] at hq
    refine R.aload_n dX13_meanError_5 rfl (by first | rfl | exact rfv_rf _) ?_
    refine R.iload_n dX13_meanError_6 rfl ?_
    refine cl_X13_407 rfl rfl (by first | exact Nat.le_of_ble_eq_true rfl | simp [rf_cat, Value.category]) dX13_meanError_7 ?_
    refine m_hasN (d := d + 17) hL hR hV.f4 hx ?_
    refine R.if_eq (tgt := 17) dX13_meanError_10 (by decide) (fun c9 => absurd c9 (by decide)) (fun _ => ?_)
    refine R.iconst (v := 0) dX13_meanError_13 rfl ?_
    refine R.goto (tgt := 28) dX13_meanError_14 (by decide) ?_
    refine WP.ret (ov := some (.int _)) dX13_meanError_28 ⟨rfl, _, rfl, by first | rfl | assumption | exact nar_b01 (by assumption)⟩ ?_
    rw [bW (show mI (sI M1 11 0 7 1) 14 0 = w from hw)]
    exact hq _ (h1.th _) ((th7 _ _).trans cdB_I.symm) (F1.tr (Fr_th _ _))
  | some i =>
    rw [aC_s hx] at hq
    obtain ⟨ex, hi⟩ := kC_m hx hm16 hV.f4
    subst ex
    by_cases z8 : yC (kY S) i 8 = 0
    · simp only [if_pos z8] at hq
      refine R.aload_n dX13_meanError_5 rfl (by first | rfl | exact rfv_rf _) ?_
      refine R.iload_n dX13_meanError_6 rfl ?_
      refine cl_X13_407 rfl rfl (by first | exact Nat.le_of_ble_eq_true rfl | simp [rf_cat, Value.category]) dX13_meanError_7 ?_
      refine m_hasZ (d := d + 17) hL hR hV.f4 hx z8 ?_
      refine R.if_eq (tgt := 17) dX13_meanError_10 (by decide) (fun c9 => absurd c9 (by decide)) (fun _ => ?_)
      refine R.iconst (v := 0) dX13_meanError_13 rfl ?_
      refine R.goto (tgt := 28) dX13_meanError_14 (by decide) ?_
      refine WP.ret (ov := some (.int _)) dX13_meanError_28 ⟨rfl, _, rfl, by first | rfl | assumption | exact nar_b01 (by assumption)⟩ ?_
      rw [bW (show mI (sI M1 11 0 7 2) 14 0 = w from hw)]
      exact hq _ (h1.th _) ((th7 _ _).trans cdB_N.symm) (F1.tr (Fr_th _ _))
    · simp only [if_neg z8] at hq
      refine R.aload_n dX13_meanError_5 rfl (by first | rfl | exact rfv_rf _) ?_
      refine R.iload_n dX13_meanError_6 rfl ?_
      refine cl_X13_407 rfl rfl (by first | exact Nat.le_of_ble_eq_true rfl | simp [rf_cat, Value.category]) dX13_meanError_7 ?_
      refine m_hasS (d := d + 17) hL hR hV.f4 hx z8 ?_
      refine R.if_eq (tgt := 17) dX13_meanError_10 (by decide) (fun _ => ?_) (fun c9 => absurd (rfl) c9)
      refine R.aload_n dX13_meanError_17 rfl (by first | rfl | exact rfv_rf _) ?_
      refine R.iload_n dX13_meanError_18 rfl ?_
      refine cl_X13_130 rfl rfl (by first | exact Nat.le_of_ble_eq_true rfl | simp [rf_cat, Value.category]) dX13_meanError_19 ?_
      refine m_mean hL hR hi (hV.mo (by omega) (by omega)) (PV.p8 hV (by omega) (by omega) z8) ?_
      refine R.aload_n dX13_meanError_22 rfl (by first | rfl | exact rfv_rf _) ?_
      refine R.iload_n dX13_meanError_23 rfl ?_
      refine cl_X13_82 rfl rfl (by first | exact Nat.le_of_ble_eq_true rfl | simp [rf_cat, Value.category]) dX13_meanError_24 ?_
      refine m_gr (d := d + 11) hL hR hV.l hV.acy (by omega) ?_
      refine R.isub dX13_meanError_27 ?_
      refine WP.ret (ov := some (.int _)) dX13_meanError_28 ⟨rfl, _, rfl, by first | rfl | assumption | exact nar_b01 (by assumption)⟩ ?_
      rw [bW hw]
      exact hq _ h1 z1 F1
def QMd (Q : Out → Mem → Prop) (M : Mem) (S : KS) (T : Nat) (cd : String → Int32) (a : UInt64 ⊕ String) : Prop := match a with
  | .inl v => ∀ M', MSt M' S T → mI M' 11 0 7 = 0 → Fr inM M M' → Q (.inl (some (.double v))) M'
  | .inr E => ∀ M', MSt M' S T → mI M' 11 0 7 = cd E → Fr inM M M' → Q (.inl (some (.double 0))) M'
theorem l2d_i {x : Int64} (h : x.toInt32.toInt64 = x) : FP.l2d x = FP.i2d x.toInt32 := by
  unfold FP.l2d FP.i2d FP.Core.l2d FP.Core.i2d
  rw [← Int32.toInt_toInt64, h]
set_option maxHeartbeats 2000000 in
set_option maxRecDepth 4000 in
theorem n_exactMean {d T : Nat} {S : KS} {M : Mem} {Q : Out → Mem → Prop} {x : Int32} (h : MSt M S T) (hT : T ≤ 57000) (hNF : NF) (hq : QMd Q M S T cdB (aDm S x)) : WPc (d + 20) mX13_exactMean [.ref (rf 11 0), .int x] M Q := by
  refine WPc.of (by decide +kernel) (Nat.le_of_ble_eq_true rfl) rfl ?_
  refine R.aload_n dX13_exactMean_0 rfl (by first | rfl | exact rfv_rf _) ?_
  refine R.iconst (v := 0) dX13_exactMean_1 rfl ?_
  refine R.putI dX13_exactMean_2 fl_X13_65 (fun q hq => by cases hq; exact Or.inl rfl) (by decide) rfl rfl rfl ?_
  have h1 := h.th 0
  have F1 := Fr_th M 0
  have z1 : mI (sI M 11 0 7 0) 11 0 7 = 0 := th7 M 0
  generalize sI M 11 0 7 0 = M1 at h1 F1 z1 ⊢
  obtain ⟨m, b, hR, hV⟩ := h1.y
  have hL := h1.l
  have hm16 := hV.m16
  have hb6 := hV.b6
  rw [← bW (M := M1) rfl]
  generalize hw : mI M1 14 0 = w at hR ⊢
  cases hx : kC (kY S) x with
  | none =>
    simp only [aDm, hx] at hq
    refine R.aload_n dX13_exactMean_5 rfl (by first | rfl | exact rfv_rf _) ?_
    refine R.iload_n dX13_exactMean_6 rfl ?_
    refine cl_X13_407 rfl rfl (by first | exact Nat.le_of_ble_eq_true rfl | simp [rf_cat, Value.category]) dX13_exactMean_7 ?_
    refine m_hasN (d := d + 17) hL hR hV.f4 hx ?_
    refine R.if_eq (tgt := 17) dX13_exactMean_10 (by decide) (fun c9 => absurd c9 (by decide)) (fun _ => ?_)
    refine R.dconst0 dX13_exactMean_13 ?_
    refine R.goto (tgt := 34) dX13_exactMean_14 (by decide) ?_
    refine WP.ret (ov := some (.double _)) dX13_exactMean_34 ⟨rfl, rfl⟩ ?_
    rw [bW (show mI (sI M1 11 0 7 1) 14 0 = w from hw)]
    exact hq _ (h1.th _) ((th7 _ _).trans cdB_I.symm) (F1.tr (Fr_th _ _))
  | some i =>
    simp only [aDm, hx] at hq
    obtain ⟨ex, hi⟩ := kC_m hx hm16 hV.f4
    subst ex
    by_cases z8 : yC (kY S) i 8 = 0
    · simp only [if_pos z8] at hq
      refine R.aload_n dX13_exactMean_5 rfl (by first | rfl | exact rfv_rf _) ?_
      refine R.iload_n dX13_exactMean_6 rfl ?_
      refine cl_X13_407 rfl rfl (by first | exact Nat.le_of_ble_eq_true rfl | simp [rf_cat, Value.category]) dX13_exactMean_7 ?_
      refine m_hasZ (d := d + 17) hL hR hV.f4 hx z8 ?_
      refine R.if_eq (tgt := 17) dX13_exactMean_10 (by decide) (fun c9 => absurd c9 (by decide)) (fun _ => ?_)
      refine R.dconst0 dX13_exactMean_13 ?_
      refine R.goto (tgt := 34) dX13_exactMean_14 (by decide) ?_
      refine WP.ret (ov := some (.double _)) dX13_exactMean_34 ⟨rfl, rfl⟩ ?_
      rw [bW (show mI (sI M1 11 0 7 2) 14 0 = w from hw)]
      exact hq _ (h1.th _) ((th7 _ _).trans cdB_N.symm) (F1.tr (Fr_th _ _))
    · simp only [if_neg z8] at hq
      refine R.aload_n dX13_exactMean_5 rfl (by first | rfl | exact rfv_rf _) ?_
      refine R.iload_n dX13_exactMean_6 rfl ?_
      refine cl_X13_407 rfl rfl (by first | exact Nat.le_of_ble_eq_true rfl | simp [rf_cat, Value.category]) dX13_exactMean_7 ?_
      refine m_hasS (d := d + 17) hL hR hV.f4 hx z8 ?_
      refine R.if_eq (tgt := 17) dX13_exactMean_10 (by decide) (fun _ => ?_) (fun c9 => absurd (rfl) c9)
      refine R.aload_n dX13_exactMean_17 rfl (by first | rfl | exact rfv_rf _) ?_
      refine R.iload_n dX13_exactMean_18 rfl ?_
      refine R.bipush (v := nI 13) dX13_exactMean_19 (by decide) ?_
      refine cl_X13_68 rfl rfl (by first | exact Nat.le_of_ble_eq_true rfl | simp [rf_cat, Value.category]) dX13_exactMean_21 ?_
      refine m_of hL (by omega) (by omega) ?_
      rw [(hR.d (by omega : i < 16)).2.1]
      refine R.i2d dX13_exactMean_24 ?_
      refine R.aload_n dX13_exactMean_25 rfl (by first | rfl | exact rfv_rf _) ?_
      refine R.iload_n dX13_exactMean_26 rfl ?_
      refine R.bipush (v := nI 12) dX13_exactMean_27 (by decide) ?_
      refine cl_X13_68 rfl rfl (by first | exact Nat.le_of_ble_eq_true rfl | simp [rf_cat, Value.category]) dX13_exactMean_29 ?_
      refine m_of hL (by omega) (by omega) ?_
      rw [(hR.d (by omega : i < 16)).1]
      refine R.i2d dX13_exactMean_32 ?_
      refine R.ddiv dX13_exactMean_33 (hNF.2.1 _ _ z8) ?_
      refine WP.ret (ov := some (.double _)) dX13_exactMean_34 ⟨rfl, rfl⟩ ?_
      rw [bW hw]
      rw [l2d_i (hV.mo (by omega) (by omega))] at hq
      exact hq _ h1 z1 F1
set_option maxHeartbeats 2000000 in
set_option maxRecDepth 4000 in
theorem n_springSag {d T : Nat} {S : KS} {M : Mem} {Q : Out → Mem → Prop} (h : MSt M S T) (hT : T ≤ 57000) (hq : QMa Q M S T cdA (.inl (fSag (yS (kY S) 2) (yS (kY S) 3)))) : WPc (d + 20) mX13_springSag [.ref (rf 11 0)] M Q := by
  refine WPc.of (by decide +kernel) (Nat.le_of_ble_eq_true rfl) rfl ?_
  refine R.aload_n dX13_springSag_0 rfl (by first | rfl | exact rfv_rf _) ?_
  refine R.iconst (v := 0) dX13_springSag_1 rfl ?_
  refine R.putI dX13_springSag_2 fl_X13_65 (fun q hq => by cases hq; exact Or.inl rfl) (by decide) rfl rfl rfl ?_
  have h1 := h.th 0
  have F1 := Fr_th M 0
  have z1 : mI (sI M 11 0 7 0) 11 0 7 = 0 := th7 M 0
  generalize sI M 11 0 7 0 = M1 at h1 F1 z1 ⊢
  obtain ⟨m, b, hR, hV⟩ := h1.y
  have hL := h1.l
  have hm16 := hV.m16
  have hb6 := hV.b6
  rw [← bW (M := M1) rfl]
  generalize hw : mI M1 14 0 = w at hR ⊢
  obtain ⟨-, -, ⟨q, f3, f4, f5⟩, -⟩ := hV.f
  have n0 : ¬ yS (kY S) 2 < 1 := by
    rw [f3]
    exact nI_nlt (b := 1) f4 (by omega)
  rw [f_sag n0] at hq
  refine R.aload_n dX13_springSag_5 rfl (by first | rfl | exact rfv_rf _) ?_
  refine cl_X13_108 rfl rfl (by first | exact Nat.le_of_ble_eq_true rfl | simp [rf_cat, Value.category]) dX13_springSag_6 ?_
  refine m_sag hL (by rw [hR.h.2.2.2.1, f3]; exact nI_ne0 f4 (by omega)) ?_
  rw [hR.h.2.2.2.2.2.2.1, hR.h.2.2.2.1]
  refine WP.ret (ov := some (.int _)) dX13_springSag_9 ⟨rfl, _, rfl, by first | rfl | assumption | exact nar_b01 (by assumption)⟩ ?_
  rw [bW hw]
  exact hq _ h1 z1 F1
set_option maxHeartbeats 2000000 in
set_option maxRecDepth 4000 in
theorem n_refusalReason {d T : Nat} {S : KS} {M : Mem} {Q : Out → Mem → Prop} {x z : Int32} (h : MSt M S T) (hT : T ≤ 57000) (hq : QMa Q M S T cdA (aC S x fun i => aU S z fun b => .inl (yRef (kY S) i b))) : WPc (d + 20) mX13_refusalReason [.ref (rf 11 0), .int x, .int z] M Q := by
  refine WPc.of (by decide +kernel) (Nat.le_of_ble_eq_true rfl) rfl ?_
  refine R.aload_n dX13_refusalReason_0 rfl (by first | rfl | exact rfv_rf _) ?_
  refine R.iconst (v := 0) dX13_refusalReason_1 rfl ?_
  refine R.putI dX13_refusalReason_2 fl_X13_65 (fun q hq => by cases hq; exact Or.inl rfl) (by decide) rfl rfl rfl ?_
  have h1 := h.th 0
  have F1 := Fr_th M 0
  have z1 : mI (sI M 11 0 7 0) 11 0 7 = 0 := th7 M 0
  generalize sI M 11 0 7 0 = M1 at h1 F1 z1 ⊢
  obtain ⟨m, b, hR, hV⟩ := h1.y
  have hL := h1.l
  have hm16 := hV.m16
  have hb6 := hV.b6
  rw [← bW (M := M1) rfl]
  generalize hw : mI M1 14 0 = w at hR ⊢
  cases hx : kC (kY S) x with
  | none =>
    rw [aC_n hx] at hq
    refine R.aload_n dX13_refusalReason_5 rfl (by first | rfl | exact rfv_rf _) ?_
    refine R.iload_n dX13_refusalReason_6 rfl ?_
    refine cl_X13_395 rfl rfl (by first | exact Nat.le_of_ble_eq_true rfl | simp [rf_cat, Value.category]) dX13_refusalReason_7 ?_
    refine m_noCN hL hR hV.f4 hx ?_
    refine R.if_ne (tgt := 21) dX13_refusalReason_10 (by decide) (fun _ => ?_) (fun c9 => absurd c9 (by decide))
    refine R.iconst (v := 0) dX13_refusalReason_21 rfl ?_
    refine R.goto (tgt := 31) dX13_refusalReason_22 (by decide) ?_
    refine WP.ret (ov := some (.int _)) dX13_refusalReason_31 ⟨rfl, _, rfl, by first | rfl | assumption | exact nar_b01 (by assumption)⟩ ?_
    rw [bW (show mI (sI M1 11 0 7 1) 14 0 = w from hw)]
    exact hq _ (h1.th _) ((th7 _ _).trans rfl) (F1.tr (Fr_th _ _))
  | some i =>
    rw [aC_s hx] at hq
    obtain ⟨ex, hi⟩ := kC_m hx hm16 hV.f4
    subst ex
    cases hz : kU (kY S) z with
    | none =>
      rw [aU_n hz] at hq
      refine R.aload_n dX13_refusalReason_5 rfl (by first | rfl | exact rfv_rf _) ?_
      refine R.iload_n dX13_refusalReason_6 rfl ?_
      refine cl_X13_395 rfl rfl (by first | exact Nat.le_of_ble_eq_true rfl | simp [rf_cat, Value.category]) dX13_refusalReason_7 ?_
      refine m_noCS hL hR hV.f4 hx ?_
      refine R.if_ne (tgt := 21) dX13_refusalReason_10 (by decide) (fun c9 => absurd (rfl) c9) (fun _ => ?_)
      refine R.aload_n dX13_refusalReason_13 rfl (by first | rfl | exact rfv_rf _) ?_
      refine R.iload_n dX13_refusalReason_14 rfl ?_
      refine cl_X13_398 rfl rfl (by first | exact Nat.le_of_ble_eq_true rfl | simp [rf_cat, Value.category]) dX13_refusalReason_15 ?_
      refine m_noBN hL hR hV.f5 hz ?_
      refine R.if_eq (tgt := 25) dX13_refusalReason_18 (by decide) (fun c9 => absurd c9 (by decide)) (fun _ => ?_)
      refine R.iconst (v := 0) dX13_refusalReason_21 rfl ?_
      refine R.goto (tgt := 31) dX13_refusalReason_22 (by decide) ?_
      refine WP.ret (ov := some (.int _)) dX13_refusalReason_31 ⟨rfl, _, rfl, by first | rfl | assumption | exact nar_b01 (by assumption)⟩ ?_
      rw [bW (show mI (sI M1 11 0 7 1) 14 0 = w from hw)]
      exact hq _ (h1.th _) ((th7 _ _).trans rfl) (F1.tr (Fr_th _ _))
    | some j =>
      rw [aU_s hz] at hq
      obtain ⟨ez, hj⟩ := kU_m hz hb6 hV.f5
      subst ez
      refine R.aload_n dX13_refusalReason_5 rfl (by first | rfl | exact rfv_rf _) ?_
      refine R.iload_n dX13_refusalReason_6 rfl ?_
      refine cl_X13_395 rfl rfl (by first | exact Nat.le_of_ble_eq_true rfl | simp [rf_cat, Value.category]) dX13_refusalReason_7 ?_
      refine m_noCS hL hR hV.f4 hx ?_
      refine R.if_ne (tgt := 21) dX13_refusalReason_10 (by decide) (fun c9 => absurd (rfl) c9) (fun _ => ?_)
      refine R.aload_n dX13_refusalReason_13 rfl (by first | rfl | exact rfv_rf _) ?_
      refine R.iload_n dX13_refusalReason_14 rfl ?_
      refine cl_X13_398 rfl rfl (by first | exact Nat.le_of_ble_eq_true rfl | simp [rf_cat, Value.category]) dX13_refusalReason_15 ?_
      refine m_noBS hL hR hV.f5 hz ?_
      refine R.if_eq (tgt := 25) dX13_refusalReason_18 (by decide) (fun _ => ?_) (fun c9 => absurd (rfl) c9)
      refine R.aload_n dX13_refusalReason_25 rfl (by first | rfl | exact rfv_rf _) ?_
      refine R.iload_n dX13_refusalReason_26 rfl ?_
      refine R.iload_n dX13_refusalReason_27 rfl ?_
      refine cl_X13_160 rfl rfl (by first | exact Nat.le_of_ble_eq_true rfl | simp [rf_cat, Value.category]) dX13_refusalReason_28 ?_
      refine m_refuses (d := d + 16) hL hR hi (hV.mo (by omega) (by omega)) hV.r6 hj ?_
      refine WP.ret (ov := some (.int _)) dX13_refusalReason_31 ⟨rfl, _, rfl, by first | rfl | assumption | exact nar_b01 (by assumption)⟩ ?_
      rw [bW hw]
      exact hq _ h1 z1 F1
set_option maxHeartbeats 2000000 in
set_option maxRecDepth 4000 in
theorem n_refusalDetail {d T : Nat} {S : KS} {M : Mem} {Q : Out → Mem → Prop} {x z : Int32} (h : MSt M S T) (hT : T ≤ 57000) (hq : QMa Q M S T cdA (aC S x fun i => aU S z fun b => .inl (yDet (kY S) i b))) : WPc (d + 20) mX13_refusalDetail [.ref (rf 11 0), .int x, .int z] M Q := by
  refine WPc.of (by decide +kernel) (Nat.le_of_ble_eq_true rfl) rfl ?_
  refine R.aload_n dX13_refusalDetail_0 rfl (by first | rfl | exact rfv_rf _) ?_
  refine R.iconst (v := 0) dX13_refusalDetail_1 rfl ?_
  refine R.putI dX13_refusalDetail_2 fl_X13_65 (fun q hq => by cases hq; exact Or.inl rfl) (by decide) rfl rfl rfl ?_
  have h1 := h.th 0
  have F1 := Fr_th M 0
  have z1 : mI (sI M 11 0 7 0) 11 0 7 = 0 := th7 M 0
  generalize sI M 11 0 7 0 = M1 at h1 F1 z1 ⊢
  obtain ⟨m, b, hR, hV⟩ := h1.y
  have hL := h1.l
  have hm16 := hV.m16
  have hb6 := hV.b6
  rw [← bW (M := M1) rfl]
  generalize hw : mI M1 14 0 = w at hR ⊢
  cases hx : kC (kY S) x with
  | none =>
    rw [aC_n hx] at hq
    refine R.aload_n dX13_refusalDetail_5 rfl (by first | rfl | exact rfv_rf _) ?_
    refine R.iload_n dX13_refusalDetail_6 rfl ?_
    refine cl_X13_395 rfl rfl (by first | exact Nat.le_of_ble_eq_true rfl | simp [rf_cat, Value.category]) dX13_refusalDetail_7 ?_
    refine m_noCN hL hR hV.f4 hx ?_
    refine R.if_ne (tgt := 21) dX13_refusalDetail_10 (by decide) (fun _ => ?_) (fun c9 => absurd c9 (by decide))
    refine R.iconst (v := 0) dX13_refusalDetail_21 rfl ?_
    refine R.goto (tgt := 31) dX13_refusalDetail_22 (by decide) ?_
    refine WP.ret (ov := some (.int _)) dX13_refusalDetail_31 ⟨rfl, _, rfl, by first | rfl | assumption | exact nar_b01 (by assumption)⟩ ?_
    rw [bW (show mI (sI M1 11 0 7 1) 14 0 = w from hw)]
    exact hq _ (h1.th _) ((th7 _ _).trans rfl) (F1.tr (Fr_th _ _))
  | some i =>
    rw [aC_s hx] at hq
    obtain ⟨ex, hi⟩ := kC_m hx hm16 hV.f4
    subst ex
    cases hz : kU (kY S) z with
    | none =>
      rw [aU_n hz] at hq
      refine R.aload_n dX13_refusalDetail_5 rfl (by first | rfl | exact rfv_rf _) ?_
      refine R.iload_n dX13_refusalDetail_6 rfl ?_
      refine cl_X13_395 rfl rfl (by first | exact Nat.le_of_ble_eq_true rfl | simp [rf_cat, Value.category]) dX13_refusalDetail_7 ?_
      refine m_noCS hL hR hV.f4 hx ?_
      refine R.if_ne (tgt := 21) dX13_refusalDetail_10 (by decide) (fun c9 => absurd (rfl) c9) (fun _ => ?_)
      refine R.aload_n dX13_refusalDetail_13 rfl (by first | rfl | exact rfv_rf _) ?_
      refine R.iload_n dX13_refusalDetail_14 rfl ?_
      refine cl_X13_398 rfl rfl (by first | exact Nat.le_of_ble_eq_true rfl | simp [rf_cat, Value.category]) dX13_refusalDetail_15 ?_
      refine m_noBN hL hR hV.f5 hz ?_
      refine R.if_eq (tgt := 25) dX13_refusalDetail_18 (by decide) (fun c9 => absurd c9 (by decide)) (fun _ => ?_)
      refine R.iconst (v := 0) dX13_refusalDetail_21 rfl ?_
      refine R.goto (tgt := 31) dX13_refusalDetail_22 (by decide) ?_
      refine WP.ret (ov := some (.int _)) dX13_refusalDetail_31 ⟨rfl, _, rfl, by first | rfl | assumption | exact nar_b01 (by assumption)⟩ ?_
      rw [bW (show mI (sI M1 11 0 7 1) 14 0 = w from hw)]
      exact hq _ (h1.th _) ((th7 _ _).trans rfl) (F1.tr (Fr_th _ _))
    | some j =>
      rw [aU_s hz] at hq
      obtain ⟨ez, hj⟩ := kU_m hz hb6 hV.f5
      subst ez
      refine R.aload_n dX13_refusalDetail_5 rfl (by first | rfl | exact rfv_rf _) ?_
      refine R.iload_n dX13_refusalDetail_6 rfl ?_
      refine cl_X13_395 rfl rfl (by first | exact Nat.le_of_ble_eq_true rfl | simp [rf_cat, Value.category]) dX13_refusalDetail_7 ?_
      refine m_noCS hL hR hV.f4 hx ?_
      refine R.if_ne (tgt := 21) dX13_refusalDetail_10 (by decide) (fun c9 => absurd (rfl) c9) (fun _ => ?_)
      refine R.aload_n dX13_refusalDetail_13 rfl (by first | rfl | exact rfv_rf _) ?_
      refine R.iload_n dX13_refusalDetail_14 rfl ?_
      refine cl_X13_398 rfl rfl (by first | exact Nat.le_of_ble_eq_true rfl | simp [rf_cat, Value.category]) dX13_refusalDetail_15 ?_
      refine m_noBS hL hR hV.f5 hz ?_
      refine R.if_eq (tgt := 25) dX13_refusalDetail_18 (by decide) (fun _ => ?_) (fun c9 => absurd (rfl) c9)
      refine R.aload_n dX13_refusalDetail_25 rfl (by first | rfl | exact rfv_rf _) ?_
      refine R.iload_n dX13_refusalDetail_26 rfl ?_
      refine R.iload_n dX13_refusalDetail_27 rfl ?_
      refine cl_X13_419 rfl rfl (by first | exact Nat.le_of_ble_eq_true rfl | simp [rf_cat, Value.category]) dX13_refusalDetail_28 ?_
      refine m_detail (d := d + 14) hL hR hi (hV.mo (by omega) (by omega)) hV.r6 hj ?_
      refine WP.ret (ov := some (.int _)) dX13_refusalDetail_31 ⟨rfl, _, rfl, by first | rfl | assumption | exact nar_b01 (by assumption)⟩ ?_
      rw [bW hw]
      exact hq _ h1 z1 F1
/-- who is not refused has readings -/
theorem ref_p {Y : Yd} {i j : Nat} (h6 : 1 ≤ yF Y 6) (e : yRef Y i j = 0) : ¬ yC Y i 8 ≤ 0 := by
  unfold yRef at e
  split at e
  · exact absurd e (by decide)
  split at e
  · split at e
    · exact absurd e (by decide)
    next z8 => exact fun q => z8 (Int32.lt_of_le_of_lt q (np1c h6))
  · exact absurd e (by decide)
set_option maxHeartbeats 2000000 in
set_option maxRecDepth 4000 in
theorem n_trustAfterSale {d T : Nat} {S : KS} {M : Mem} {Q : Out → Mem → Prop} {x z : Int32} (h : MSt M S T) (hT : T ≤ 57000) (hq : QMa Q M S T cdB (aC S x fun i => aU S z fun b => if yRef (kY S) i b = 0 then .inl (fTrust (yB (kY S) b 4) (yB (kY S) b 3) (yErr (kY S) i)) else .inr eS)) : WPc (d + 20) mX13_trustAfterSale [.ref (rf 11 0), .int x, .int z] M Q := by
  refine WPc.of (by decide +kernel) (Nat.le_of_ble_eq_true rfl) rfl ?_
  refine R.aload_n dX13_trustAfterSale_0 rfl (by first | rfl | exact rfv_rf _) ?_
  refine R.iconst (v := 0) dX13_trustAfterSale_1 rfl ?_
  refine R.putI dX13_trustAfterSale_2 fl_X13_65 (fun q hq => by cases hq; exact Or.inl rfl) (by decide) rfl rfl rfl ?_
  have h1 := h.th 0
  have F1 := Fr_th M 0
  have z1 : mI (sI M 11 0 7 0) 11 0 7 = 0 := th7 M 0
  generalize sI M 11 0 7 0 = M1 at h1 F1 z1 ⊢
  obtain ⟨m, b, hR, hV⟩ := h1.y
  have hL := h1.l
  have hm16 := hV.m16
  have hb6 := hV.b6
  rw [← bW (M := M1) rfl]
  generalize hw : mI M1 14 0 = w at hR ⊢
  cases hx : kC (kY S) x with
  | none =>
    rw [aC_n hx] at hq
    refine R.aload_n dX13_trustAfterSale_5 rfl (by first | rfl | exact rfv_rf _) ?_
    refine R.iload_n dX13_trustAfterSale_6 rfl ?_
    refine cl_X13_395 rfl rfl (by first | exact Nat.le_of_ble_eq_true rfl | simp [rf_cat, Value.category]) dX13_trustAfterSale_7 ?_
    refine m_noCN hL hR hV.f4 hx ?_
    refine R.if_ne (tgt := 43) dX13_trustAfterSale_10 (by decide) (fun _ => ?_) (fun c9 => absurd c9 (by decide))
    refine R.iconst (v := 0) dX13_trustAfterSale_43 rfl ?_
    refine WP.ret (ov := some (.int _)) dX13_trustAfterSale_44 ⟨rfl, _, rfl, by first | rfl | assumption | exact nar_b01 (by assumption)⟩ ?_
    rw [bW (show mI (sI M1 11 0 7 1) 14 0 = w from hw)]
    exact hq _ (h1.th _) ((th7 _ _).trans cdB_I.symm) (F1.tr (Fr_th _ _))
  | some i =>
    rw [aC_s hx] at hq
    obtain ⟨ex, hi⟩ := kC_m hx hm16 hV.f4
    subst ex
    cases hz : kU (kY S) z with
    | none =>
      rw [aU_n hz] at hq
      refine R.aload_n dX13_trustAfterSale_5 rfl (by first | rfl | exact rfv_rf _) ?_
      refine R.iload_n dX13_trustAfterSale_6 rfl ?_
      refine cl_X13_395 rfl rfl (by first | exact Nat.le_of_ble_eq_true rfl | simp [rf_cat, Value.category]) dX13_trustAfterSale_7 ?_
      refine m_noCS hL hR hV.f4 hx ?_
      refine R.if_ne (tgt := 43) dX13_trustAfterSale_10 (by decide) (fun c9 => absurd (rfl) c9) (fun _ => ?_)
      refine R.aload_n dX13_trustAfterSale_13 rfl (by first | rfl | exact rfv_rf _) ?_
      refine R.iload_n dX13_trustAfterSale_14 rfl ?_
      refine cl_X13_398 rfl rfl (by first | exact Nat.le_of_ble_eq_true rfl | simp [rf_cat, Value.category]) dX13_trustAfterSale_15 ?_
      refine m_noBN hL hR hV.f5 hz ?_
      refine R.if_ne (tgt := 43) dX13_trustAfterSale_18 (by decide) (fun _ => ?_) (fun c9 => absurd c9 (by decide))
      refine R.iconst (v := 0) dX13_trustAfterSale_43 rfl ?_
      refine WP.ret (ov := some (.int _)) dX13_trustAfterSale_44 ⟨rfl, _, rfl, by first | rfl | assumption | exact nar_b01 (by assumption)⟩ ?_
      rw [bW (show mI (sI M1 11 0 7 1) 14 0 = w from hw)]
      exact hq _ (h1.th _) ((th7 _ _).trans cdB_I.symm) (F1.tr (Fr_th _ _))
    | some j =>
      rw [aU_s hz] at hq
      obtain ⟨ez, hj⟩ := kU_m hz hb6 hV.f5
      subst ez
      by_cases e0 : yRef (kY S) i j = 0
      · simp only [if_pos e0] at hq
        refine R.aload_n dX13_trustAfterSale_5 rfl (by first | rfl | exact rfv_rf _) ?_
        refine R.iload_n dX13_trustAfterSale_6 rfl ?_
        refine cl_X13_395 rfl rfl (by first | exact Nat.le_of_ble_eq_true rfl | simp [rf_cat, Value.category]) dX13_trustAfterSale_7 ?_
        refine m_noCS hL hR hV.f4 hx ?_
        refine R.if_ne (tgt := 43) dX13_trustAfterSale_10 (by decide) (fun c9 => absurd (rfl) c9) (fun _ => ?_)
        refine R.aload_n dX13_trustAfterSale_13 rfl (by first | rfl | exact rfv_rf _) ?_
        refine R.iload_n dX13_trustAfterSale_14 rfl ?_
        refine cl_X13_398 rfl rfl (by first | exact Nat.le_of_ble_eq_true rfl | simp [rf_cat, Value.category]) dX13_trustAfterSale_15 ?_
        refine m_noBS hL hR hV.f5 hz ?_
        refine R.if_ne (tgt := 43) dX13_trustAfterSale_18 (by decide) (fun c9 => absurd (rfl) c9) (fun _ => ?_)
        refine R.aload_n dX13_trustAfterSale_21 rfl (by first | rfl | exact rfv_rf _) ?_
        refine R.aload_n dX13_trustAfterSale_22 rfl (by first | rfl | exact rfv_rf _) ?_
        refine R.iload_n dX13_trustAfterSale_23 rfl ?_
        refine R.iload_n dX13_trustAfterSale_24 rfl ?_
        refine cl_X13_160 rfl rfl (by first | exact Nat.le_of_ble_eq_true rfl | simp [rf_cat, Value.category]) dX13_trustAfterSale_25 ?_
        refine m_refuses (d := d + 16) hL hR hi (hV.mo (by omega) (by omega)) hV.r6 hj ?_
        rw [e0]
        refine R.if_eq (tgt := 35) dX13_trustAfterSale_28 (by decide) (fun _ => ?_) (fun c9 => absurd (rfl) c9)
        refine R.iconst (v := 0) dX13_trustAfterSale_35 rfl ?_
        refine R.iconst (v := 2) dX13_trustAfterSale_36 rfl ?_
        refine cl_X13_391 rfl rfl (by first | exact Nat.le_of_ble_eq_true rfl | simp [rf_cat, Value.category]) dX13_trustAfterSale_37 ?_
        refine m_fail0 ?_
        refine R.if_eq (tgt := 45) dX13_trustAfterSale_40 (by decide) (fun _ => ?_) (fun c9 => absurd (rfl) c9)
        refine R.aload_n dX13_trustAfterSale_45 rfl (by first | rfl | exact rfv_rf _) ?_
        refine R.iload_n dX13_trustAfterSale_46 rfl ?_
        refine R.iload_n dX13_trustAfterSale_47 rfl ?_
        refine cl_X13_175 rfl rfl (by first | exact Nat.le_of_ble_eq_true rfl | simp [rf_cat, Value.category]) dX13_trustAfterSale_48 ?_
        refine m_trust (d := d + 9) hL hR hi hV.l hV.acy (hV.mo (by omega) (by omega)) (ref_p hV.r6 e0) hj ?_
        refine WP.ret (ov := some (.int _)) dX13_trustAfterSale_51 ⟨rfl, _, rfl, by first | rfl | assumption | exact nar_b01 (by assumption)⟩ ?_
        rw [bW hw]
        exact hq _ h1 z1 F1
      · simp only [if_neg e0] at hq
        refine R.aload_n dX13_trustAfterSale_5 rfl (by first | rfl | exact rfv_rf _) ?_
        refine R.iload_n dX13_trustAfterSale_6 rfl ?_
        refine cl_X13_395 rfl rfl (by first | exact Nat.le_of_ble_eq_true rfl | simp [rf_cat, Value.category]) dX13_trustAfterSale_7 ?_
        refine m_noCS hL hR hV.f4 hx ?_
        refine R.if_ne (tgt := 43) dX13_trustAfterSale_10 (by decide) (fun c9 => absurd (rfl) c9) (fun _ => ?_)
        refine R.aload_n dX13_trustAfterSale_13 rfl (by first | rfl | exact rfv_rf _) ?_
        refine R.iload_n dX13_trustAfterSale_14 rfl ?_
        refine cl_X13_398 rfl rfl (by first | exact Nat.le_of_ble_eq_true rfl | simp [rf_cat, Value.category]) dX13_trustAfterSale_15 ?_
        refine m_noBS hL hR hV.f5 hz ?_
        refine R.if_ne (tgt := 43) dX13_trustAfterSale_18 (by decide) (fun c9 => absurd (rfl) c9) (fun _ => ?_)
        refine R.aload_n dX13_trustAfterSale_21 rfl (by first | rfl | exact rfv_rf _) ?_
        refine R.aload_n dX13_trustAfterSale_22 rfl (by first | rfl | exact rfv_rf _) ?_
        refine R.iload_n dX13_trustAfterSale_23 rfl ?_
        refine R.iload_n dX13_trustAfterSale_24 rfl ?_
        refine cl_X13_160 rfl rfl (by first | exact Nat.le_of_ble_eq_true rfl | simp [rf_cat, Value.category]) dX13_trustAfterSale_25 ?_
        refine m_refuses (d := d + 16) hL hR hi (hV.mo (by omega) (by omega)) hV.r6 hj ?_
        refine R.if_eq (tgt := 35) dX13_trustAfterSale_28 (by decide) (fun c9 => absurd c9 (e0)) (fun _ => ?_)
        refine R.iconst (v := 1) dX13_trustAfterSale_31 rfl ?_
        refine R.goto (tgt := 36) dX13_trustAfterSale_32 (by decide) ?_
        refine R.iconst (v := 2) dX13_trustAfterSale_36 rfl ?_
        refine cl_X13_391 rfl rfl (by first | exact Nat.le_of_ble_eq_true rfl | simp [rf_cat, Value.category]) dX13_trustAfterSale_37 ?_
        refine m_fail1 ?_
        rw [sI_sWf M1 w 0 7 2 (by decide)]
        refine R.if_eq (tgt := 45) dX13_trustAfterSale_40 (by decide) (fun c9 => absurd c9 (by decide)) (fun _ => ?_)
        refine R.iconst (v := 0) dX13_trustAfterSale_43 rfl ?_
        refine WP.ret (ov := some (.int _)) dX13_trustAfterSale_44 ⟨rfl, _, rfl, by first | rfl | assumption | exact nar_b01 (by assumption)⟩ ?_
        rw [bW (show mI (sI M1 11 0 7 2) 14 0 = w from hw)]
        exact hq _ (h1.th _) ((th7 _ _).trans cdB_S.symm) (F1.tr (Fr_th _ _))
set_option maxHeartbeats 2000000 in
set_option maxRecDepth 4000 in
theorem n_errorCode {d T : Nat} {S : KS} {M : Mem} {Q : Out → Mem → Prop} (h : MSt M S T) (hT : T ≤ 57000) (hq : QMa Q M S T cdA (.inl (kE S))) : WPc (d + 20) mX13_errorCode [.ref (rf 11 0)] M Q := by
  refine WPc.of (by decide +kernel) (Nat.le_of_ble_eq_true rfl) rfl ?_
  refine R.aload_n dX13_errorCode_0 rfl (by first | rfl | exact rfv_rf _) ?_
  refine R.iconst (v := 0) dX13_errorCode_1 rfl ?_
  refine R.putI dX13_errorCode_2 fl_X13_65 (fun q hq => by cases hq; exact Or.inl rfl) (by decide) rfl rfl rfl ?_
  have h1 := h.th 0
  have F1 := Fr_th M 0
  have z1 : mI (sI M 11 0 7 0) 11 0 7 = 0 := th7 M 0
  generalize sI M 11 0 7 0 = M1 at h1 F1 z1 ⊢
  obtain ⟨m, b, hR, hV⟩ := h1.y
  have hL := h1.l
  have hm16 := hV.m16
  have hb6 := hV.b6
  rw [← bW (M := M1) rfl]
  generalize hw : mI M1 14 0 = w at hR ⊢
  refine R.aload_n dX13_errorCode_5 rfl (by first | rfl | exact rfv_rf _) ?_
  refine R.getI dX13_errorCode_6 fl_X13_299 (by decide) rfl ?_
  rw [show mI (sW M1 w) 11 0 = mI M1 11 0 from mI_sWn _ _ (by decide), h1.e]
  refine WP.ret (ov := some (.int _)) dX13_errorCode_9 ⟨rfl, _, rfl, by first | rfl | assumption | exact nar_b01 (by assumption)⟩ ?_
  rw [bW hw]
  exact hq _ h1 z1 F1
set_option maxHeartbeats 2000000 in
set_option maxRecDepth 4000 in
theorem n_errorOffset {d T : Nat} {S : KS} {M : Mem} {Q : Out → Mem → Prop} (h : MSt M S T) (hT : T ≤ 57000) (hq : QMa Q M S T cdA (.inl (kQ S))) : WPc (d + 20) mX13_errorOffset [.ref (rf 11 0)] M Q := by
  refine WPc.of (by decide +kernel) (Nat.le_of_ble_eq_true rfl) rfl ?_
  refine R.aload_n dX13_errorOffset_0 rfl (by first | rfl | exact rfv_rf _) ?_
  refine R.iconst (v := 0) dX13_errorOffset_1 rfl ?_
  refine R.putI dX13_errorOffset_2 fl_X13_65 (fun q hq => by cases hq; exact Or.inl rfl) (by decide) rfl rfl rfl ?_
  have h1 := h.th 0
  have F1 := Fr_th M 0
  have z1 : mI (sI M 11 0 7 0) 11 0 7 = 0 := th7 M 0
  generalize sI M 11 0 7 0 = M1 at h1 F1 z1 ⊢
  obtain ⟨m, b, hR, hV⟩ := h1.y
  have hL := h1.l
  have hm16 := hV.m16
  have hb6 := hV.b6
  rw [← bW (M := M1) rfl]
  generalize hw : mI M1 14 0 = w at hR ⊢
  refine R.aload_n dX13_errorOffset_5 rfl (by first | rfl | exact rfv_rf _) ?_
  refine R.getI dX13_errorOffset_6 fl_X13_28 (by decide) rfl ?_
  rw [show mI (sW M1 w) 11 0 = mI M1 11 0 from mI_sWn _ _ (by decide), h1.q]
  refine WP.ret (ov := some (.int _)) dX13_errorOffset_9 ⟨rfl, _, rfl, by first | rfl | assumption | exact nar_b01 (by assumption)⟩ ?_
  rw [bW hw]
  exact hq _ h1 z1 F1
