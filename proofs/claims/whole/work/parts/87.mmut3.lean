/-! the model moves, takes out, sells, sets -/
set_option maxHeartbeats 2000000 in
set_option maxRecDepth 4000 in
theorem n_takeOut {d T : Nat} {S : KS} {M : Mem} {Q : Out → Mem → Prop} {p : Nat} {x : Int32} (h : MSt M S T) (hT : T ≤ 57000) (hq : QMr Q M S T cdB (rC S x fun i => rOut S p i)) : WPc (d + 20) mX13_takeOut [.ref (rf 11 0), .int x] M Q := by
  refine WPc.of (by decide +kernel) (Nat.le_of_ble_eq_true rfl) rfl ?_
  refine R.aload_n dX13_takeOut_0 rfl (by first | rfl | exact rfv_rf _) ?_
  refine R.iconst (v := 0) dX13_takeOut_1 rfl ?_
  refine R.putI dX13_takeOut_2 fl_X13_65 (fun q hq => by cases hq; exact Or.inl rfl) (by decide) rfl rfl rfl ?_
  have h1 := h.th 0
  have F1 := Fr_th M 0
  have z1 : mI (sI M 11 0 7 0) 11 0 7 = 0 := th7 M 0
  generalize sI M 11 0 7 0 = M1 at h1 F1 z1 ⊢
  obtain ⟨m, b, hR, hV⟩ := h1.y
  have hL := h1.l
  have hm16 := hV.m16
  have hb6 := hV.b6
  rw [← bW (M := M1) rfl]
  generalize hw : mI M1 14 0 = w at hR ⊢
  cases hx : kC (kY S) x with
  | none =>
    rw [rC_n hx] at hq
    refine R.aload_n dX13_takeOut_5 rfl (by first | rfl | exact rfv_rf _) ?_
    refine R.iload_n dX13_takeOut_6 rfl ?_
    refine cl_X13_395 rfl rfl (by first | exact Nat.le_of_ble_eq_true rfl | simp [rf_cat, Value.category]) dX13_takeOut_7 ?_
    refine m_noCN hL hR hV.f4 hx ?_
    refine R.if_ne (tgt := 34) dX13_takeOut_10 (by decide) (fun _ => ?_) (fun c9 => absurd c9 (by decide))
    refine R.iconst (v := 0) dX13_takeOut_34 rfl ?_
    refine WP.ret (ov := some (.int _)) dX13_takeOut_35 ⟨rfl, _, rfl, by first | rfl | assumption | exact nar_b01 (by assumption)⟩ ?_
    rw [bW (show mI (sI M1 11 0 7 1) 14 0 = w from hw)]
    exact hq _ (h1.th _) ((th7 _ _).trans cdB_I.symm) (F1.tr (Fr_th _ _))
  | some i =>
    rw [rC_s hx] at hq
    obtain ⟨ex, hi⟩ := kC_m hx hm16 hV.f4
    subst ex
    cases ep : yP (kY S) i with
    | none =>
      have hm : ¬ (¬ yC (kY S) i 7 = 0 ∧ ¬ yP (kY S) i = none) := fun q => q.2 ep
      simp only [rOut, ep] at hq
      refine R.aload_n dX13_takeOut_5 rfl (by first | rfl | exact rfv_rf _) ?_
      refine R.iload_n dX13_takeOut_6 rfl ?_
      refine cl_X13_395 rfl rfl (by first | exact Nat.le_of_ble_eq_true rfl | simp [rf_cat, Value.category]) dX13_takeOut_7 ?_
      refine m_noCS hL hR hV.f4 hx ?_
      refine R.if_ne (tgt := 34) dX13_takeOut_10 (by decide) (fun c9 => absurd (rfl) c9) (fun _ => ?_)
      refine R.aload_n dX13_takeOut_13 rfl (by first | rfl | exact rfv_rf _) ?_
      refine R.aload_n dX13_takeOut_14 rfl (by first | rfl | exact rfv_rf _) ?_
      refine R.iload_n dX13_takeOut_15 rfl ?_
      refine cl_X13_367 rfl rfl (by first | exact Nat.le_of_ble_eq_true rfl | simp [rf_cat, Value.category]) dX13_takeOut_16 ?_
      refine m_mayTake (d := d + 17) hL hR hi ?_
      rw [if_neg hm]
      refine R.if_ne (tgt := 26) dX13_takeOut_19 (by decide) (fun c9 => absurd (rfl) c9) (fun _ => ?_)
      refine R.iconst (v := 1) dX13_takeOut_22 rfl ?_
      refine R.goto (tgt := 27) dX13_takeOut_23 (by decide) ?_
      refine R.iconst (v := 2) dX13_takeOut_27 rfl ?_
      refine cl_X13_391 rfl rfl (by first | exact Nat.le_of_ble_eq_true rfl | simp [rf_cat, Value.category]) dX13_takeOut_28 ?_
      refine m_fail1 ?_
      rw [sI_sWf M1 w 0 7 2 (by decide)]
      refine R.if_eq (tgt := 36) dX13_takeOut_31 (by decide) (fun c9 => absurd c9 (by decide)) (fun _ => ?_)
      refine R.iconst (v := 0) dX13_takeOut_34 rfl ?_
      refine WP.ret (ov := some (.int _)) dX13_takeOut_35 ⟨rfl, _, rfl, by first | rfl | assumption | exact nar_b01 (by assumption)⟩ ?_
      rw [bW (show mI (sI M1 11 0 7 2) 14 0 = w from hw)]
      exact hq _ (h1.th _) ((th7 _ _).trans cdB_S.symm) (F1.tr (Fr_th _ _))
    | some j =>
      by_cases c7 : yC (kY S) i 7 = 0
      · have hm : ¬ (¬ yC (kY S) i 7 = 0 ∧ ¬ yP (kY S) i = none) := fun q => q.1 c7
        simp only [rOut, ep, if_pos c7] at hq
        refine R.aload_n dX13_takeOut_5 rfl (by first | rfl | exact rfv_rf _) ?_
        refine R.iload_n dX13_takeOut_6 rfl ?_
        refine cl_X13_395 rfl rfl (by first | exact Nat.le_of_ble_eq_true rfl | simp [rf_cat, Value.category]) dX13_takeOut_7 ?_
        refine m_noCS hL hR hV.f4 hx ?_
        refine R.if_ne (tgt := 34) dX13_takeOut_10 (by decide) (fun c9 => absurd (rfl) c9) (fun _ => ?_)
        refine R.aload_n dX13_takeOut_13 rfl (by first | rfl | exact rfv_rf _) ?_
        refine R.aload_n dX13_takeOut_14 rfl (by first | rfl | exact rfv_rf _) ?_
        refine R.iload_n dX13_takeOut_15 rfl ?_
        refine cl_X13_367 rfl rfl (by first | exact Nat.le_of_ble_eq_true rfl | simp [rf_cat, Value.category]) dX13_takeOut_16 ?_
        refine m_mayTake (d := d + 17) hL hR hi ?_
        rw [if_neg hm]
        refine R.if_ne (tgt := 26) dX13_takeOut_19 (by decide) (fun c9 => absurd (rfl) c9) (fun _ => ?_)
        refine R.iconst (v := 1) dX13_takeOut_22 rfl ?_
        refine R.goto (tgt := 27) dX13_takeOut_23 (by decide) ?_
        refine R.iconst (v := 2) dX13_takeOut_27 rfl ?_
        refine cl_X13_391 rfl rfl (by first | exact Nat.le_of_ble_eq_true rfl | simp [rf_cat, Value.category]) dX13_takeOut_28 ?_
        refine m_fail1 ?_
        rw [sI_sWf M1 w 0 7 2 (by decide)]
        refine R.if_eq (tgt := 36) dX13_takeOut_31 (by decide) (fun c9 => absurd c9 (by decide)) (fun _ => ?_)
        refine R.iconst (v := 0) dX13_takeOut_34 rfl ?_
        refine WP.ret (ov := some (.int _)) dX13_takeOut_35 ⟨rfl, _, rfl, by first | rfl | assumption | exact nar_b01 (by assumption)⟩ ?_
        rw [bW (show mI (sI M1 11 0 7 2) 14 0 = w from hw)]
        exact hq _ (h1.th _) ((th7 _ _).trans cdB_S.symm) (F1.tr (Fr_th _ _))
      · have hm : ¬ yC (kY S) i 7 = 0 ∧ ¬ yP (kY S) i = none := ⟨c7, fun q => by rw [ep] at q; cases q⟩
        simp only [rOut, ep, if_neg c7] at hq
        refine R.aload_n dX13_takeOut_5 rfl (by first | rfl | exact rfv_rf _) ?_
        refine R.iload_n dX13_takeOut_6 rfl ?_
        refine cl_X13_395 rfl rfl (by first | exact Nat.le_of_ble_eq_true rfl | simp [rf_cat, Value.category]) dX13_takeOut_7 ?_
        refine m_noCS hL hR hV.f4 hx ?_
        refine R.if_ne (tgt := 34) dX13_takeOut_10 (by decide) (fun c9 => absurd (rfl) c9) (fun _ => ?_)
        refine R.aload_n dX13_takeOut_13 rfl (by first | rfl | exact rfv_rf _) ?_
        refine R.aload_n dX13_takeOut_14 rfl (by first | rfl | exact rfv_rf _) ?_
        refine R.iload_n dX13_takeOut_15 rfl ?_
        refine cl_X13_367 rfl rfl (by first | exact Nat.le_of_ble_eq_true rfl | simp [rf_cat, Value.category]) dX13_takeOut_16 ?_
        refine m_mayTake (d := d + 17) hL hR hi ?_
        rw [if_pos hm]
        refine R.if_ne (tgt := 26) dX13_takeOut_19 (by decide) (fun _ => ?_) (fun c9 => absurd c9 (by decide))
        refine R.iconst (v := 0) dX13_takeOut_26 rfl ?_
        refine R.iconst (v := 2) dX13_takeOut_27 rfl ?_
        refine cl_X13_391 rfl rfl (by first | exact Nat.le_of_ble_eq_true rfl | simp [rf_cat, Value.category]) dX13_takeOut_28 ?_
        refine m_fail0 ?_
        refine R.if_eq (tgt := 36) dX13_takeOut_31 (by decide) (fun _ => ?_) (fun c9 => absurd (rfl) c9)
        refine R.aload_n dX13_takeOut_36 rfl (by first | rfl | exact rfv_rf _) ?_
        refine cl_X13_385 rfl rfl (by first | exact Nat.le_of_ble_eq_true rfl | simp [rf_cat, Value.category]) dX13_takeOut_37 ?_
        rw [bW hw]
        refine m_remb h1 (fun M2 h2 e2 t2 F2 X2 => ?_)
        rw [← bW (M := M2) (e2.trans hw)]
        have hL2 := h2.l
        refine R.aload_n dX13_takeOut_40 rfl (by first | rfl | exact rfv_rf _) ?_
        refine R.iload_n dX13_takeOut_41 rfl ?_
        refine cl_X13_370 rfl rfl (by first | exact Nat.le_of_ble_eq_true rfl | simp [rf_cat, Value.category]) dX13_takeOut_42 ?_
        refine m_takes (d := d + 10) hL2 hR hi ep hV.acy (acy_un hV.acy) (PV.uo hV (by omega)).l (fun w3 hR3 => ?_)
        refine WP.ret (ov := some (.int _)) dX13_takeOut_45 ⟨rfl, _, rfl, by first | rfl | assumption | exact nar_b01 (by assumption)⟩ ?_
        exact hq _ (h2.sw (T' := T + 1) ⟨m, b, hR3.mono (Nat.le_succ T), (hV.uo (by omega)).mono (Nat.le_succ T)⟩ (Nat.le_succ T)) ((th_sW _ _).trans (t2.trans z1)) (F1.tr (F2.tr (Fr_sW9 _ _)))
set_option maxHeartbeats 2000000 in
set_option maxRecDepth 4000 in
theorem n_moveInto {d T : Nat} {S : KS} {M : Mem} {Q : Out → Mem → Prop} {p : Nat} {x z : Int32} (h : MSt M S T) (hT : T ≤ 57000) (hq : QMr Q M S T cdB (rC S x fun i => rC S z fun b => if yCan (kY S) i b = 0 then .inl eS else r1 S p (nI (dp (neY (kY S) i b) i)) (neY (kY S) i b))) : WPc (d + 20) mX13_moveInto [.ref (rf 11 0), .int x, .int z] M Q := by
  refine WPc.of (by decide +kernel) (Nat.le_of_ble_eq_true rfl) rfl ?_
  refine R.aload_n dX13_moveInto_0 rfl (by first | rfl | exact rfv_rf _) ?_
  refine R.iconst (v := 0) dX13_moveInto_1 rfl ?_
  refine R.putI dX13_moveInto_2 fl_X13_65 (fun q hq => by cases hq; exact Or.inl rfl) (by decide) rfl rfl rfl ?_
  have h1 := h.th 0
  have F1 := Fr_th M 0
  have z1 : mI (sI M 11 0 7 0) 11 0 7 = 0 := th7 M 0
  generalize sI M 11 0 7 0 = M1 at h1 F1 z1 ⊢
  obtain ⟨m, b, hR, hV⟩ := h1.y
  have hL := h1.l
  have hm16 := hV.m16
  have hb6 := hV.b6
  rw [← bW (M := M1) rfl]
  generalize hw : mI M1 14 0 = w at hR ⊢
  cases hx : kC (kY S) x with
  | none =>
    rw [rC_n hx] at hq
    refine R.aload_n dX13_moveInto_5 rfl (by first | rfl | exact rfv_rf _) ?_
    refine R.iload_n dX13_moveInto_6 rfl ?_
    refine cl_X13_395 rfl rfl (by first | exact Nat.le_of_ble_eq_true rfl | simp [rf_cat, Value.category]) dX13_moveInto_7 ?_
    refine m_noCN hL hR hV.f4 hx ?_
    refine R.if_ne (tgt := 43) dX13_moveInto_10 (by decide) (fun _ => ?_) (fun c9 => absurd c9 (by decide))
    refine R.iconst (v := 0) dX13_moveInto_43 rfl ?_
    refine WP.ret (ov := some (.int _)) dX13_moveInto_44 ⟨rfl, _, rfl, by first | rfl | assumption | exact nar_b01 (by assumption)⟩ ?_
    rw [bW (show mI (sI M1 11 0 7 1) 14 0 = w from hw)]
    exact hq _ (h1.th _) ((th7 _ _).trans cdB_I.symm) (F1.tr (Fr_th _ _))
  | some i =>
    rw [rC_s hx] at hq
    obtain ⟨ex, hi⟩ := kC_m hx hm16 hV.f4
    subst ex
    cases hz : kC (kY S) z with
    | none =>
      rw [rC_n hz] at hq
      refine R.aload_n dX13_moveInto_5 rfl (by first | rfl | exact rfv_rf _) ?_
      refine R.iload_n dX13_moveInto_6 rfl ?_
      refine cl_X13_395 rfl rfl (by first | exact Nat.le_of_ble_eq_true rfl | simp [rf_cat, Value.category]) dX13_moveInto_7 ?_
      refine m_noCS hL hR hV.f4 hx ?_
      refine R.if_ne (tgt := 43) dX13_moveInto_10 (by decide) (fun c9 => absurd (rfl) c9) (fun _ => ?_)
      refine R.aload_n dX13_moveInto_13 rfl (by first | rfl | exact rfv_rf _) ?_
      refine R.iload_n dX13_moveInto_14 rfl ?_
      refine cl_X13_395 rfl rfl (by first | exact Nat.le_of_ble_eq_true rfl | simp [rf_cat, Value.category]) dX13_moveInto_15 ?_
      refine m_noCN hL hR hV.f4 hz ?_
      refine R.if_ne (tgt := 43) dX13_moveInto_18 (by decide) (fun _ => ?_) (fun c9 => absurd c9 (by decide))
      refine R.iconst (v := 0) dX13_moveInto_43 rfl ?_
      refine WP.ret (ov := some (.int _)) dX13_moveInto_44 ⟨rfl, _, rfl, by first | rfl | assumption | exact nar_b01 (by assumption)⟩ ?_
      rw [bW (show mI (sI M1 11 0 7 1) 14 0 = w from hw)]
      exact hq _ (h1.th _) ((th7 _ _).trans cdB_I.symm) (F1.tr (Fr_th _ _))
    | some j =>
      rw [rC_s hz] at hq
      obtain ⟨ez, hj⟩ := kC_m hz hm16 hV.f4
      subst ez
      by_cases hm : yCan (kY S) i j = 0
      · simp only [if_pos hm] at hq
        refine R.aload_n dX13_moveInto_5 rfl (by first | rfl | exact rfv_rf _) ?_
        refine R.iload_n dX13_moveInto_6 rfl ?_
        refine cl_X13_395 rfl rfl (by first | exact Nat.le_of_ble_eq_true rfl | simp [rf_cat, Value.category]) dX13_moveInto_7 ?_
        refine m_noCS hL hR hV.f4 hx ?_
        refine R.if_ne (tgt := 43) dX13_moveInto_10 (by decide) (fun c9 => absurd (rfl) c9) (fun _ => ?_)
        refine R.aload_n dX13_moveInto_13 rfl (by first | rfl | exact rfv_rf _) ?_
        refine R.iload_n dX13_moveInto_14 rfl ?_
        refine cl_X13_395 rfl rfl (by first | exact Nat.le_of_ble_eq_true rfl | simp [rf_cat, Value.category]) dX13_moveInto_15 ?_
        refine m_noCS hL hR hV.f4 hz ?_
        refine R.if_ne (tgt := 43) dX13_moveInto_18 (by decide) (fun c9 => absurd (rfl) c9) (fun _ => ?_)
        refine R.aload_n dX13_moveInto_21 rfl (by first | rfl | exact rfv_rf _) ?_
        refine R.aload_n dX13_moveInto_22 rfl (by first | rfl | exact rfv_rf _) ?_
        refine R.iload_n dX13_moveInto_23 rfl ?_
        refine R.iload_n dX13_moveInto_24 rfl ?_
        refine cl_X13_361 rfl rfl (by first | exact Nat.le_of_ble_eq_true rfl | simp [rf_cat, Value.category]) dX13_moveInto_25 ?_
        refine m_mayMove (d := d + 10) hL hR hi hj hV.acy ?_
        refine R.if_ne (tgt := 35) dX13_moveInto_28 (by decide) (fun c9 => absurd (hm) c9) (fun _ => ?_)
        refine R.iconst (v := 1) dX13_moveInto_31 rfl ?_
        refine R.goto (tgt := 36) dX13_moveInto_32 (by decide) ?_
        refine R.iconst (v := 2) dX13_moveInto_36 rfl ?_
        refine cl_X13_391 rfl rfl (by first | exact Nat.le_of_ble_eq_true rfl | simp [rf_cat, Value.category]) dX13_moveInto_37 ?_
        refine m_fail1 ?_
        rw [sI_sWf M1 w 0 7 2 (by decide)]
        refine R.if_eq (tgt := 45) dX13_moveInto_40 (by decide) (fun c9 => absurd c9 (by decide)) (fun _ => ?_)
        refine R.iconst (v := 0) dX13_moveInto_43 rfl ?_
        refine WP.ret (ov := some (.int _)) dX13_moveInto_44 ⟨rfl, _, rfl, by first | rfl | assumption | exact nar_b01 (by assumption)⟩ ?_
        rw [bW (show mI (sI M1 11 0 7 2) 14 0 = w from hw)]
        exact hq _ (h1.th _) ((th7 _ _).trans cdB_S.symm) (F1.tr (Fr_th _ _))
      · simp only [if_neg hm] at hq
        obtain ⟨q1, q2, q3, q4⟩ := (can_iff (o := j) hV.acy (show i < 16 by omega)).mp hm
        have hA2 : Acy (neY (kY S) i j) := acy_can hV.acy (by omega) (by omega) q3 q4
        have hA0 : Acy (neY0 (kY S) i j) := acy_eq (by rw [yP_neY0, yP_neY]) hA2
        obtain ⟨s1, s2, s3, s4⟩ := aw_st 5 (kY S) (yP (kY S) i) (-(yC (kY S) i 4))
        obtain ⟨t, t1, t2, t3, t4⟩ := hV.s
        have hF : ∃ f, yF (awO 5 (kY S) (yP (kY S) i) (- (yC (kY S) i 4))) 8 = nI f ∧ f < 2 ^ 31 - 1 := ⟨t, by rw [s2]; exact t2, by omega⟩
        have hb9 : ∀ k, k < 16 → yP (awO 5 (kY S) (yP (kY S) i) (- (yC (kY S) i 4))) k ≠ none → (yC (awO 5 (kY S) (yP (kY S) i) (- (yC (kY S) i 4))) k 6).toInt ≤ (yF (awO 5 (kY S) (yP (kY S) i) (- (yC (kY S) i 4))) 8).toInt := fun k hk _ => by
          obtain ⟨s, u1, u2, u3⟩ := t3 k hk
          rw [s2, t2, y7_awO _ _ _ _ _ _ (by omega), u2, nI_toInt (by omega), nI_toInt (by omega)]
          omega
        refine R.aload_n dX13_moveInto_5 rfl (by first | rfl | exact rfv_rf _) ?_
        refine R.iload_n dX13_moveInto_6 rfl ?_
        refine cl_X13_395 rfl rfl (by first | exact Nat.le_of_ble_eq_true rfl | simp [rf_cat, Value.category]) dX13_moveInto_7 ?_
        refine m_noCS hL hR hV.f4 hx ?_
        refine R.if_ne (tgt := 43) dX13_moveInto_10 (by decide) (fun c9 => absurd (rfl) c9) (fun _ => ?_)
        refine R.aload_n dX13_moveInto_13 rfl (by first | rfl | exact rfv_rf _) ?_
        refine R.iload_n dX13_moveInto_14 rfl ?_
        refine cl_X13_395 rfl rfl (by first | exact Nat.le_of_ble_eq_true rfl | simp [rf_cat, Value.category]) dX13_moveInto_15 ?_
        refine m_noCS hL hR hV.f4 hz ?_
        refine R.if_ne (tgt := 43) dX13_moveInto_18 (by decide) (fun c9 => absurd (rfl) c9) (fun _ => ?_)
        refine R.aload_n dX13_moveInto_21 rfl (by first | rfl | exact rfv_rf _) ?_
        refine R.aload_n dX13_moveInto_22 rfl (by first | rfl | exact rfv_rf _) ?_
        refine R.iload_n dX13_moveInto_23 rfl ?_
        refine R.iload_n dX13_moveInto_24 rfl ?_
        refine cl_X13_361 rfl rfl (by first | exact Nat.le_of_ble_eq_true rfl | simp [rf_cat, Value.category]) dX13_moveInto_25 ?_
        refine m_mayMove (d := d + 10) hL hR hi hj hV.acy ?_
        refine R.if_ne (tgt := 35) dX13_moveInto_28 (by decide) (fun _ => ?_) (fun c9 => absurd c9 (hm))
        refine R.iconst (v := 0) dX13_moveInto_35 rfl ?_
        refine R.iconst (v := 2) dX13_moveInto_36 rfl ?_
        refine cl_X13_391 rfl rfl (by first | exact Nat.le_of_ble_eq_true rfl | simp [rf_cat, Value.category]) dX13_moveInto_37 ?_
        refine m_fail0 ?_
        refine R.if_eq (tgt := 45) dX13_moveInto_40 (by decide) (fun _ => ?_) (fun c9 => absurd (rfl) c9)
        refine R.aload_n dX13_moveInto_45 rfl (by first | rfl | exact rfv_rf _) ?_
        refine cl_X13_385 rfl rfl (by first | exact Nat.le_of_ble_eq_true rfl | simp [rf_cat, Value.category]) dX13_moveInto_46 ?_
        rw [bW hw]
        refine m_remb h1 (fun M2 h2 e2 t2 F2 X2 => ?_)
        rw [← bW (M := M2) (e2.trans hw)]
        have hL2 := h2.l
        refine R.aload_n dX13_moveInto_49 rfl (by first | rfl | exact rfv_rf _) ?_
        refine R.iload_n dX13_moveInto_50 rfl ?_
        refine R.iload_n dX13_moveInto_51 rfl ?_
        refine cl_X13_364 rfl rfl (by first | exact Nat.le_of_ble_eq_true rfl | simp [rf_cat, Value.category]) dX13_moveInto_52 ?_
        refine m_moves (d := d + 16) hL2 hR hi hj hV.acy hA0 hF hb9 (by omega) (fun w3 hR3 => ?_)
        refine WP.ret (ov := some (.int _)) dX13_moveInto_55 ⟨rfl, _, rfl, by first | rfl | assumption | exact nar_b01 (by assumption)⟩ ?_
        exact hq _ (h2.sw (T' := T + 1) ⟨m, b, hR3, hV.ne (by omega) hi hj hA2⟩ (Nat.le_succ T)) ((th_sW _ _).trans (t2.trans z1)) (F1.tr (F2.tr (Fr_sW9 _ _)))
set_option maxHeartbeats 2000000 in
set_option maxRecDepth 4000 in
theorem n_sell {d T : Nat} {S : KS} {M : Mem} {Q : Out → Mem → Prop} {p : Nat} {x z : Int32} (h : MSt M S T) (hT : T ≤ 57000) (hq : QMr Q M S T cdB (rC S x fun i => rU S z fun b => if yRef (kY S) i b = 0 then r1 S p (yPrice (kY S) i - fRefund (yB (kY S) b 3) (yErr (kY S) i)) (trY (kY S) i b) else .inl eS)) : WPc (d + 20) mX13_sell [.ref (rf 11 0), .int x, .int z] M Q := by
  refine WPc.of (by decide +kernel) (Nat.le_of_ble_eq_true rfl) rfl ?_
  refine R.aload_n dX13_sell_0 rfl (by first | rfl | exact rfv_rf _) ?_
  refine R.iconst (v := 0) dX13_sell_1 rfl ?_
  refine R.putI dX13_sell_2 fl_X13_65 (fun q hq => by cases hq; exact Or.inl rfl) (by decide) rfl rfl rfl ?_
  have h1 := h.th 0
  have F1 := Fr_th M 0
  have z1 : mI (sI M 11 0 7 0) 11 0 7 = 0 := th7 M 0
  generalize sI M 11 0 7 0 = M1 at h1 F1 z1 ⊢
  obtain ⟨m, b, hR, hV⟩ := h1.y
  have hL := h1.l
  have hm16 := hV.m16
  have hb6 := hV.b6
  rw [← bW (M := M1) rfl]
  generalize hw : mI M1 14 0 = w at hR ⊢
  cases hx : kC (kY S) x with
  | none =>
    rw [rC_n hx] at hq
    refine R.aload_n dX13_sell_5 rfl (by first | rfl | exact rfv_rf _) ?_
    refine R.iload_n dX13_sell_6 rfl ?_
    refine cl_X13_395 rfl rfl (by first | exact Nat.le_of_ble_eq_true rfl | simp [rf_cat, Value.category]) dX13_sell_7 ?_
    refine m_noCN hL hR hV.f4 hx ?_
    refine R.if_ne (tgt := 43) dX13_sell_10 (by decide) (fun _ => ?_) (fun c9 => absurd c9 (by decide))
    refine R.iconst (v := 0) dX13_sell_43 rfl ?_
    refine WP.ret (ov := some (.int _)) dX13_sell_44 ⟨rfl, _, rfl, by first | rfl | assumption | exact nar_b01 (by assumption)⟩ ?_
    rw [bW (show mI (sI M1 11 0 7 1) 14 0 = w from hw)]
    exact hq _ (h1.th _) ((th7 _ _).trans cdB_I.symm) (F1.tr (Fr_th _ _))
  | some i =>
    rw [rC_s hx] at hq
    obtain ⟨ex, hi⟩ := kC_m hx hm16 hV.f4
    subst ex
    cases hz : kU (kY S) z with
    | none =>
      rw [rU_n hz] at hq
      refine R.aload_n dX13_sell_5 rfl (by first | rfl | exact rfv_rf _) ?_
      refine R.iload_n dX13_sell_6 rfl ?_
      refine cl_X13_395 rfl rfl (by first | exact Nat.le_of_ble_eq_true rfl | simp [rf_cat, Value.category]) dX13_sell_7 ?_
      refine m_noCS hL hR hV.f4 hx ?_
      refine R.if_ne (tgt := 43) dX13_sell_10 (by decide) (fun c9 => absurd (rfl) c9) (fun _ => ?_)
      refine R.aload_n dX13_sell_13 rfl (by first | rfl | exact rfv_rf _) ?_
      refine R.iload_n dX13_sell_14 rfl ?_
      refine cl_X13_398 rfl rfl (by first | exact Nat.le_of_ble_eq_true rfl | simp [rf_cat, Value.category]) dX13_sell_15 ?_
      refine m_noBN hL hR hV.f5 hz ?_
      refine R.if_ne (tgt := 43) dX13_sell_18 (by decide) (fun _ => ?_) (fun c9 => absurd c9 (by decide))
      refine R.iconst (v := 0) dX13_sell_43 rfl ?_
      refine WP.ret (ov := some (.int _)) dX13_sell_44 ⟨rfl, _, rfl, by first | rfl | assumption | exact nar_b01 (by assumption)⟩ ?_
      rw [bW (show mI (sI M1 11 0 7 1) 14 0 = w from hw)]
      exact hq _ (h1.th _) ((th7 _ _).trans cdB_I.symm) (F1.tr (Fr_th _ _))
    | some j =>
      rw [rU_s hz] at hq
      obtain ⟨ez, hj⟩ := kU_m hz hb6 hV.f5
      subst ez
      by_cases e0 : yRef (kY S) i j = 0
      · simp only [if_pos e0] at hq
        refine R.aload_n dX13_sell_5 rfl (by first | rfl | exact rfv_rf _) ?_
        refine R.iload_n dX13_sell_6 rfl ?_
        refine cl_X13_395 rfl rfl (by first | exact Nat.le_of_ble_eq_true rfl | simp [rf_cat, Value.category]) dX13_sell_7 ?_
        refine m_noCS hL hR hV.f4 hx ?_
        refine R.if_ne (tgt := 43) dX13_sell_10 (by decide) (fun c9 => absurd (rfl) c9) (fun _ => ?_)
        refine R.aload_n dX13_sell_13 rfl (by first | rfl | exact rfv_rf _) ?_
        refine R.iload_n dX13_sell_14 rfl ?_
        refine cl_X13_398 rfl rfl (by first | exact Nat.le_of_ble_eq_true rfl | simp [rf_cat, Value.category]) dX13_sell_15 ?_
        refine m_noBS hL hR hV.f5 hz ?_
        refine R.if_ne (tgt := 43) dX13_sell_18 (by decide) (fun c9 => absurd (rfl) c9) (fun _ => ?_)
        refine R.aload_n dX13_sell_21 rfl (by first | rfl | exact rfv_rf _) ?_
        refine R.aload_n dX13_sell_22 rfl (by first | rfl | exact rfv_rf _) ?_
        refine R.iload_n dX13_sell_23 rfl ?_
        refine R.iload_n dX13_sell_24 rfl ?_
        refine cl_X13_160 rfl rfl (by first | exact Nat.le_of_ble_eq_true rfl | simp [rf_cat, Value.category]) dX13_sell_25 ?_
        refine m_refuses (d := d + 16) hL hR hi (hV.mo (by omega) (by omega)) hV.r6 hj ?_
        rw [e0]
        refine R.if_eq (tgt := 35) dX13_sell_28 (by decide) (fun _ => ?_) (fun c9 => absurd (rfl) c9)
        refine R.iconst (v := 0) dX13_sell_35 rfl ?_
        refine R.iconst (v := 2) dX13_sell_36 rfl ?_
        refine cl_X13_391 rfl rfl (by first | exact Nat.le_of_ble_eq_true rfl | simp [rf_cat, Value.category]) dX13_sell_37 ?_
        refine m_fail0 ?_
        refine R.if_eq (tgt := 45) dX13_sell_40 (by decide) (fun _ => ?_) (fun c9 => absurd (rfl) c9)
        refine R.aload_n dX13_sell_45 rfl (by first | rfl | exact rfv_rf _) ?_
        refine cl_X13_385 rfl rfl (by first | exact Nat.le_of_ble_eq_true rfl | simp [rf_cat, Value.category]) dX13_sell_46 ?_
        rw [bW hw]
        refine m_remb h1 (fun M2 h2 e2 t2 F2 X2 => ?_)
        rw [← bW (M := M2) (e2.trans hw)]
        have hL2 := h2.l
        refine R.aload_n dX13_sell_49 rfl (by first | rfl | exact rfv_rf _) ?_
        refine R.iload_n dX13_sell_50 rfl ?_
        refine R.iload_n dX13_sell_51 rfl ?_
        refine cl_X13_376 rfl rfl (by first | exact Nat.le_of_ble_eq_true rfl | simp [rf_cat, Value.category]) dX13_sell_52 ?_
        refine m_sells (d := d + 7) hL2 hR hi hV.l hV.acy (hV.mo (by omega) (by omega)) (ref_p hV.r6 e0) hj (fun w3 hR3 => ?_)
        refine WP.ret (ov := some (.int _)) dX13_sell_55 ⟨rfl, _, rfl, by first | rfl | assumption | exact nar_b01 (by assumption)⟩ ?_
        exact hq _ (h2.sw (T' := T + 1) ⟨m, b, hR3.mono (Nat.le_succ T), (hV.tr hj).mono (Nat.le_succ T)⟩ (Nat.le_succ T)) ((th_sW _ _).trans (t2.trans z1)) (F1.tr (F2.tr (Fr_sW9 _ _)))
      · simp only [if_neg e0] at hq
        refine R.aload_n dX13_sell_5 rfl (by first | rfl | exact rfv_rf _) ?_
        refine R.iload_n dX13_sell_6 rfl ?_
        refine cl_X13_395 rfl rfl (by first | exact Nat.le_of_ble_eq_true rfl | simp [rf_cat, Value.category]) dX13_sell_7 ?_
        refine m_noCS hL hR hV.f4 hx ?_
        refine R.if_ne (tgt := 43) dX13_sell_10 (by decide) (fun c9 => absurd (rfl) c9) (fun _ => ?_)
        refine R.aload_n dX13_sell_13 rfl (by first | rfl | exact rfv_rf _) ?_
        refine R.iload_n dX13_sell_14 rfl ?_
        refine cl_X13_398 rfl rfl (by first | exact Nat.le_of_ble_eq_true rfl | simp [rf_cat, Value.category]) dX13_sell_15 ?_
        refine m_noBS hL hR hV.f5 hz ?_
        refine R.if_ne (tgt := 43) dX13_sell_18 (by decide) (fun c9 => absurd (rfl) c9) (fun _ => ?_)
        refine R.aload_n dX13_sell_21 rfl (by first | rfl | exact rfv_rf _) ?_
        refine R.aload_n dX13_sell_22 rfl (by first | rfl | exact rfv_rf _) ?_
        refine R.iload_n dX13_sell_23 rfl ?_
        refine R.iload_n dX13_sell_24 rfl ?_
        refine cl_X13_160 rfl rfl (by first | exact Nat.le_of_ble_eq_true rfl | simp [rf_cat, Value.category]) dX13_sell_25 ?_
        refine m_refuses (d := d + 16) hL hR hi (hV.mo (by omega) (by omega)) hV.r6 hj ?_
        refine R.if_eq (tgt := 35) dX13_sell_28 (by decide) (fun c9 => absurd c9 (e0)) (fun _ => ?_)
        refine R.iconst (v := 1) dX13_sell_31 rfl ?_
        refine R.goto (tgt := 36) dX13_sell_32 (by decide) ?_
        refine R.iconst (v := 2) dX13_sell_36 rfl ?_
        refine cl_X13_391 rfl rfl (by first | exact Nat.le_of_ble_eq_true rfl | simp [rf_cat, Value.category]) dX13_sell_37 ?_
        refine m_fail1 ?_
        rw [sI_sWf M1 w 0 7 2 (by decide)]
        refine R.if_eq (tgt := 45) dX13_sell_40 (by decide) (fun c9 => absurd c9 (by decide)) (fun _ => ?_)
        refine R.iconst (v := 0) dX13_sell_43 rfl ?_
        refine WP.ret (ov := some (.int _)) dX13_sell_44 ⟨rfl, _, rfl, by first | rfl | assumption | exact nar_b01 (by assumption)⟩ ?_
        rw [bW (show mI (sI M1 11 0 7 2) 14 0 = w from hw)]
        exact hq _ (h1.th _) ((th7 _ _).trans cdB_S.symm) (F1.tr (Fr_th _ _))
set_option maxHeartbeats 2000000 in
set_option maxRecDepth 4000 in
theorem n_replaceSpring {d T : Nat} {S : KS} {M : Mem} {Q : Out → Mem → Prop} {p : Nat} (h : MSt M S T) (hT : T ≤ 57000) (hq : QMr Q M S T cdA (r1 S p (yS (kY S) 3) (spY (kY S)))) : WPc (d + 20) mX13_replaceSpring [.ref (rf 11 0)] M Q := by
  refine WPc.of (by decide +kernel) (Nat.le_of_ble_eq_true rfl) rfl ?_
  refine R.aload_n dX13_replaceSpring_0 rfl (by first | rfl | exact rfv_rf _) ?_
  refine R.iconst (v := 0) dX13_replaceSpring_1 rfl ?_
  refine R.putI dX13_replaceSpring_2 fl_X13_65 (fun q hq => by cases hq; exact Or.inl rfl) (by decide) rfl rfl rfl ?_
  have h1 := h.th 0
  have F1 := Fr_th M 0
  have z1 : mI (sI M 11 0 7 0) 11 0 7 = 0 := th7 M 0
  generalize sI M 11 0 7 0 = M1 at h1 F1 z1 ⊢
  obtain ⟨m, b, hR, hV⟩ := h1.y
  have hL := h1.l
  have hm16 := hV.m16
  have hb6 := hV.b6
  rw [← bW (M := M1) rfl]
  generalize hw : mI M1 14 0 = w at hR ⊢
  refine R.aload_n dX13_replaceSpring_5 rfl (by first | rfl | exact rfv_rf _) ?_
  refine cl_X13_385 rfl rfl (by first | exact Nat.le_of_ble_eq_true rfl | simp [rf_cat, Value.category]) dX13_replaceSpring_6 ?_
  rw [bW hw]
  refine m_remb h1 (fun M2 h2 e2 t2 F2 X2 => ?_)
  rw [← bW (M := M2) (e2.trans hw)]
  have hL2 := h2.l
  refine R.aload_n dX13_replaceSpring_9 rfl (by first | rfl | exact rfv_rf _) ?_
  refine cl_X13_373 rfl rfl (by first | exact Nat.le_of_ble_eq_true rfl | simp [rf_cat, Value.category]) dX13_replaceSpring_10 ?_
  refine m_repl hL2 hR (fun w3 hR3 => ?_)
  refine WP.ret (ov := some (.int _)) dX13_replaceSpring_13 ⟨rfl, _, rfl, by first | rfl | assumption | exact nar_b01 (by assumption)⟩ ?_
  exact hq _ (h2.sw (T' := T + 1) ⟨m, b, hR3.mono (Nat.le_succ T), hV.sp.mono (Nat.le_succ T)⟩ (Nat.le_succ T)) ((th_sW _ _).trans (t2.trans z1)) (F1.tr (F2.tr (Fr_sW9 _ _)))
set_option maxHeartbeats 2000000 in
set_option maxRecDepth 4000 in
theorem n_setAmplitude {d T : Nat} {S : KS} {M : Mem} {Q : Out → Mem → Prop} {p : Nat} {x : Int32} (h : MSt M S T) (hT : T ≤ 57000) (hq : QMr Q M S T cdA (if 0 ≤ x ∧ x ≤ 50 then r1 S p (yS (kY S) 1) (uS (kY S) 1 x) else .inl eA)) : WPc (d + 20) mX13_setAmplitude [.ref (rf 11 0), .int x] M Q := by
  refine WPc.of (by decide +kernel) (Nat.le_of_ble_eq_true rfl) rfl ?_
  refine R.aload_n dX13_setAmplitude_0 rfl (by first | rfl | exact rfv_rf _) ?_
  refine R.iconst (v := 0) dX13_setAmplitude_1 rfl ?_
  refine R.putI dX13_setAmplitude_2 fl_X13_65 (fun q hq => by cases hq; exact Or.inl rfl) (by decide) rfl rfl rfl ?_
  have h1 := h.th 0
  have F1 := Fr_th M 0
  have z1 : mI (sI M 11 0 7 0) 11 0 7 = 0 := th7 M 0
  generalize sI M 11 0 7 0 = M1 at h1 F1 z1 ⊢
  obtain ⟨m, b, hR, hV⟩ := h1.y
  have hL := h1.l
  have hm16 := hV.m16
  have hb6 := hV.b6
  rw [← bW (M := M1) rfl]
  generalize hw : mI M1 14 0 = w at hR ⊢
  by_cases hr : 0 ≤ x ∧ x ≤ 50
  · rw [if_pos hr] at hq
    obtain ⟨j, hj, ex⟩ := nI_of (x := x) (fun q => absurd (Int32.le_trans (show (0 : Int32) ≤ 0 by decide) hr.1) (i_nle q))
    have l1 : 0 ≤ j := (nI_leI (by omega) hj).mp (by rw [← ex]; exact hr.1)
    have l2 : j ≤ 50 := (nI_leI hj (by omega)).mp (by rw [← ex]; exact hr.2)
    subst ex
    refine R.aload_n dX13_setAmplitude_5 rfl (by first | rfl | exact rfv_rf _) ?_
    refine R.iload_n dX13_setAmplitude_6 rfl ?_
    refine R.iconst (v := 0) dX13_setAmplitude_7 rfl ?_
    refine R.bipush (v := 50) dX13_setAmplitude_8 (by decide) ?_
    refine cl_X13_140 rfl rfl (by first | exact Nat.le_of_ble_eq_true rfl | simp [rf_cat, Value.category]) dX13_setAmplitude_10 ?_
    refine m_inR ?_
    rw [if_pos hr]
    refine R.if_ne (tgt := 20) dX13_setAmplitude_13 (by decide) (fun _ => ?_) (fun c9 => absurd c9 (by decide))
    refine R.iconst (v := 0) dX13_setAmplitude_20 rfl ?_
    refine R.iconst (v := 1) dX13_setAmplitude_21 rfl ?_
    refine cl_X13_391 rfl rfl (by first | exact Nat.le_of_ble_eq_true rfl | simp [rf_cat, Value.category]) dX13_setAmplitude_22 ?_
    refine m_fail0 ?_
    refine R.if_eq (tgt := 30) dX13_setAmplitude_25 (by decide) (fun _ => ?_) (fun c9 => absurd (rfl) c9)
    refine R.aload_n dX13_setAmplitude_30 rfl (by first | rfl | exact rfv_rf _) ?_
    refine cl_X13_385 rfl rfl (by first | exact Nat.le_of_ble_eq_true rfl | simp [rf_cat, Value.category]) dX13_setAmplitude_31 ?_
    rw [bW hw]
    refine m_remb h1 (fun M2 h2 e2 t2 F2 X2 => ?_)
    rw [← bW (M := M2) (e2.trans hw)]
    have hL2 := h2.l
    refine R.aload_n dX13_setAmplitude_34 rfl (by first | rfl | exact rfv_rf _) ?_
    refine R.iconst (v := nI 2) dX13_setAmplitude_35 rfl ?_
    refine R.iload_n dX13_setAmplitude_36 rfl ?_
    refine cl_X13_379 rfl rfl (by first | exact Nat.le_of_ble_eq_true rfl | simp [rf_cat, Value.category]) dX13_setAmplitude_37 ?_
    refine m_set_amp hL2 hR (fun w3 hR3 => ?_)
    refine WP.ret (ov := some (.int _)) dX13_setAmplitude_40 ⟨rfl, _, rfl, by first | rfl | assumption | exact nar_b01 (by assumption)⟩ ?_
    exact hq _ (h2.sw (T' := T + 1) ⟨m, b, hR3.mono (Nat.le_succ T), (PV.am hV l2).mono (Nat.le_succ T)⟩ (Nat.le_succ T)) ((th_sW _ _).trans (t2.trans z1)) (F1.tr (F2.tr (Fr_sW9 _ _)))
  · rw [if_neg hr] at hq
    refine R.aload_n dX13_setAmplitude_5 rfl (by first | rfl | exact rfv_rf _) ?_
    refine R.iload_n dX13_setAmplitude_6 rfl ?_
    refine R.iconst (v := 0) dX13_setAmplitude_7 rfl ?_
    refine R.bipush (v := 50) dX13_setAmplitude_8 (by decide) ?_
    refine cl_X13_140 rfl rfl (by first | exact Nat.le_of_ble_eq_true rfl | simp [rf_cat, Value.category]) dX13_setAmplitude_10 ?_
    refine m_inR ?_
    rw [if_neg hr]
    refine R.if_ne (tgt := 20) dX13_setAmplitude_13 (by decide) (fun c9 => absurd (rfl) c9) (fun _ => ?_)
    refine R.iconst (v := 1) dX13_setAmplitude_16 rfl ?_
    refine R.goto (tgt := 21) dX13_setAmplitude_17 (by decide) ?_
    refine R.iconst (v := 1) dX13_setAmplitude_21 rfl ?_
    refine cl_X13_391 rfl rfl (by first | exact Nat.le_of_ble_eq_true rfl | simp [rf_cat, Value.category]) dX13_setAmplitude_22 ?_
    refine m_fail1 ?_
    rw [sI_sWf M1 w 0 7 1 (by decide)]
    refine R.if_eq (tgt := 30) dX13_setAmplitude_25 (by decide) (fun c9 => absurd c9 (by decide)) (fun _ => ?_)
    refine R.iconst (v := 0) dX13_setAmplitude_28 rfl ?_
    refine WP.ret (ov := some (.int _)) dX13_setAmplitude_29 ⟨rfl, _, rfl, by first | rfl | assumption | exact nar_b01 (by assumption)⟩ ?_
    rw [bW (show mI (sI M1 11 0 7 1) 14 0 = w from hw)]
    exact hq _ (h1.th _) ((th7 _ _).trans rfl) (F1.tr (Fr_th _ _))
set_option maxHeartbeats 2000000 in
set_option maxRecDepth 4000 in
theorem n_setAging {d T : Nat} {S : KS} {M : Mem} {Q : Out → Mem → Prop} {p : Nat} {x : Int32} (h : MSt M S T) (hT : T ≤ 57000) (hq : QMr Q M S T cdA (if 1 ≤ x ∧ x ≤ 100 then r1 S p (yS (kY S) 2) (uS (kY S) 2 x) else .inl eA)) : WPc (d + 20) mX13_setAging [.ref (rf 11 0), .int x] M Q := by
  refine WPc.of (by decide +kernel) (Nat.le_of_ble_eq_true rfl) rfl ?_
  refine R.aload_n dX13_setAging_0 rfl (by first | rfl | exact rfv_rf _) ?_
  refine R.iconst (v := 0) dX13_setAging_1 rfl ?_
  refine R.putI dX13_setAging_2 fl_X13_65 (fun q hq => by cases hq; exact Or.inl rfl) (by decide) rfl rfl rfl ?_
  have h1 := h.th 0
  have F1 := Fr_th M 0
  have z1 : mI (sI M 11 0 7 0) 11 0 7 = 0 := th7 M 0
  generalize sI M 11 0 7 0 = M1 at h1 F1 z1 ⊢
  obtain ⟨m, b, hR, hV⟩ := h1.y
  have hL := h1.l
  have hm16 := hV.m16
  have hb6 := hV.b6
  rw [← bW (M := M1) rfl]
  generalize hw : mI M1 14 0 = w at hR ⊢
  by_cases hr : 1 ≤ x ∧ x ≤ 100
  · rw [if_pos hr] at hq
    obtain ⟨j, hj, ex⟩ := nI_of (x := x) (fun q => absurd (Int32.le_trans (show (0 : Int32) ≤ 1 by decide) hr.1) (i_nle q))
    have l1 : 1 ≤ j := (nI_leI (by omega) hj).mp (by rw [← ex]; exact hr.1)
    have l2 : j ≤ 100 := (nI_leI hj (by omega)).mp (by rw [← ex]; exact hr.2)
    subst ex
    refine R.aload_n dX13_setAging_5 rfl (by first | rfl | exact rfv_rf _) ?_
    refine R.iload_n dX13_setAging_6 rfl ?_
    refine R.iconst (v := 1) dX13_setAging_7 rfl ?_
    refine R.bipush (v := 100) dX13_setAging_8 (by decide) ?_
    refine cl_X13_140 rfl rfl (by first | exact Nat.le_of_ble_eq_true rfl | simp [rf_cat, Value.category]) dX13_setAging_10 ?_
    refine m_inR ?_
    rw [if_pos hr]
    refine R.if_ne (tgt := 20) dX13_setAging_13 (by decide) (fun _ => ?_) (fun c9 => absurd c9 (by decide))
    refine R.iconst (v := 0) dX13_setAging_20 rfl ?_
    refine R.iconst (v := 1) dX13_setAging_21 rfl ?_
    refine cl_X13_391 rfl rfl (by first | exact Nat.le_of_ble_eq_true rfl | simp [rf_cat, Value.category]) dX13_setAging_22 ?_
    refine m_fail0 ?_
    refine R.if_eq (tgt := 30) dX13_setAging_25 (by decide) (fun _ => ?_) (fun c9 => absurd (rfl) c9)
    refine R.aload_n dX13_setAging_30 rfl (by first | rfl | exact rfv_rf _) ?_
    refine cl_X13_385 rfl rfl (by first | exact Nat.le_of_ble_eq_true rfl | simp [rf_cat, Value.category]) dX13_setAging_31 ?_
    rw [bW hw]
    refine m_remb h1 (fun M2 h2 e2 t2 F2 X2 => ?_)
    rw [← bW (M := M2) (e2.trans hw)]
    have hL2 := h2.l
    refine R.aload_n dX13_setAging_34 rfl (by first | rfl | exact rfv_rf _) ?_
    refine R.iconst (v := nI 4) dX13_setAging_35 rfl ?_
    refine R.iload_n dX13_setAging_36 rfl ?_
    refine cl_X13_379 rfl rfl (by first | exact Nat.le_of_ble_eq_true rfl | simp [rf_cat, Value.category]) dX13_setAging_37 ?_
    refine m_set_aging hL2 hR (fun w3 hR3 => ?_)
    refine WP.ret (ov := some (.int _)) dX13_setAging_40 ⟨rfl, _, rfl, by first | rfl | assumption | exact nar_b01 (by assumption)⟩ ?_
    exact hq _ (h2.sw (T' := T + 1) ⟨m, b, hR3.mono (Nat.le_succ T), (PV.ag hV l1 l2).mono (Nat.le_succ T)⟩ (Nat.le_succ T)) ((th_sW _ _).trans (t2.trans z1)) (F1.tr (F2.tr (Fr_sW9 _ _)))
  · rw [if_neg hr] at hq
    refine R.aload_n dX13_setAging_5 rfl (by first | rfl | exact rfv_rf _) ?_
    refine R.iload_n dX13_setAging_6 rfl ?_
    refine R.iconst (v := 1) dX13_setAging_7 rfl ?_
    refine R.bipush (v := 100) dX13_setAging_8 (by decide) ?_
    refine cl_X13_140 rfl rfl (by first | exact Nat.le_of_ble_eq_true rfl | simp [rf_cat, Value.category]) dX13_setAging_10 ?_
    refine m_inR ?_
    rw [if_neg hr]
    refine R.if_ne (tgt := 20) dX13_setAging_13 (by decide) (fun c9 => absurd (rfl) c9) (fun _ => ?_)
    refine R.iconst (v := 1) dX13_setAging_16 rfl ?_
    refine R.goto (tgt := 21) dX13_setAging_17 (by decide) ?_
    refine R.iconst (v := 1) dX13_setAging_21 rfl ?_
    refine cl_X13_391 rfl rfl (by first | exact Nat.le_of_ble_eq_true rfl | simp [rf_cat, Value.category]) dX13_setAging_22 ?_
    refine m_fail1 ?_
    rw [sI_sWf M1 w 0 7 1 (by decide)]
    refine R.if_eq (tgt := 30) dX13_setAging_25 (by decide) (fun c9 => absurd c9 (by decide)) (fun _ => ?_)
    refine R.iconst (v := 0) dX13_setAging_28 rfl ?_
    refine WP.ret (ov := some (.int _)) dX13_setAging_29 ⟨rfl, _, rfl, by first | rfl | assumption | exact nar_b01 (by assumption)⟩ ?_
    rw [bW (show mI (sI M1 11 0 7 1) 14 0 = w from hw)]
    exact hq _ (h1.th _) ((th7 _ _).trans rfl) (F1.tr (Fr_th _ _))
