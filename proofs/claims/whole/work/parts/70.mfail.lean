/-! the model's refusals of numbers -/
theorem m_fail1 {d : Nat} {x : Int32} {M : Mem} {Q : Out → Mem → Prop} (hq : Q (.inl (some (.int 1))) (sI M 11 0 7 x)) : WPc d mX13_fails [.ref (rf 11 0), .int 1, .int x] M Q := by
  refine WPc.of (by decide +kernel) (Nat.le_of_ble_eq_true rfl) rfl ?_
  refine R.iload_n dX13_fails_0 rfl ?_
  refine R.if_eq (tgt := 9) dX13_fails_1 (by decide) (fun c9 => absurd c9 (by decide)) (fun _ => ?_)
  refine R.aload_n dX13_fails_4 rfl (by first | rfl | exact rfv_rf _) ?_
  refine R.iload_n dX13_fails_5 rfl ?_
  refine R.putI dX13_fails_6 fl_X13_65 (fun q hq => by cases hq; exact Or.inl rfl) (by decide) rfl rfl rfl ?_
  refine R.iload_n dX13_fails_9 rfl ?_
  refine WP.ret (ov := some (.int _)) dX13_fails_10 ⟨rfl, _, rfl, by first | rfl | assumption | exact nar_b01 (by assumption)⟩ ?_
  exact hq
theorem m_fail0 {d : Nat} {x : Int32} {M : Mem} {Q : Out → Mem → Prop} (hq : Q (.inl (some (.int 0))) M) : WPc d mX13_fails [.ref (rf 11 0), .int 0, .int x] M Q := by
  refine WPc.of (by decide +kernel) (Nat.le_of_ble_eq_true rfl) rfl ?_
  refine R.iload_n dX13_fails_0 rfl ?_
  refine R.if_eq (tgt := 9) dX13_fails_1 (by decide) (fun _ => ?_) (fun c9 => absurd (rfl) c9)
  refine R.iload_n dX13_fails_9 rfl ?_
  refine WP.ret (ov := some (.int _)) dX13_fails_10 ⟨rfl, _, rfl, by first | rfl | assumption | exact nar_b01 (by assumption)⟩ ?_
  exact hq
theorem m1_toInt {m : Nat} (hm : m < 2 ^ 31) : (nI m - 1).toInt = (m : Int) - 1 := by
  rw [Int32.toInt_sub, nI_toInt hm, show (1 : Int32).toInt = 1 by decide]
  rw [Int.bmod_eq_of_le] <;> omega
theorem rg_iff {x : Int32} {m : Nat} (hm : m ≤ 16) : (0 ≤ x ∧ x ≤ nI m - 1) ↔ ¬ (x < 0 ∨ nI m ≤ x ∨ 16 ≤ x) := by
  rw [Int32.le_iff_toInt_le, Int32.le_iff_toInt_le, Int32.lt_iff_toInt_lt, Int32.le_iff_toInt_le, Int32.le_iff_toInt_le, m1_toInt (by omega), nI_toInt (by omega), show (0 : Int32).toInt = 0 by decide, show (16 : Int32).toInt = 16 by decide]
  omega
theorem rg_iff6 {x : Int32} {m : Nat} (hm : m ≤ 6) : (0 ≤ x ∧ x ≤ nI m - 1) ↔ ¬ (x < 0 ∨ nI m ≤ x ∨ 6 ≤ x) := by
  rw [Int32.le_iff_toInt_le, Int32.le_iff_toInt_le, Int32.lt_iff_toInt_lt, Int32.le_iff_toInt_le, Int32.le_iff_toInt_le, m1_toInt (by omega), nI_toInt (by omega), show (0 : Int32).toInt = 0 by decide, show (6 : Int32).toInt = 6 by decide]
  omega
set_option maxHeartbeats 1000000 in
set_option maxRecDepth 4000 in
theorem m_noCN {d : Nat} {w : Nat → Int32} {M : Mem} {Q : Out → Mem → Prop} {b K m : Nat} {Y : Yd} {x : Int32} (hL : ML M) (h : RW Y m b K w) (hb4 : yF Y 4 = nI m) (hx : kC Y x = none) (hq : Q (.inl (some (.int 1))) (sW (sI M 11 0 7 1) w)) : WPc (d + 1) mX13_noCrate [.ref (rf 11 0), .int x] (sW M w) Q := by
  refine WPc.of (by decide +kernel) (Nat.le_of_ble_eq_true rfl) rfl ?_
  have hn : ¬ (0 ≤ x ∧ x ≤ nI m - 1) := fun q => (rg_iff h.t.le).mp q (by have := kC_n hx; rw [hb4] at this; exact this)
  refine R.aload_n dX13_noCrate_0 rfl (by first | rfl | exact rfv_rf _) ?_
  refine R.iload_n dX13_noCrate_1 rfl ?_
  refine R.iconst (v := 0) dX13_noCrate_2 rfl ?_
  refine R.aload_n dX13_noCrate_3 rfl (by first | rfl | exact rfv_rf _) ?_
  refine R.getS (hL.w) dX13_noCrate_4 fl_X13_7 (by decide) rfl ?_
  refine R.iconst (v := nI 0) dX13_noCrate_7 rfl ?_
  refine R.ialdN (k := 0) dX13_noCrate_8 (by omega) (by show _ < mN M 14 0; rw [hL.n]; omega) ?_
  rw [mI_sWc]
  rw [h.t.z]
  refine R.iconst (v := 1) dX13_noCrate_9 rfl ?_
  refine R.isub dX13_noCrate_10 ?_
  refine cl_X13_140 rfl rfl (by first | exact Nat.le_of_ble_eq_true rfl | simp [rf_cat, Value.category]) dX13_noCrate_11 ?_
  refine m_inR ?_
  rw [if_neg hn]
  refine R.if_ne (tgt := 21) dX13_noCrate_14 (by decide) (fun c9 => absurd (rfl) c9) (fun _ => ?_)
  refine R.iconst (v := 1) dX13_noCrate_17 rfl ?_
  refine R.goto (tgt := 22) dX13_noCrate_18 (by decide) ?_
  refine R.iconst (v := 1) dX13_noCrate_22 rfl ?_
  refine cl_X13_391 rfl rfl (by first | exact Nat.le_of_ble_eq_true rfl | simp [rf_cat, Value.category]) dX13_noCrate_23 ?_
  refine m_fail1 ?_
  rw [sI_sWf M w 0 7 1 (by decide)]
  refine WP.ret (ov := some (.int _)) dX13_noCrate_26 ⟨rfl, _, rfl, by first | rfl | assumption | exact nar_b01 (by assumption)⟩ ?_
  exact hq
set_option maxHeartbeats 1000000 in
set_option maxRecDepth 4000 in
theorem m_noCS {d : Nat} {w : Nat → Int32} {M : Mem} {Q : Out → Mem → Prop} {b K m i : Nat} {Y : Yd} {x : Int32} (hL : ML M) (h : RW Y m b K w) (hb4 : yF Y 4 = nI m) (hx : kC Y x = some i) (hq : Q (.inl (some (.int 0))) (sW M w)) : WPc (d + 1) mX13_noCrate [.ref (rf 11 0), .int x] (sW M w) Q := by
  refine WPc.of (by decide +kernel) (Nat.le_of_ble_eq_true rfl) rfl ?_
  have hn : 0 ≤ x ∧ x ≤ nI m - 1 := (rg_iff h.t.le).mpr (fun q => by unfold kC at hx; rw [hb4, if_pos q] at hx; cases hx)
  refine R.aload_n dX13_noCrate_0 rfl (by first | rfl | exact rfv_rf _) ?_
  refine R.iload_n dX13_noCrate_1 rfl ?_
  refine R.iconst (v := 0) dX13_noCrate_2 rfl ?_
  refine R.aload_n dX13_noCrate_3 rfl (by first | rfl | exact rfv_rf _) ?_
  refine R.getS (hL.w) dX13_noCrate_4 fl_X13_7 (by decide) rfl ?_
  refine R.iconst (v := nI 0) dX13_noCrate_7 rfl ?_
  refine R.ialdN (k := 0) dX13_noCrate_8 (by omega) (by show _ < mN M 14 0; rw [hL.n]; omega) ?_
  rw [mI_sWc]
  rw [h.t.z]
  refine R.iconst (v := 1) dX13_noCrate_9 rfl ?_
  refine R.isub dX13_noCrate_10 ?_
  refine cl_X13_140 rfl rfl (by first | exact Nat.le_of_ble_eq_true rfl | simp [rf_cat, Value.category]) dX13_noCrate_11 ?_
  refine m_inR ?_
  rw [if_pos hn]
  refine R.if_ne (tgt := 21) dX13_noCrate_14 (by decide) (fun _ => ?_) (fun c9 => absurd c9 (by decide))
  refine R.iconst (v := 0) dX13_noCrate_21 rfl ?_
  refine R.iconst (v := 1) dX13_noCrate_22 rfl ?_
  refine cl_X13_391 rfl rfl (by first | exact Nat.le_of_ble_eq_true rfl | simp [rf_cat, Value.category]) dX13_noCrate_23 ?_
  refine m_fail0 ?_
  refine WP.ret (ov := some (.int _)) dX13_noCrate_26 ⟨rfl, _, rfl, by first | rfl | assumption | exact nar_b01 (by assumption)⟩ ?_
  exact hq
set_option maxHeartbeats 1000000 in
set_option maxRecDepth 4000 in
theorem m_noBN {d : Nat} {w : Nat → Int32} {M : Mem} {Q : Out → Mem → Prop} {b K m : Nat} {Y : Yd} {x : Int32} (hL : ML M) (h : RW Y m b K w) (hb5 : yF Y 5 = nI b) (hx : kU Y x = none) (hq : Q (.inl (some (.int 1))) (sW (sI M 11 0 7 1) w)) : WPc (d + 1) mX13_noBuyer [.ref (rf 11 0), .int x] (sW M w) Q := by
  refine WPc.of (by decide +kernel) (Nat.le_of_ble_eq_true rfl) rfl ?_
  have hn : ¬ (0 ≤ x ∧ x ≤ nI b - 1) := fun q => (rg_iff6 h.bl).mp q (by have := kU_n hx; rw [hb5] at this; exact this)
  refine R.aload_n dX13_noBuyer_0 rfl (by first | rfl | exact rfv_rf _) ?_
  refine R.iload_n dX13_noBuyer_1 rfl ?_
  refine R.iconst (v := 0) dX13_noBuyer_2 rfl ?_
  refine R.aload_n dX13_noBuyer_3 rfl (by first | rfl | exact rfv_rf _) ?_
  refine R.getS (hL.w) dX13_noBuyer_4 fl_X13_7 (by decide) rfl ?_
  refine R.iconst (v := nI 1) dX13_noBuyer_7 rfl ?_
  refine R.ialdN (k := 1) dX13_noBuyer_8 (by omega) (by show _ < mN M 14 0; rw [hL.n]; omega) ?_
  rw [mI_sWc]
  rw [h.h.1, hb5]
  refine R.iconst (v := 1) dX13_noBuyer_9 rfl ?_
  refine R.isub dX13_noBuyer_10 ?_
  refine cl_X13_140 rfl rfl (by first | exact Nat.le_of_ble_eq_true rfl | simp [rf_cat, Value.category]) dX13_noBuyer_11 ?_
  refine m_inR ?_
  rw [if_neg hn]
  refine R.if_ne (tgt := 21) dX13_noBuyer_14 (by decide) (fun c9 => absurd (rfl) c9) (fun _ => ?_)
  refine R.iconst (v := 1) dX13_noBuyer_17 rfl ?_
  refine R.goto (tgt := 22) dX13_noBuyer_18 (by decide) ?_
  refine R.iconst (v := 1) dX13_noBuyer_22 rfl ?_
  refine cl_X13_391 rfl rfl (by first | exact Nat.le_of_ble_eq_true rfl | simp [rf_cat, Value.category]) dX13_noBuyer_23 ?_
  refine m_fail1 ?_
  rw [sI_sWf M w 0 7 1 (by decide)]
  refine WP.ret (ov := some (.int _)) dX13_noBuyer_26 ⟨rfl, _, rfl, by first | rfl | assumption | exact nar_b01 (by assumption)⟩ ?_
  exact hq
set_option maxHeartbeats 1000000 in
set_option maxRecDepth 4000 in
theorem m_noBS {d : Nat} {w : Nat → Int32} {M : Mem} {Q : Out → Mem → Prop} {b K m i : Nat} {Y : Yd} {x : Int32} (hL : ML M) (h : RW Y m b K w) (hb5 : yF Y 5 = nI b) (hx : kU Y x = some i) (hq : Q (.inl (some (.int 0))) (sW M w)) : WPc (d + 1) mX13_noBuyer [.ref (rf 11 0), .int x] (sW M w) Q := by
  refine WPc.of (by decide +kernel) (Nat.le_of_ble_eq_true rfl) rfl ?_
  have hn : 0 ≤ x ∧ x ≤ nI b - 1 := (rg_iff6 h.bl).mpr (fun q => by unfold kU at hx; rw [hb5, if_pos q] at hx; cases hx)
  refine R.aload_n dX13_noBuyer_0 rfl (by first | rfl | exact rfv_rf _) ?_
  refine R.iload_n dX13_noBuyer_1 rfl ?_
  refine R.iconst (v := 0) dX13_noBuyer_2 rfl ?_
  refine R.aload_n dX13_noBuyer_3 rfl (by first | rfl | exact rfv_rf _) ?_
  refine R.getS (hL.w) dX13_noBuyer_4 fl_X13_7 (by decide) rfl ?_
  refine R.iconst (v := nI 1) dX13_noBuyer_7 rfl ?_
  refine R.ialdN (k := 1) dX13_noBuyer_8 (by omega) (by show _ < mN M 14 0; rw [hL.n]; omega) ?_
  rw [mI_sWc]
  rw [h.h.1, hb5]
  refine R.iconst (v := 1) dX13_noBuyer_9 rfl ?_
  refine R.isub dX13_noBuyer_10 ?_
  refine cl_X13_140 rfl rfl (by first | exact Nat.le_of_ble_eq_true rfl | simp [rf_cat, Value.category]) dX13_noBuyer_11 ?_
  refine m_inR ?_
  rw [if_pos hn]
  refine R.if_ne (tgt := 21) dX13_noBuyer_14 (by decide) (fun _ => ?_) (fun c9 => absurd c9 (by decide))
  refine R.iconst (v := 0) dX13_noBuyer_21 rfl ?_
  refine R.iconst (v := 1) dX13_noBuyer_22 rfl ?_
  refine cl_X13_391 rfl rfl (by first | exact Nat.le_of_ble_eq_true rfl | simp [rf_cat, Value.category]) dX13_noBuyer_23 ?_
  refine m_fail0 ?_
  refine WP.ret (ov := some (.int _)) dX13_noBuyer_26 ⟨rfl, _, rfl, by first | rfl | assumption | exact nar_b01 (by assumption)⟩ ?_
  exact hq
