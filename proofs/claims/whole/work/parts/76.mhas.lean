/-! no stored readings -/
set_option maxHeartbeats 1000000 in
theorem m_hasN {d m b K : Nat} {Y : Yd} {x : Int32} {w : Nat → Int32} {M : Mem} {Q : Out → Mem → Prop} (hL : ML M) (h : RW Y m b K w) (hb4 : yF Y 4 = nI m) (hx : kC Y x = none) (hq : Q (.inl (some (.int 1))) (sW (sI M 11 0 7 1) w)) : WPc (d + 2) mX13_hasNone [.ref (rf 11 0), .int x] (sW M w) Q := by
  refine WPc.of (by decide +kernel) (Nat.le_of_ble_eq_true rfl) rfl ?_
  refine R.aload_n dX13_hasNone_0 rfl (by first | rfl | exact rfv_rf _) ?_
  refine R.iload_n dX13_hasNone_1 rfl ?_
  refine cl_X13_395 rfl rfl (by first | exact Nat.le_of_ble_eq_true rfl | simp [rf_cat, Value.category]) dX13_hasNone_2 ?_
  refine m_noCN hL h hb4 hx ?_
  refine R.if_ne (tgt := 31) dX13_hasNone_5 (by decide) (fun _ => ?_) (fun c9 => absurd c9 (by decide))
  refine R.iconst (v := 1) dX13_hasNone_31 rfl ?_
  refine R.goto (tgt := 36) dX13_hasNone_32 (by decide) ?_
  refine WP.ret (ov := some (.int _)) dX13_hasNone_36 ⟨rfl, _, rfl, by first | rfl | assumption | exact nar_b01 (by assumption)⟩ ?_
  exact hq
set_option maxHeartbeats 1000000 in
theorem m_hasZ {d m b K i : Nat} {Y : Yd} {x : Int32} {w : Nat → Int32} {M : Mem} {Q : Out → Mem → Prop} (hL : ML M) (h : RW Y m b K w) (hb4 : yF Y 4 = nI m) (hx : kC Y x = some i) (z8 : yC Y i 8 = 0) (hq : Q (.inl (some (.int 1))) (sW (sI M 11 0 7 2) w)) : WPc (d + 2) mX13_hasNone [.ref (rf 11 0), .int x] (sW M w) Q := by
  refine WPc.of (by decide +kernel) (Nat.le_of_ble_eq_true rfl) rfl ?_
  have hm16 := h.t.le
  obtain ⟨ex, hi⟩ := kC_m hx hm16 hb4
  subst ex
  refine R.aload_n dX13_hasNone_0 rfl (by first | rfl | exact rfv_rf _) ?_
  refine R.iload_n dX13_hasNone_1 rfl ?_
  refine cl_X13_395 rfl rfl (by first | exact Nat.le_of_ble_eq_true rfl | simp [rf_cat, Value.category]) dX13_hasNone_2 ?_
  refine m_noCS hL h hb4 hx ?_
  refine R.if_ne (tgt := 31) dX13_hasNone_5 (by decide) (fun c9 => absurd (rfl) c9) (fun _ => ?_)
  refine R.aload_n dX13_hasNone_8 rfl (by first | rfl | exact rfv_rf _) ?_
  refine R.aload_n dX13_hasNone_9 rfl (by first | rfl | exact rfv_rf _) ?_
  refine R.iload_n dX13_hasNone_10 rfl ?_
  refine R.bipush (v := nI 12) dX13_hasNone_11 (by decide) ?_
  refine cl_X13_68 rfl rfl (by first | exact Nat.le_of_ble_eq_true rfl | simp [rf_cat, Value.category]) dX13_hasNone_13 ?_
  refine m_of hL (by omega) (by omega) ?_
  rw [(h.d (by omega : i < 16)).1]
  refine R.if_ne (tgt := 23) dX13_hasNone_16 (by decide) (fun c9 => absurd (z8) c9) (fun _ => ?_)
  refine R.iconst (v := 1) dX13_hasNone_19 rfl ?_
  refine R.goto (tgt := 24) dX13_hasNone_20 (by decide) ?_
  refine R.iconst (v := 2) dX13_hasNone_24 rfl ?_
  refine cl_X13_391 rfl rfl (by first | exact Nat.le_of_ble_eq_true rfl | simp [rf_cat, Value.category]) dX13_hasNone_25 ?_
  refine m_fail1 ?_
  rw [sI_sWf M w 0 7 2 (by decide)]
  refine R.if_eq (tgt := 35) dX13_hasNone_28 (by decide) (fun c9 => absurd c9 (by decide)) (fun _ => ?_)
  refine R.iconst (v := 1) dX13_hasNone_31 rfl ?_
  refine R.goto (tgt := 36) dX13_hasNone_32 (by decide) ?_
  refine WP.ret (ov := some (.int _)) dX13_hasNone_36 ⟨rfl, _, rfl, by first | rfl | assumption | exact nar_b01 (by assumption)⟩ ?_
  exact hq
set_option maxHeartbeats 1000000 in
theorem m_hasS {d m b K i : Nat} {Y : Yd} {x : Int32} {w : Nat → Int32} {M : Mem} {Q : Out → Mem → Prop} (hL : ML M) (h : RW Y m b K w) (hb4 : yF Y 4 = nI m) (hx : kC Y x = some i) (z8 : ¬ yC Y i 8 = 0) (hq : Q (.inl (some (.int 0))) (sW M w)) : WPc (d + 2) mX13_hasNone [.ref (rf 11 0), .int x] (sW M w) Q := by
  refine WPc.of (by decide +kernel) (Nat.le_of_ble_eq_true rfl) rfl ?_
  have hm16 := h.t.le
  obtain ⟨ex, hi⟩ := kC_m hx hm16 hb4
  subst ex
  refine R.aload_n dX13_hasNone_0 rfl (by first | rfl | exact rfv_rf _) ?_
  refine R.iload_n dX13_hasNone_1 rfl ?_
  refine cl_X13_395 rfl rfl (by first | exact Nat.le_of_ble_eq_true rfl | simp [rf_cat, Value.category]) dX13_hasNone_2 ?_
  refine m_noCS hL h hb4 hx ?_
  refine R.if_ne (tgt := 31) dX13_hasNone_5 (by decide) (fun c9 => absurd (rfl) c9) (fun _ => ?_)
  refine R.aload_n dX13_hasNone_8 rfl (by first | rfl | exact rfv_rf _) ?_
  refine R.aload_n dX13_hasNone_9 rfl (by first | rfl | exact rfv_rf _) ?_
  refine R.iload_n dX13_hasNone_10 rfl ?_
  refine R.bipush (v := nI 12) dX13_hasNone_11 (by decide) ?_
  refine cl_X13_68 rfl rfl (by first | exact Nat.le_of_ble_eq_true rfl | simp [rf_cat, Value.category]) dX13_hasNone_13 ?_
  refine m_of hL (by omega) (by omega) ?_
  rw [(h.d (by omega : i < 16)).1]
  refine R.if_ne (tgt := 23) dX13_hasNone_16 (by decide) (fun _ => ?_) (fun c9 => absurd c9 (z8))
  refine R.iconst (v := 0) dX13_hasNone_23 rfl ?_
  refine R.iconst (v := 2) dX13_hasNone_24 rfl ?_
  refine cl_X13_391 rfl rfl (by first | exact Nat.le_of_ble_eq_true rfl | simp [rf_cat, Value.category]) dX13_hasNone_25 ?_
  refine m_fail0 ?_
  refine R.if_eq (tgt := 35) dX13_hasNone_28 (by decide) (fun _ => ?_) (fun c9 => absurd (rfl) c9)
  refine R.iconst (v := 0) dX13_hasNone_35 rfl ?_
  refine WP.ret (ov := some (.int _)) dX13_hasNone_36 ⟨rfl, _, rfl, by first | rfl | assumption | exact nar_b01 (by assumption)⟩ ?_
  exact hq
