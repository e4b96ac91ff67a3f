/-! what the model may do; what it sells -/
set_option maxHeartbeats 1000000 in
set_option maxRecDepth 4000 in
theorem m_mayAdd {d : Nat} {w : Nat → Int32} {M : Mem} {Q : Out → Mem → Prop} {c b K m : Nat} {Y : Yd} {x : Int32} (hL : ML M) (h : RW Y m b K w) (hc : c < m) (hq : Q (.inl (some (.int (if ¬ yC Y c 7 = 0 ∧ 0 ≤ yC Y c 3 + x ∧ yC Y c 3 + x ≤ 500 then 1 else 0)))) (sW M w)) : WPc (d + 2) mX13_mayAdd [.ref (rf 11 0), .int (nI c), .int x] (sW M w) Q := by
  refine WPc.of (by decide +kernel) (Nat.le_of_ble_eq_true rfl) rfl ?_
  by_cases z7 : yC Y c 7 = 0
  · rw [if_neg (fun q => q.1 z7)] at hq
    refine R.aload_n dX13_mayAdd_0 rfl (by first | rfl | exact rfv_rf _) ?_
    refine R.iload_n dX13_mayAdd_1 rfl ?_
    refine cl_X13_136 rfl rfl (by first | exact Nat.le_of_ble_eq_true rfl | simp [rf_cat, Value.category]) dX13_mayAdd_2 ?_
    refine m_th hL h hc ?_
    rw [if_pos z7]
    refine R.if_eq (tgt := 31) dX13_mayAdd_5 (by decide) (fun _ => ?_) (fun c9 => absurd (rfl) c9)
    refine R.iconst (v := 0) dX13_mayAdd_31 rfl ?_
    refine WP.ret (ov := some (.int _)) dX13_mayAdd_32 ⟨rfl, _, rfl, by first | rfl | assumption | exact nar_b01 (by assumption)⟩ ?_
    exact hq
  by_cases z3 : 0 ≤ yC Y c 3 + x ∧ yC Y c 3 + x ≤ 500
  · rw [if_pos ⟨z7, z3⟩] at hq
    refine R.aload_n dX13_mayAdd_0 rfl (by first | rfl | exact rfv_rf _) ?_
    refine R.iload_n dX13_mayAdd_1 rfl ?_
    refine cl_X13_136 rfl rfl (by first | exact Nat.le_of_ble_eq_true rfl | simp [rf_cat, Value.category]) dX13_mayAdd_2 ?_
    refine m_th hL h hc ?_
    rw [if_neg z7]
    refine R.if_eq (tgt := 31) dX13_mayAdd_5 (by decide) (fun c9 => absurd c9 (by decide)) (fun _ => ?_)
    refine R.aload_n dX13_mayAdd_8 rfl (by first | rfl | exact rfv_rf _) ?_
    refine R.iload_n dX13_mayAdd_9 rfl ?_
    refine R.bipush (v := nI 8) dX13_mayAdd_10 (by decide) ?_
    refine cl_X13_68 rfl rfl (by first | exact Nat.le_of_ble_eq_true rfl | simp [rf_cat, Value.category]) dX13_mayAdd_12 ?_
    refine m_of hL (by have := h.t.le; omega) (by omega) ?_
    rw [(h.g (by have := h.t.le; omega : c < 16)).2.1]
    refine R.iload_n dX13_mayAdd_15 rfl ?_
    refine R.iadd dX13_mayAdd_16 ?_
    refine R.iconst (v := 0) dX13_mayAdd_17 rfl ?_
    refine R.sipush (v := 500) dX13_mayAdd_18 (by decide) ?_
    refine cl_X13_140 rfl rfl (by first | exact Nat.le_of_ble_eq_true rfl | simp [rf_cat, Value.category]) dX13_mayAdd_21 ?_
    refine m_inR ?_
    rw [if_pos z3]
    refine R.if_eq (tgt := 31) dX13_mayAdd_24 (by decide) (fun c9 => absurd c9 (by decide)) (fun _ => ?_)
    refine R.iconst (v := 1) dX13_mayAdd_27 rfl ?_
    refine R.goto (tgt := 32) dX13_mayAdd_28 (by decide) ?_
    refine WP.ret (ov := some (.int _)) dX13_mayAdd_32 ⟨rfl, _, rfl, by first | rfl | assumption | exact nar_b01 (by assumption)⟩ ?_
    exact hq
  · rw [if_neg (fun q => z3 q.2)] at hq
    refine R.aload_n dX13_mayAdd_0 rfl (by first | rfl | exact rfv_rf _) ?_
    refine R.iload_n dX13_mayAdd_1 rfl ?_
    refine cl_X13_136 rfl rfl (by first | exact Nat.le_of_ble_eq_true rfl | simp [rf_cat, Value.category]) dX13_mayAdd_2 ?_
    refine m_th hL h hc ?_
    rw [if_neg z7]
    refine R.if_eq (tgt := 31) dX13_mayAdd_5 (by decide) (fun c9 => absurd c9 (by decide)) (fun _ => ?_)
    refine R.aload_n dX13_mayAdd_8 rfl (by first | rfl | exact rfv_rf _) ?_
    refine R.iload_n dX13_mayAdd_9 rfl ?_
    refine R.bipush (v := nI 8) dX13_mayAdd_10 (by decide) ?_
    refine cl_X13_68 rfl rfl (by first | exact Nat.le_of_ble_eq_true rfl | simp [rf_cat, Value.category]) dX13_mayAdd_12 ?_
    refine m_of hL (by have := h.t.le; omega) (by omega) ?_
    rw [(h.g (by have := h.t.le; omega : c < 16)).2.1]
    refine R.iload_n dX13_mayAdd_15 rfl ?_
    refine R.iadd dX13_mayAdd_16 ?_
    refine R.iconst (v := 0) dX13_mayAdd_17 rfl ?_
    refine R.sipush (v := 500) dX13_mayAdd_18 (by decide) ?_
    refine cl_X13_140 rfl rfl (by first | exact Nat.le_of_ble_eq_true rfl | simp [rf_cat, Value.category]) dX13_mayAdd_21 ?_
    refine m_inR ?_
    rw [if_neg z3]
    refine R.if_eq (tgt := 31) dX13_mayAdd_24 (by decide) (fun _ => ?_) (fun c9 => absurd (rfl) c9)
    refine R.iconst (v := 0) dX13_mayAdd_31 rfl ?_
    refine WP.ret (ov := some (.int _)) dX13_mayAdd_32 ⟨rfl, _, rfl, by first | rfl | assumption | exact nar_b01 (by assumption)⟩ ?_
    exact hq
set_option maxHeartbeats 1000000 in
set_option maxRecDepth 4000 in
theorem m_mayTake {d : Nat} {w : Nat → Int32} {M : Mem} {Q : Out → Mem → Prop} {c b K m : Nat} {Y : Yd} (hL : ML M) (h : RW Y m b K w) (hc : c < m) (hq : Q (.inl (some (.int (if ¬ yC Y c 7 = 0 ∧ ¬ yP Y c = none then 1 else 0)))) (sW M w)) : WPc (d + 2) mX13_mayTakeOut [.ref (rf 11 0), .int (nI c)] (sW M w) Q := by
  refine WPc.of (by decide +kernel) (Nat.le_of_ble_eq_true rfl) rfl ?_
  by_cases z7 : yC Y c 7 = 0
  · rw [if_neg (fun q => q.1 z7)] at hq
    refine R.aload_n dX13_mayTakeOut_0 rfl (by first | rfl | exact rfv_rf _) ?_
    refine R.iload_n dX13_mayTakeOut_1 rfl ?_
    refine cl_X13_136 rfl rfl (by first | exact Nat.le_of_ble_eq_true rfl | simp [rf_cat, Value.category]) dX13_mayTakeOut_2 ?_
    refine m_th hL h hc ?_
    rw [if_pos z7]
    refine R.if_eq (tgt := 23) dX13_mayTakeOut_5 (by decide) (fun _ => ?_) (fun c9 => absurd (rfl) c9)
    refine R.iconst (v := 0) dX13_mayTakeOut_23 rfl ?_
    refine WP.ret (ov := some (.int _)) dX13_mayTakeOut_24 ⟨rfl, _, rfl, by first | rfl | assumption | exact nar_b01 (by assumption)⟩ ?_
    exact hq
  by_cases zP : yP Y c = none
  · rw [if_neg (fun q => q.2 zP)] at hq
    refine R.aload_n dX13_mayTakeOut_0 rfl (by first | rfl | exact rfv_rf _) ?_
    refine R.iload_n dX13_mayTakeOut_1 rfl ?_
    refine cl_X13_136 rfl rfl (by first | exact Nat.le_of_ble_eq_true rfl | simp [rf_cat, Value.category]) dX13_mayTakeOut_2 ?_
    refine m_th hL h hc ?_
    rw [if_neg z7]
    refine R.if_eq (tgt := 23) dX13_mayTakeOut_5 (by decide) (fun c9 => absurd c9 (by decide)) (fun _ => ?_)
    refine R.aload_n dX13_mayTakeOut_8 rfl (by first | rfl | exact rfv_rf _) ?_
    refine R.iload_n dX13_mayTakeOut_9 rfl ?_
    refine R.bipush (v := nI 9) dX13_mayTakeOut_10 (by decide) ?_
    refine cl_X13_68 rfl rfl (by first | exact Nat.le_of_ble_eq_true rfl | simp [rf_cat, Value.category]) dX13_mayTakeOut_12 ?_
    refine m_of hL (by have := h.t.le; omega) (by omega) ?_
    rw [h.t.p hc, pIx_e]
    refine R.iconst (v := (-1)) dX13_mayTakeOut_15 rfl ?_
    refine R.icmp_eq (tgt := 23) dX13_mayTakeOut_16 (by decide) (fun _ => ?_) (fun c9 => absurd (by rw [zP]; rfl) c9)
    refine R.iconst (v := 0) dX13_mayTakeOut_23 rfl ?_
    refine WP.ret (ov := some (.int _)) dX13_mayTakeOut_24 ⟨rfl, _, rfl, by first | rfl | assumption | exact nar_b01 (by assumption)⟩ ?_
    exact hq
  · rw [if_pos ⟨z7, zP⟩] at hq
    have zQ : ¬ px (yP Y c) = -1 := fun q => by
      cases e : yP Y c with
      | none => exact zP e
      | some i => rw [e] at q; exact absurd q (nI_m1 (by have := (h.t.2.2.2 c i (by have := h.t.le; omega) e).2; have := h.t.le; omega))
    refine R.aload_n dX13_mayTakeOut_0 rfl (by first | rfl | exact rfv_rf _) ?_
    refine R.iload_n dX13_mayTakeOut_1 rfl ?_
    refine cl_X13_136 rfl rfl (by first | exact Nat.le_of_ble_eq_true rfl | simp [rf_cat, Value.category]) dX13_mayTakeOut_2 ?_
    refine m_th hL h hc ?_
    rw [if_neg z7]
    refine R.if_eq (tgt := 23) dX13_mayTakeOut_5 (by decide) (fun c9 => absurd c9 (by decide)) (fun _ => ?_)
    refine R.aload_n dX13_mayTakeOut_8 rfl (by first | rfl | exact rfv_rf _) ?_
    refine R.iload_n dX13_mayTakeOut_9 rfl ?_
    refine R.bipush (v := nI 9) dX13_mayTakeOut_10 (by decide) ?_
    refine cl_X13_68 rfl rfl (by first | exact Nat.le_of_ble_eq_true rfl | simp [rf_cat, Value.category]) dX13_mayTakeOut_12 ?_
    refine m_of hL (by have := h.t.le; omega) (by omega) ?_
    rw [h.t.p hc, pIx_e]
    refine R.iconst (v := (-1)) dX13_mayTakeOut_15 rfl ?_
    refine R.icmp_eq (tgt := 23) dX13_mayTakeOut_16 (by decide) (fun c9 => absurd c9 (zQ)) (fun _ => ?_)
    refine R.iconst (v := 1) dX13_mayTakeOut_19 rfl ?_
    refine R.goto (tgt := 24) dX13_mayTakeOut_20 (by decide) ?_
    refine WP.ret (ov := some (.int _)) dX13_mayTakeOut_24 ⟨rfl, _, rfl, by first | rfl | assumption | exact nar_b01 (by assumption)⟩ ?_
    exact hq
set_option maxHeartbeats 1000000 in
set_option maxRecDepth 4000 in
theorem m_mayMove {d : Nat} {w : Nat → Int32} {M : Mem} {Q : Out → Mem → Prop} {c b K m o : Nat} {Y : Yd} (hL : ML M) (h : RW Y m b K w) (hc : c < m) (ho : o < m) (hA : Acy Y) (hq : Q (.inl (some (.int (yCan Y c o)))) (sW M w)) : WPc (d + 9) mX13_mayMove [.ref (rf 11 0), .int (nI c), .int (nI o)] (sW M w) Q := by
  refine WPc.of (by decide +kernel) (Nat.le_of_ble_eq_true rfl) rfl ?_
  unfold yCan at hq
  have eh : lvF Y c 16 0 0 = nI (hgt Y 6 c) := by
    have hP : ∀ i j, i < 16 → yP Y i = some j → j < 16 := fun i j hi e => by have := (h.t.2.2.2 i j hi e).2; have := h.t.le; omega
    rw [hgt_lv hA hP (by have := h.t.le; omega)]
    exact (lvF_N hA (by have := h.t.le; omega) 16 0 0 (by omega) (by omega)).1
  by_cases z7 : yC Y c 7 = 0
  · rw [if_neg (fun q => q.1 z7)] at hq
    refine R.aload_n dX13_mayMove_0 rfl (by first | rfl | exact rfv_rf _) ?_
    refine R.iload_n dX13_mayMove_1 rfl ?_
    refine cl_X13_136 rfl rfl (by first | exact Nat.le_of_ble_eq_true rfl | simp [rf_cat, Value.category]) dX13_mayMove_2 ?_
    refine m_th hL h hc ?_
    rw [if_pos z7]
    refine R.if_eq (tgt := 25) dX13_mayMove_5 (by decide) (fun _ => ?_) (fun c9 => absurd (rfl) c9)
    refine R.iconst (v := 0) dX13_mayMove_25 rfl ?_
    refine WP.ret (ov := some (.int _)) dX13_mayMove_26 ⟨rfl, _, rfl, by first | rfl | assumption | exact nar_b01 (by assumption)⟩ ?_
    exact hq
  by_cases z8 : yC Y o 7 = 0
  · rw [if_neg (fun q => q.2.1 z8)] at hq
    refine R.aload_n dX13_mayMove_0 rfl (by first | rfl | exact rfv_rf _) ?_
    refine R.iload_n dX13_mayMove_1 rfl ?_
    refine cl_X13_136 rfl rfl (by first | exact Nat.le_of_ble_eq_true rfl | simp [rf_cat, Value.category]) dX13_mayMove_2 ?_
    refine m_th hL h hc ?_
    rw [if_neg z7]
    refine R.if_eq (tgt := 25) dX13_mayMove_5 (by decide) (fun c9 => absurd c9 (by decide)) (fun _ => ?_)
    refine R.aload_n dX13_mayMove_8 rfl (by first | rfl | exact rfv_rf _) ?_
    refine R.iload_n dX13_mayMove_9 rfl ?_
    refine cl_X13_136 rfl rfl (by first | exact Nat.le_of_ble_eq_true rfl | simp [rf_cat, Value.category]) dX13_mayMove_10 ?_
    refine m_th hL h ho ?_
    rw [if_pos z8]
    refine R.if_eq (tgt := 25) dX13_mayMove_13 (by decide) (fun _ => ?_) (fun c9 => absurd (rfl) c9)
    refine R.iconst (v := 0) dX13_mayMove_25 rfl ?_
    refine WP.ret (ov := some (.int _)) dX13_mayMove_26 ⟨rfl, _, rfl, by first | rfl | assumption | exact nar_b01 (by assumption)⟩ ?_
    exact hq
  by_cases zi : ins Y o c = true
  · rw [if_neg (fun q => q.2.2.1 zi)] at hq
    refine R.aload_n dX13_mayMove_0 rfl (by first | rfl | exact rfv_rf _) ?_
    refine R.iload_n dX13_mayMove_1 rfl ?_
    refine cl_X13_136 rfl rfl (by first | exact Nat.le_of_ble_eq_true rfl | simp [rf_cat, Value.category]) dX13_mayMove_2 ?_
    refine m_th hL h hc ?_
    rw [if_neg z7]
    refine R.if_eq (tgt := 25) dX13_mayMove_5 (by decide) (fun c9 => absurd c9 (by decide)) (fun _ => ?_)
    refine R.aload_n dX13_mayMove_8 rfl (by first | rfl | exact rfv_rf _) ?_
    refine R.iload_n dX13_mayMove_9 rfl ?_
    refine cl_X13_136 rfl rfl (by first | exact Nat.le_of_ble_eq_true rfl | simp [rf_cat, Value.category]) dX13_mayMove_10 ?_
    refine m_th hL h ho ?_
    rw [if_neg z8]
    refine R.if_eq (tgt := 25) dX13_mayMove_13 (by decide) (fun c9 => absurd c9 (by decide)) (fun _ => ?_)
    refine R.aload_n dX13_mayMove_16 rfl (by first | rfl | exact rfv_rf _) ?_
    refine R.iload_n dX13_mayMove_17 rfl ?_
    refine R.iload_n dX13_mayMove_18 rfl ?_
    refine cl_X13_147 rfl rfl (by first | exact Nat.le_of_ble_eq_true rfl | simp [rf_cat, Value.category]) dX13_mayMove_19 ?_
    refine m_within hL h.t hA ho (by have := h.t.le; omega) ?_
    rw [if_pos zi]
    refine R.if_eq (tgt := 27) dX13_mayMove_22 (by decide) (fun c9 => absurd c9 (by decide)) (fun _ => ?_)
    refine R.iconst (v := 0) dX13_mayMove_25 rfl ?_
    refine WP.ret (ov := some (.int _)) dX13_mayMove_26 ⟨rfl, _, rfl, by first | rfl | assumption | exact nar_b01 (by assumption)⟩ ?_
    exact hq
  by_cases z5 : nI (dp Y o) + 1 + lvF Y c 16 0 0 ≤ 5
  · rw [if_pos ⟨z7, z8, zi, z5⟩] at hq
    refine R.aload_n dX13_mayMove_0 rfl (by first | rfl | exact rfv_rf _) ?_
    refine R.iload_n dX13_mayMove_1 rfl ?_
    refine cl_X13_136 rfl rfl (by first | exact Nat.le_of_ble_eq_true rfl | simp [rf_cat, Value.category]) dX13_mayMove_2 ?_
    refine m_th hL h hc ?_
    rw [if_neg z7]
    refine R.if_eq (tgt := 25) dX13_mayMove_5 (by decide) (fun c9 => absurd c9 (by decide)) (fun _ => ?_)
    refine R.aload_n dX13_mayMove_8 rfl (by first | rfl | exact rfv_rf _) ?_
    refine R.iload_n dX13_mayMove_9 rfl ?_
    refine cl_X13_136 rfl rfl (by first | exact Nat.le_of_ble_eq_true rfl | simp [rf_cat, Value.category]) dX13_mayMove_10 ?_
    refine m_th hL h ho ?_
    rw [if_neg z8]
    refine R.if_eq (tgt := 25) dX13_mayMove_13 (by decide) (fun c9 => absurd c9 (by decide)) (fun _ => ?_)
    refine R.aload_n dX13_mayMove_16 rfl (by first | rfl | exact rfv_rf _) ?_
    refine R.iload_n dX13_mayMove_17 rfl ?_
    refine R.iload_n dX13_mayMove_18 rfl ?_
    refine cl_X13_147 rfl rfl (by first | exact Nat.le_of_ble_eq_true rfl | simp [rf_cat, Value.category]) dX13_mayMove_19 ?_
    refine m_within hL h.t hA ho (by have := h.t.le; omega) ?_
    rw [if_neg zi]
    refine R.if_eq (tgt := 27) dX13_mayMove_22 (by decide) (fun _ => ?_) (fun c9 => absurd (rfl) c9)
    refine R.aload_n dX13_mayMove_27 rfl (by first | rfl | exact rfv_rf _) ?_
    refine R.iload_n dX13_mayMove_28 rfl ?_
    refine cl_X13_151 rfl rfl (by first | exact Nat.le_of_ble_eq_true rfl | simp [rf_cat, Value.category]) dX13_mayMove_29 ?_
    refine m_depth hL h.t hA ho ?_
    refine R.iconst (v := 1) dX13_mayMove_32 rfl ?_
    refine R.iadd dX13_mayMove_33 ?_
    refine R.aload_n dX13_mayMove_34 rfl (by first | rfl | exact rfv_rf _) ?_
    refine R.iload_n dX13_mayMove_35 rfl ?_
    refine cl_X13_85 rfl rfl (by first | exact Nat.le_of_ble_eq_true rfl | simp [rf_cat, Value.category]) dX13_mayMove_36 ?_
    refine m_height (d := d) hL h.t 6 c (by omega) (by have := h.t.le; omega) (fun x hx q => by rw [it_6 hA hx] at q; cases q) ?_
    rw [← eh]
    refine R.iadd dX13_mayMove_39 ?_
    refine R.iconst (v := 5) dX13_mayMove_40 rfl ?_
    refine R.icmp_gt (tgt := 48) dX13_mayMove_41 (by decide) (fun c9 => absurd c9 (Int32.not_lt.mpr z5)) (fun _ => ?_)
    refine R.iconst (v := 1) dX13_mayMove_44 rfl ?_
    refine R.goto (tgt := 49) dX13_mayMove_45 (by decide) ?_
    refine WP.ret (ov := some (.int _)) dX13_mayMove_49 ⟨rfl, _, rfl, by first | rfl | assumption | exact nar_b01 (by assumption)⟩ ?_
    exact hq
  · rw [if_neg (fun q => z5 q.2.2.2)] at hq
    refine R.aload_n dX13_mayMove_0 rfl (by first | rfl | exact rfv_rf _) ?_
    refine R.iload_n dX13_mayMove_1 rfl ?_
    refine cl_X13_136 rfl rfl (by first | exact Nat.le_of_ble_eq_true rfl | simp [rf_cat, Value.category]) dX13_mayMove_2 ?_
    refine m_th hL h hc ?_
    rw [if_neg z7]
    refine R.if_eq (tgt := 25) dX13_mayMove_5 (by decide) (fun c9 => absurd c9 (by decide)) (fun _ => ?_)
    refine R.aload_n dX13_mayMove_8 rfl (by first | rfl | exact rfv_rf _) ?_
    refine R.iload_n dX13_mayMove_9 rfl ?_
    refine cl_X13_136 rfl rfl (by first | exact Nat.le_of_ble_eq_true rfl | simp [rf_cat, Value.category]) dX13_mayMove_10 ?_
    refine m_th hL h ho ?_
    rw [if_neg z8]
    refine R.if_eq (tgt := 25) dX13_mayMove_13 (by decide) (fun c9 => absurd c9 (by decide)) (fun _ => ?_)
    refine R.aload_n dX13_mayMove_16 rfl (by first | rfl | exact rfv_rf _) ?_
    refine R.iload_n dX13_mayMove_17 rfl ?_
    refine R.iload_n dX13_mayMove_18 rfl ?_
    refine cl_X13_147 rfl rfl (by first | exact Nat.le_of_ble_eq_true rfl | simp [rf_cat, Value.category]) dX13_mayMove_19 ?_
    refine m_within hL h.t hA ho (by have := h.t.le; omega) ?_
    rw [if_neg zi]
    refine R.if_eq (tgt := 27) dX13_mayMove_22 (by decide) (fun _ => ?_) (fun c9 => absurd (rfl) c9)
    refine R.aload_n dX13_mayMove_27 rfl (by first | rfl | exact rfv_rf _) ?_
    refine R.iload_n dX13_mayMove_28 rfl ?_
    refine cl_X13_151 rfl rfl (by first | exact Nat.le_of_ble_eq_true rfl | simp [rf_cat, Value.category]) dX13_mayMove_29 ?_
    refine m_depth hL h.t hA ho ?_
    refine R.iconst (v := 1) dX13_mayMove_32 rfl ?_
    refine R.iadd dX13_mayMove_33 ?_
    refine R.aload_n dX13_mayMove_34 rfl (by first | rfl | exact rfv_rf _) ?_
    refine R.iload_n dX13_mayMove_35 rfl ?_
    refine cl_X13_85 rfl rfl (by first | exact Nat.le_of_ble_eq_true rfl | simp [rf_cat, Value.category]) dX13_mayMove_36 ?_
    refine m_height (d := d) hL h.t 6 c (by omega) (by have := h.t.le; omega) (fun x hx q => by rw [it_6 hA hx] at q; cases q) ?_
    rw [← eh]
    refine R.iadd dX13_mayMove_39 ?_
    refine R.iconst (v := 5) dX13_mayMove_40 rfl ?_
    refine R.icmp_gt (tgt := 48) dX13_mayMove_41 (by decide) (fun _ => ?_) (fun c9 => absurd (Int32.not_le.mp z5) c9)
    refine R.iconst (v := 0) dX13_mayMove_48 rfl ?_
    refine WP.ret (ov := some (.int _)) dX13_mayMove_49 ⟨rfl, _, rfl, by first | rfl | assumption | exact nar_b01 (by assumption)⟩ ?_
    exact hq
/-- crates below i, n levels: gone -/
def LV (P : Nat → Option Nat) (m n i : Nat) (w w' : Nat → Int32) : Prop := (∀ x, (¬ ∃ y, y < m ∧ x = 16 + 18 * y + 11 ∧ ∃ j, j < n ∧ itO P j (some y) = some i) → w' x = w x) ∧ ∀ y, y < m → (∃ j, j < n ∧ itO P j (some y) = some i) → w' (16 + 18 * y + 11) = 1
/-- the same, with the children below k alone -/
def LK (P : Nat → Option Nat) (m n i k : Nat) (w w' : Nat → Int32) : Prop := (∀ x, (¬ ∃ y, y < m ∧ x = 16 + 18 * y + 11 ∧ (y = i ∨ ∃ c, c < k ∧ P c = some i ∧ ∃ j, j < n ∧ itO P j (some y) = some c)) → w' x = w x) ∧ ∀ y, y < m → (y = i ∨ ∃ c, c < k ∧ P c = some i ∧ ∃ j, j < n ∧ itO P j (some y) = some c) → w' (16 + 18 * y + 11) = 1
theorem lv_n {P : Nat → Option Nat} {m n i k : Nat} {w w' : Nat → Int32} (hz : ¬ P k = some i) (g : LK P m n i k w w') : LK P m n i (k + 1) w w' := by
  have e : ∀ y, (y = i ∨ ∃ c, c < k + 1 ∧ P c = some i ∧ ∃ j, j < n ∧ itO P j (some y) = some c) → (y = i ∨ ∃ c, c < k ∧ P c = some i ∧ ∃ j, j < n ∧ itO P j (some y) = some c) := by
    intro y h
    rcases h with h | ⟨c, h1, h2, h3⟩
    · exact Or.inl h
    · by_cases q : c = k
      · exact absurd (q ▸ h2) hz
      · exact Or.inr ⟨c, by omega, h2, h3⟩
  refine ⟨fun x hx => g.1 x fun ⟨y, h1, h2, h3⟩ => hx ⟨y, h1, h2, ?_⟩, fun y hy h => g.2 y hy (e y h)⟩
  rcases h3 with h3 | ⟨c, q1, q2⟩
  · exact Or.inl h3
  · exact Or.inr ⟨c, by omega, q2⟩
theorem lv_y {P : Nat → Option Nat} {m n i k : Nat} {w w1 w2 : Nat → Int32} (_hP : ∀ a b, a < 16 → P a = some b → a < m ∧ b < m) (hz : P k = some i) (_hk : k < m) (g1 : LK P m n i k w w1) (g2 : LV P m n k w1 w2) : LK P m n i (k + 1) w w2 := by
  refine ⟨fun x hx => ?_, fun y hy h => ?_⟩
  · rw [g2.1 x fun ⟨y, h1, h2, h3⟩ => hx ⟨y, h1, h2, Or.inr ⟨k, Nat.lt_succ_self k, hz, h3⟩⟩]
    refine g1.1 x fun ⟨y, h1, h2, h3⟩ => hx ⟨y, h1, h2, ?_⟩
    rcases h3 with h3 | ⟨c, q1, q2⟩
    · exact Or.inl h3
    · exact Or.inr ⟨c, by omega, q2⟩
  · by_cases q : ∃ j, j < n ∧ itO P j (some y) = some k
    · exact g2.2 y hy q
    · rw [g2.1 _ fun ⟨y', h1, h2, h3⟩ => q (by rw [show y = y' by omega]; exact h3)]
      refine g1.2 y hy ?_
      rcases h with h | ⟨c, h1, h2, h3⟩
      · exact Or.inl h
      · by_cases z : c = k
        · exact absurd (z ▸ h3) q
        · exact Or.inr ⟨c, by omega, h2, h3⟩
theorem lv_end {P : Nat → Option Nat} {m n i : Nat} {w w' : Nat → Int32} (hP : ∀ a b, a < 16 → P a = some b → a < m ∧ b < m) (hm : m ≤ 16) (g : LK P m n i m w w') : LV P m (n + 1) i w w' := by
  have hP2 : ∀ a, a < 16 → ∀ b, P a = some b → b < 16 := fun a ha b e => by have := (hP a b ha e).2; omega
  refine ⟨fun x hx => g.1 x fun ⟨y, h1, h2, h3⟩ => hx ⟨y, h1, h2, ?_⟩, fun y hy ⟨j, h1, h2⟩ => g.2 y hy ?_⟩
  · rcases h3 with h3 | ⟨c, q1, q2, j, q3, q4⟩
    · exact ⟨0, by omega, by rw [h3]; rfl⟩
    · exact ⟨j + 1, by omega, it_st q4 q2⟩
  · cases j with
    | zero => cases h2; exact Or.inl rfl
    | succ j =>
      rw [it_a] at h2
      cases e : itO P j (some y) with
      | none => rw [e] at h2; cases h2
      | some c =>
        rw [e] at h2
        have e2 : P c = some i := h2
        exact Or.inr ⟨c, (hP c i (it_lt hP2 j y c (by omega) e) e2).1, e2, j, by omega, e⟩
theorem lv_T {Y : Yd} {m n i k : Nat} {w w1 w2 : Nat → Int32} (h : TW Y m w1) (g : LK (yP Y) m n i k w w2) (h0 : TW Y m w := by assumption) : TW Y m w2 := by
  obtain ⟨t1, t2, t3, t4⟩ := h0
  exact ⟨t1, by rw [g.1 0 fun ⟨y, _, h2, _⟩ => by omega]; exact t2, fun k hk => by rw [g.1 _ fun ⟨y, _, h2, _⟩ => by omega]; exact t3 k hk, t4⟩
set_option maxHeartbeats 2000000 in
set_option maxRecDepth 4000 in
theorem m_leaves {Y : Yd} {m : Nat} {M : Mem} {d : Nat} (hL : ML M) : ∀ (n i : Nat) (w : Nat → Int32), TW Y m w → i < m → (∀ x, x < 16 → itO (yP Y) n (some x) ≠ some i) → ∀ {Q : Out → Mem → Prop}, (∀ w', LV (yP Y) m n i w w' → Q (.inl none) (sW M w')) → WPc (d + n + 1) mX13_leaves [.ref (rf 11 0), .int (nI i)] (sW M w) Q := by
  intro n
  induction n with
  | zero => intro i w hT hi h; exact absurd rfl (h i (by have := hT.le; omega))
  | succ n ihn =>
    intro i w hT0 hi hN Q hq
    have ht := hT0.le
    have hP1 := hT0.2.2.2
    refine WPc.of (by decide +kernel) (Nat.le_of_ble_eq_true rfl) rfl ?_
    have key : ∀ (f k : Nat) (w1 : Nat → Int32), k + f = m → LK (yP Y) m n i k w w1 → TW Y m w1 → (∀ w', LV (yP Y) m (n + 1) i w w' → Q (.inl none) (sW M w')) → WP mX13_leaves (d + (n + 1) + 1) 10 [.ref (rf 11 0), .int (nI i), .int (nI k)] [] (sW M w1) Q := by
      intro f
      induction f with
      | zero =>
        intro k w1 hk g1 eT hq2
        have ek : k = m := by omega
        subst ek
        refine R.iload_n dX13_leaves_10 rfl ?_
        refine R.aload_n dX13_leaves_11 rfl (by first | rfl | exact rfv_rf _) ?_
        refine R.getS (hL.w) dX13_leaves_12 fl_X13_7 (by decide) rfl ?_
        refine R.iconst (v := nI 0) dX13_leaves_15 rfl ?_
        refine R.ialdN (k := 0) dX13_leaves_16 (by omega) (by show _ < mN M 14 0; rw [hL.n]; omega) ?_
        rw [mI_sWc]
        rw [eT.z]
        refine R.geT (tgt := 42) (Int32.le_refl _) dX13_leaves_17 (by decide) ?_
        refine WP.ret (ov := none) dX13_leaves_42 ⟨rfl, rfl⟩ ?_
        exact hq2 w1 (lv_end hP1 ht g1)
      | succ f ih =>
        intro k w1 hf g1 eT hq2
        have hk : k < m := by omega
        by_cases zz : yP Y k = some i
        · skip
          refine R.iload_n dX13_leaves_10 rfl ?_
          refine R.aload_n dX13_leaves_11 rfl (by first | rfl | exact rfv_rf _) ?_
          refine R.getS (hL.w) dX13_leaves_12 fl_X13_7 (by decide) rfl ?_
          refine R.iconst (v := nI 0) dX13_leaves_15 rfl ?_
          refine R.ialdN (k := 0) dX13_leaves_16 (by omega) (by show _ < mN M 14 0; rw [hL.n]; omega) ?_
          rw [mI_sWc]
          rw [eT.z]
          refine R.geF (tgt := 42) (nI_ge (show k < m by omega) (by have := eT.le; omega)) dX13_leaves_17 (by decide) ?_
          refine R.aload_n dX13_leaves_20 rfl (by first | rfl | exact rfv_rf _) ?_
          refine R.iload_n dX13_leaves_21 rfl ?_
          refine R.bipush (v := nI 9) dX13_leaves_22 (by decide) ?_
          refine cl_X13_68 rfl rfl (by first | exact Nat.le_of_ble_eq_true rfl | simp [rf_cat, Value.category]) dX13_leaves_24 ?_
          refine m_of hL (by omega) (by omega) ?_
          rw [eT.p hk]
          refine R.iload_n dX13_leaves_27 rfl ?_
          refine R.icmp_ne (tgt := 36) dX13_leaves_28 (by decide) (fun c9 => absurd (pIx_s zz) c9) (fun _ => ?_)
          refine R.aload_n dX13_leaves_31 rfl (by first | rfl | exact rfv_rf _) ?_
          refine R.iload_n dX13_leaves_32 rfl ?_
          refine cl_X13_169 rfl rfl (by first | exact Nat.le_of_ble_eq_true rfl | simp [rf_cat, Value.category]) dX13_leaves_33 ?_
          refine ihn k w1 eT (by omega) (fun x hx e2 => hN x hx (it_st e2 zz)) (fun w2 g2 => ?_)
          refine R.iinc dX13_leaves_36 (Nat.le_of_ble_eq_true rfl) (by decide) (by first | rfl | simp [lft, rf_cat]) rfl (inc_nI _) rfl ?_
          refine R.goto (tgt := 10) dX13_leaves_39 (by decide) ?_
          exact ih (k + 1) w2 (by omega) (lv_y hP1 zz hk g1 g2) (lv_T eT (lv_y hP1 zz hk g1 g2)) hq2
        · skip
          refine R.iload_n dX13_leaves_10 rfl ?_
          refine R.aload_n dX13_leaves_11 rfl (by first | rfl | exact rfv_rf _) ?_
          refine R.getS (hL.w) dX13_leaves_12 fl_X13_7 (by decide) rfl ?_
          refine R.iconst (v := nI 0) dX13_leaves_15 rfl ?_
          refine R.ialdN (k := 0) dX13_leaves_16 (by omega) (by show _ < mN M 14 0; rw [hL.n]; omega) ?_
          rw [mI_sWc]
          rw [eT.z]
          refine R.geF (tgt := 42) (nI_ge (show k < m by omega) (by have := eT.le; omega)) dX13_leaves_17 (by decide) ?_
          refine R.aload_n dX13_leaves_20 rfl (by first | rfl | exact rfv_rf _) ?_
          refine R.iload_n dX13_leaves_21 rfl ?_
          refine R.bipush (v := nI 9) dX13_leaves_22 (by decide) ?_
          refine cl_X13_68 rfl rfl (by first | exact Nat.le_of_ble_eq_true rfl | simp [rf_cat, Value.category]) dX13_leaves_24 ?_
          refine m_of hL (by omega) (by omega) ?_
          rw [eT.p hk]
          refine R.iload_n dX13_leaves_27 rfl ?_
          refine R.icmp_ne (tgt := 36) dX13_leaves_28 (by decide) (fun _ => ?_) (fun c9 => absurd c9 (fun c9 => zz ((eT.i hk (by omega)).mp c9)))
          refine R.iinc dX13_leaves_36 (Nat.le_of_ble_eq_true rfl) (by decide) (by first | rfl | simp [lft, rf_cat]) rfl (inc_nI _) rfl ?_
          refine R.goto (tgt := 10) dX13_leaves_39 (by decide) ?_
          exact ih (k + 1) w1 (by omega) (lv_n zz g1) eT hq2
    refine R.aload_n dX13_leaves_0 rfl (by first | rfl | exact rfv_rf _) ?_
    refine R.iload_n dX13_leaves_1 rfl ?_
    refine R.bipush (v := nI 11) dX13_leaves_2 (by decide) ?_
    refine R.iconst (v := 1) dX13_leaves_4 rfl ?_
    refine cl_X13_72 rfl rfl (by first | exact Nat.le_of_ble_eq_true rfl | simp [rf_cat, Value.category]) dX13_leaves_5 ?_
    refine m_puts hL (by omega) (by omega) ?_
    refine R.iconst (v := nI 0) dX13_leaves_8 rfl ?_
    refine R.istore_n dX13_leaves_9 (Nat.le_of_ble_eq_true rfl) (by decide) (by first | rfl | simp [lft, rf_cat]) rfl ?_
    have g0 : LK (yP Y) m n i 0 w (upW w (16 + 18 * i + 11) 1) := ⟨fun x hx => upW_n _ _ fun q => hx ⟨i, hi, q, Or.inl rfl⟩, fun y hy h => ?_⟩
    rotate_left
    · rcases h with h | ⟨c, h1, _⟩
      · rw [h]; exact upW_s _ _ _
      · exact absurd h1 (Nat.not_lt_zero c)
    exact key m 0 _ (by omega) g0 (lv_T hT0 g0) hq
