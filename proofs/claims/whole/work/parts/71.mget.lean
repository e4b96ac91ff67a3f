/-! the model's getters of a crate -/
def QMC (Q : Out → Mem → Prop) (M : Mem) (w : Nat → Int32) (o : Option Nat) (f : Nat → Int32) : Prop := match o with
  | none => Q (.inl (some (.int 0))) (sW (sI (sI M 11 0 7 0) 11 0 7 1) w)
  | some i => Q (.inl (some (.int (f i)))) (sW (sI M 11 0 7 0) w)
theorem kC_m {Y : Yd} {x : Int32} {i m : Nat} (h : kC Y x = some i) (hm : m ≤ 16) (hb : yF Y 4 = nI m) : x = nI i ∧ i < m := by
  obtain ⟨h1, h2, h3⟩ := kC_s h
  refine ⟨h1, Decidable.byContradiction fun q => h3 ?_⟩
  rw [hb]
  exact nI_le (by omega) (by omega)
theorem kU_m {Y : Yd} {x : Int32} {i b : Nat} (h : kU Y x = some i) (hm : b ≤ 6) (hb : yF Y 5 = nI b) : x = nI i ∧ i < b := by
  obtain ⟨h1, h2, h3⟩ := kU_s h
  refine ⟨h1, Decidable.byContradiction fun q => h3 ?_⟩
  rw [hb]
  exact nI_le (by omega) (by omega)
set_option maxHeartbeats 1000000 in
set_option maxRecDepth 4000 in
theorem g_tareOf {d m b K : Nat} {Y : Yd} {x : Int32} {w : Nat → Int32} {M : Mem} {Q : Out → Mem → Prop} (hL : ML M) (h : RW Y m b K w) (hb4 : yF Y 4 = nI m)  (hq : QMC Q M w (kC Y x) (fun i => yC Y i 2)) : WPc (d + 20) mX13_tareOf [.ref (rf 11 0), .int x] (sW M w) Q := by
  refine WPc.of (by decide +kernel) (Nat.le_of_ble_eq_true rfl) rfl ?_
  have hm16 := h.t.le
  have hb6 := h.bl
  cases hx : kC Y x with
  | none =>
    rw [hx] at hq
    refine R.aload_n dX13_tareOf_0 rfl (by first | rfl | exact rfv_rf _) ?_
    refine R.iconst (v := 0) dX13_tareOf_1 rfl ?_
    refine R.putI dX13_tareOf_2 fl_X13_65 (fun q hq => by cases hq; exact Or.inl rfl) (by decide) rfl rfl rfl ?_
    rw [sI_sWf M w 0 7 0 (by decide)]
    refine R.aload_n dX13_tareOf_5 rfl (by first | rfl | exact rfv_rf _) ?_
    refine R.iload_n dX13_tareOf_6 rfl ?_
    refine cl_X13_395 rfl rfl (by first | exact Nat.le_of_ble_eq_true rfl | simp [rf_cat, Value.category]) dX13_tareOf_7 ?_
    refine m_noCN hL h hb4 hx ?_
    refine R.if_eq (tgt := 17) dX13_tareOf_10 (by decide) (fun c9 => absurd c9 (by decide)) (fun _ => ?_)
    refine R.iconst (v := 0) dX13_tareOf_13 rfl ?_
    refine R.goto (tgt := 24) dX13_tareOf_14 (by decide) ?_
    refine WP.ret (ov := some (.int _)) dX13_tareOf_24 ⟨rfl, _, rfl, by first | rfl | assumption | exact nar_b01 (by assumption)⟩ ?_
    exact hq
  | some i =>
    rw [hx] at hq
    obtain ⟨rfl, hi⟩ := kC_m hx hm16 hb4
    refine R.aload_n dX13_tareOf_0 rfl (by first | rfl | exact rfv_rf _) ?_
    refine R.iconst (v := 0) dX13_tareOf_1 rfl ?_
    refine R.putI dX13_tareOf_2 fl_X13_65 (fun q hq => by cases hq; exact Or.inl rfl) (by decide) rfl rfl rfl ?_
    rw [sI_sWf M w 0 7 0 (by decide)]
    refine R.aload_n dX13_tareOf_5 rfl (by first | rfl | exact rfv_rf _) ?_
    refine R.iload_n dX13_tareOf_6 rfl ?_
    refine cl_X13_395 rfl rfl (by first | exact Nat.le_of_ble_eq_true rfl | simp [rf_cat, Value.category]) dX13_tareOf_7 ?_
    refine m_noCS hL h hb4 hx ?_
    refine R.if_eq (tgt := 17) dX13_tareOf_10 (by decide) (fun _ => ?_) (fun c9 => absurd (rfl) c9)
    refine R.aload_n dX13_tareOf_17 rfl (by first | rfl | exact rfv_rf _) ?_
    refine R.iload_n dX13_tareOf_18 rfl ?_
    refine R.bipush (v := nI 7) dX13_tareOf_19 (by decide) ?_
    refine cl_X13_68 rfl rfl (by first | exact Nat.le_of_ble_eq_true rfl | simp [rf_cat, Value.category]) dX13_tareOf_21 ?_
    refine m_of (M := sI M 11 0 7 0) hL (by omega) (by omega) ?_
    rw [(h.g (by omega : i < 16)).1]
    refine WP.ret (ov := some (.int _)) dX13_tareOf_24 ⟨rfl, _, rfl, by first | rfl | assumption | exact nar_b01 (by assumption)⟩ ?_
    exact hq
set_option maxHeartbeats 1000000 in
set_option maxRecDepth 4000 in
theorem g_goodsOf {d m b K : Nat} {Y : Yd} {x : Int32} {w : Nat → Int32} {M : Mem} {Q : Out → Mem → Prop} (hL : ML M) (h : RW Y m b K w) (hb4 : yF Y 4 = nI m)  (hq : QMC Q M w (kC Y x) (fun i => yC Y i 3)) : WPc (d + 20) mX13_goodsOf [.ref (rf 11 0), .int x] (sW M w) Q := by
  refine WPc.of (by decide +kernel) (Nat.le_of_ble_eq_true rfl) rfl ?_
  have hm16 := h.t.le
  have hb6 := h.bl
  cases hx : kC Y x with
  | none =>
    rw [hx] at hq
    refine R.aload_n dX13_goodsOf_0 rfl (by first | rfl | exact rfv_rf _) ?_
    refine R.iconst (v := 0) dX13_goodsOf_1 rfl ?_
    refine R.putI dX13_goodsOf_2 fl_X13_65 (fun q hq => by cases hq; exact Or.inl rfl) (by decide) rfl rfl rfl ?_
    rw [sI_sWf M w 0 7 0 (by decide)]
    refine R.aload_n dX13_goodsOf_5 rfl (by first | rfl | exact rfv_rf _) ?_
    refine R.iload_n dX13_goodsOf_6 rfl ?_
    refine cl_X13_395 rfl rfl (by first | exact Nat.le_of_ble_eq_true rfl | simp [rf_cat, Value.category]) dX13_goodsOf_7 ?_
    refine m_noCN hL h hb4 hx ?_
    refine R.if_eq (tgt := 17) dX13_goodsOf_10 (by decide) (fun c9 => absurd c9 (by decide)) (fun _ => ?_)
    refine R.iconst (v := 0) dX13_goodsOf_13 rfl ?_
    refine R.goto (tgt := 24) dX13_goodsOf_14 (by decide) ?_
    refine WP.ret (ov := some (.int _)) dX13_goodsOf_24 ⟨rfl, _, rfl, by first | rfl | assumption | exact nar_b01 (by assumption)⟩ ?_
    exact hq
  | some i =>
    rw [hx] at hq
    obtain ⟨rfl, hi⟩ := kC_m hx hm16 hb4
    refine R.aload_n dX13_goodsOf_0 rfl (by first | rfl | exact rfv_rf _) ?_
    refine R.iconst (v := 0) dX13_goodsOf_1 rfl ?_
    refine R.putI dX13_goodsOf_2 fl_X13_65 (fun q hq => by cases hq; exact Or.inl rfl) (by decide) rfl rfl rfl ?_
    rw [sI_sWf M w 0 7 0 (by decide)]
    refine R.aload_n dX13_goodsOf_5 rfl (by first | rfl | exact rfv_rf _) ?_
    refine R.iload_n dX13_goodsOf_6 rfl ?_
    refine cl_X13_395 rfl rfl (by first | exact Nat.le_of_ble_eq_true rfl | simp [rf_cat, Value.category]) dX13_goodsOf_7 ?_
    refine m_noCS hL h hb4 hx ?_
    refine R.if_eq (tgt := 17) dX13_goodsOf_10 (by decide) (fun _ => ?_) (fun c9 => absurd (rfl) c9)
    refine R.aload_n dX13_goodsOf_17 rfl (by first | rfl | exact rfv_rf _) ?_
    refine R.iload_n dX13_goodsOf_18 rfl ?_
    refine R.bipush (v := nI 8) dX13_goodsOf_19 (by decide) ?_
    refine cl_X13_68 rfl rfl (by first | exact Nat.le_of_ble_eq_true rfl | simp [rf_cat, Value.category]) dX13_goodsOf_21 ?_
    refine m_of (M := sI M 11 0 7 0) hL (by omega) (by omega) ?_
    rw [(h.g (by omega : i < 16)).2.1]
    refine WP.ret (ov := some (.int _)) dX13_goodsOf_24 ⟨rfl, _, rfl, by first | rfl | assumption | exact nar_b01 (by assumption)⟩ ?_
    exact hq
set_option maxHeartbeats 1000000 in
set_option maxRecDepth 4000 in
theorem g_parentOf {d m b K : Nat} {Y : Yd} {x : Int32} {w : Nat → Int32} {M : Mem} {Q : Out → Mem → Prop} (hL : ML M) (h : RW Y m b K w) (hb4 : yF Y 4 = nI m)  (hq : QMC Q M w (kC Y x) (fun i => pIx Y i)) : WPc (d + 20) mX13_parentOf [.ref (rf 11 0), .int x] (sW M w) Q := by
  refine WPc.of (by decide +kernel) (Nat.le_of_ble_eq_true rfl) rfl ?_
  have hm16 := h.t.le
  have hb6 := h.bl
  cases hx : kC Y x with
  | none =>
    rw [hx] at hq
    refine R.aload_n dX13_parentOf_0 rfl (by first | rfl | exact rfv_rf _) ?_
    refine R.iconst (v := 0) dX13_parentOf_1 rfl ?_
    refine R.putI dX13_parentOf_2 fl_X13_65 (fun q hq => by cases hq; exact Or.inl rfl) (by decide) rfl rfl rfl ?_
    rw [sI_sWf M w 0 7 0 (by decide)]
    refine R.aload_n dX13_parentOf_5 rfl (by first | rfl | exact rfv_rf _) ?_
    refine R.iload_n dX13_parentOf_6 rfl ?_
    refine cl_X13_395 rfl rfl (by first | exact Nat.le_of_ble_eq_true rfl | simp [rf_cat, Value.category]) dX13_parentOf_7 ?_
    refine m_noCN hL h hb4 hx ?_
    refine R.if_eq (tgt := 17) dX13_parentOf_10 (by decide) (fun c9 => absurd c9 (by decide)) (fun _ => ?_)
    refine R.iconst (v := 0) dX13_parentOf_13 rfl ?_
    refine R.goto (tgt := 24) dX13_parentOf_14 (by decide) ?_
    refine WP.ret (ov := some (.int _)) dX13_parentOf_24 ⟨rfl, _, rfl, by first | rfl | assumption | exact nar_b01 (by assumption)⟩ ?_
    exact hq
  | some i =>
    rw [hx] at hq
    obtain ⟨rfl, hi⟩ := kC_m hx hm16 hb4
    refine R.aload_n dX13_parentOf_0 rfl (by first | rfl | exact rfv_rf _) ?_
    refine R.iconst (v := 0) dX13_parentOf_1 rfl ?_
    refine R.putI dX13_parentOf_2 fl_X13_65 (fun q hq => by cases hq; exact Or.inl rfl) (by decide) rfl rfl rfl ?_
    rw [sI_sWf M w 0 7 0 (by decide)]
    refine R.aload_n dX13_parentOf_5 rfl (by first | rfl | exact rfv_rf _) ?_
    refine R.iload_n dX13_parentOf_6 rfl ?_
    refine cl_X13_395 rfl rfl (by first | exact Nat.le_of_ble_eq_true rfl | simp [rf_cat, Value.category]) dX13_parentOf_7 ?_
    refine m_noCS hL h hb4 hx ?_
    refine R.if_eq (tgt := 17) dX13_parentOf_10 (by decide) (fun _ => ?_) (fun c9 => absurd (rfl) c9)
    refine R.aload_n dX13_parentOf_17 rfl (by first | rfl | exact rfv_rf _) ?_
    refine R.iload_n dX13_parentOf_18 rfl ?_
    refine R.bipush (v := nI 9) dX13_parentOf_19 (by decide) ?_
    refine cl_X13_68 rfl rfl (by first | exact Nat.le_of_ble_eq_true rfl | simp [rf_cat, Value.category]) dX13_parentOf_21 ?_
    refine m_of (M := sI M 11 0 7 0) hL (by omega) (by omega) ?_
    rw [h.t.p hi]
    refine WP.ret (ov := some (.int _)) dX13_parentOf_24 ⟨rfl, _, rfl, by first | rfl | assumption | exact nar_b01 (by assumption)⟩ ?_
    exact hq
set_option maxHeartbeats 1000000 in
set_option maxRecDepth 4000 in
theorem g_readingCount {d m b K : Nat} {Y : Yd} {x : Int32} {w : Nat → Int32} {M : Mem} {Q : Out → Mem → Prop} (hL : ML M) (h : RW Y m b K w) (hb4 : yF Y 4 = nI m)  (hq : QMC Q M w (kC Y x) (fun i => yC Y i 8)) : WPc (d + 20) mX13_readingCount [.ref (rf 11 0), .int x] (sW M w) Q := by
  refine WPc.of (by decide +kernel) (Nat.le_of_ble_eq_true rfl) rfl ?_
  have hm16 := h.t.le
  have hb6 := h.bl
  cases hx : kC Y x with
  | none =>
    rw [hx] at hq
    refine R.aload_n dX13_readingCount_0 rfl (by first | rfl | exact rfv_rf _) ?_
    refine R.iconst (v := 0) dX13_readingCount_1 rfl ?_
    refine R.putI dX13_readingCount_2 fl_X13_65 (fun q hq => by cases hq; exact Or.inl rfl) (by decide) rfl rfl rfl ?_
    rw [sI_sWf M w 0 7 0 (by decide)]
    refine R.aload_n dX13_readingCount_5 rfl (by first | rfl | exact rfv_rf _) ?_
    refine R.iload_n dX13_readingCount_6 rfl ?_
    refine cl_X13_395 rfl rfl (by first | exact Nat.le_of_ble_eq_true rfl | simp [rf_cat, Value.category]) dX13_readingCount_7 ?_
    refine m_noCN hL h hb4 hx ?_
    refine R.if_eq (tgt := 17) dX13_readingCount_10 (by decide) (fun c9 => absurd c9 (by decide)) (fun _ => ?_)
    refine R.iconst (v := 0) dX13_readingCount_13 rfl ?_
    refine R.goto (tgt := 24) dX13_readingCount_14 (by decide) ?_
    refine WP.ret (ov := some (.int _)) dX13_readingCount_24 ⟨rfl, _, rfl, by first | rfl | assumption | exact nar_b01 (by assumption)⟩ ?_
    exact hq
  | some i =>
    rw [hx] at hq
    obtain ⟨rfl, hi⟩ := kC_m hx hm16 hb4
    refine R.aload_n dX13_readingCount_0 rfl (by first | rfl | exact rfv_rf _) ?_
    refine R.iconst (v := 0) dX13_readingCount_1 rfl ?_
    refine R.putI dX13_readingCount_2 fl_X13_65 (fun q hq => by cases hq; exact Or.inl rfl) (by decide) rfl rfl rfl ?_
    rw [sI_sWf M w 0 7 0 (by decide)]
    refine R.aload_n dX13_readingCount_5 rfl (by first | rfl | exact rfv_rf _) ?_
    refine R.iload_n dX13_readingCount_6 rfl ?_
    refine cl_X13_395 rfl rfl (by first | exact Nat.le_of_ble_eq_true rfl | simp [rf_cat, Value.category]) dX13_readingCount_7 ?_
    refine m_noCS hL h hb4 hx ?_
    refine R.if_eq (tgt := 17) dX13_readingCount_10 (by decide) (fun _ => ?_) (fun c9 => absurd (rfl) c9)
    refine R.aload_n dX13_readingCount_17 rfl (by first | rfl | exact rfv_rf _) ?_
    refine R.iload_n dX13_readingCount_18 rfl ?_
    refine R.bipush (v := nI 12) dX13_readingCount_19 (by decide) ?_
    refine cl_X13_68 rfl rfl (by first | exact Nat.le_of_ble_eq_true rfl | simp [rf_cat, Value.category]) dX13_readingCount_21 ?_
    refine m_of (M := sI M 11 0 7 0) hL (by omega) (by omega) ?_
    rw [(h.d (by omega : i < 16)).1]
    refine WP.ret (ov := some (.int _)) dX13_readingCount_24 ⟨rfl, _, rfl, by first | rfl | assumption | exact nar_b01 (by assumption)⟩ ?_
    exact hq
set_option maxHeartbeats 1000000 in
set_option maxRecDepth 4000 in
theorem g_grossOf {d m b K : Nat} {Y : Yd} {x : Int32} {w : Nat → Int32} {M : Mem} {Q : Out → Mem → Prop} (hL : ML M) (h : RW Y m b K w) (hb4 : yF Y 4 = nI m) (hG : LG Y) (hA : Acy Y) (hq : QMC Q M w (kC Y x) (fun i => yC Y i 4)) : WPc (d + 20) mX13_grossOf [.ref (rf 11 0), .int x] (sW M w) Q := by
  refine WPc.of (by decide +kernel) (Nat.le_of_ble_eq_true rfl) rfl ?_
  have hm16 := h.t.le
  have hb6 := h.bl
  cases hx : kC Y x with
  | none =>
    rw [hx] at hq
    refine R.aload_n dX13_grossOf_0 rfl (by first | rfl | exact rfv_rf _) ?_
    refine R.iconst (v := 0) dX13_grossOf_1 rfl ?_
    refine R.putI dX13_grossOf_2 fl_X13_65 (fun q hq => by cases hq; exact Or.inl rfl) (by decide) rfl rfl rfl ?_
    rw [sI_sWf M w 0 7 0 (by decide)]
    refine R.aload_n dX13_grossOf_5 rfl (by first | rfl | exact rfv_rf _) ?_
    refine R.iload_n dX13_grossOf_6 rfl ?_
    refine cl_X13_395 rfl rfl (by first | exact Nat.le_of_ble_eq_true rfl | simp [rf_cat, Value.category]) dX13_grossOf_7 ?_
    refine m_noCN hL h hb4 hx ?_
    refine R.if_eq (tgt := 17) dX13_grossOf_10 (by decide) (fun c9 => absurd c9 (by decide)) (fun _ => ?_)
    refine R.iconst (v := 0) dX13_grossOf_13 rfl ?_
    refine R.goto (tgt := 22) dX13_grossOf_14 (by decide) ?_
    refine WP.ret (ov := some (.int _)) dX13_grossOf_22 ⟨rfl, _, rfl, by first | rfl | assumption | exact nar_b01 (by assumption)⟩ ?_
    exact hq
  | some i =>
    rw [hx] at hq
    obtain ⟨rfl, hi⟩ := kC_m hx hm16 hb4
    refine R.aload_n dX13_grossOf_0 rfl (by first | rfl | exact rfv_rf _) ?_
    refine R.iconst (v := 0) dX13_grossOf_1 rfl ?_
    refine R.putI dX13_grossOf_2 fl_X13_65 (fun q hq => by cases hq; exact Or.inl rfl) (by decide) rfl rfl rfl ?_
    rw [sI_sWf M w 0 7 0 (by decide)]
    refine R.aload_n dX13_grossOf_5 rfl (by first | rfl | exact rfv_rf _) ?_
    refine R.iload_n dX13_grossOf_6 rfl ?_
    refine cl_X13_395 rfl rfl (by first | exact Nat.le_of_ble_eq_true rfl | simp [rf_cat, Value.category]) dX13_grossOf_7 ?_
    refine m_noCS hL h hb4 hx ?_
    refine R.if_eq (tgt := 17) dX13_grossOf_10 (by decide) (fun _ => ?_) (fun c9 => absurd (rfl) c9)
    refine R.aload_n dX13_grossOf_17 rfl (by first | rfl | exact rfv_rf _) ?_
    refine R.iload_n dX13_grossOf_18 rfl ?_
    refine cl_X13_82 rfl rfl (by first | exact Nat.le_of_ble_eq_true rfl | simp [rf_cat, Value.category]) dX13_grossOf_19 ?_
    refine m_gr (d := d + 11) (M := sI M 11 0 7 0) hL h hG hA (by omega) ?_
    refine WP.ret (ov := some (.int _)) dX13_grossOf_22 ⟨rfl, _, rfl, by first | rfl | assumption | exact nar_b01 (by assumption)⟩ ?_
    exact hq
set_option maxHeartbeats 1000000 in
set_option maxRecDepth 4000 in
theorem g_depthOf {d m b K : Nat} {Y : Yd} {x : Int32} {w : Nat → Int32} {M : Mem} {Q : Out → Mem → Prop} (hL : ML M) (h : RW Y m b K w) (hb4 : yF Y 4 = nI m) (hA : Acy Y) (hq : QMC Q M w (kC Y x) (fun i => nI (dp Y i))) : WPc (d + 20) mX13_depthOf [.ref (rf 11 0), .int x] (sW M w) Q := by
  refine WPc.of (by decide +kernel) (Nat.le_of_ble_eq_true rfl) rfl ?_
  have hm16 := h.t.le
  have hb6 := h.bl
  cases hx : kC Y x with
  | none =>
    rw [hx] at hq
    refine R.aload_n dX13_depthOf_0 rfl (by first | rfl | exact rfv_rf _) ?_
    refine R.iconst (v := 0) dX13_depthOf_1 rfl ?_
    refine R.putI dX13_depthOf_2 fl_X13_65 (fun q hq => by cases hq; exact Or.inl rfl) (by decide) rfl rfl rfl ?_
    rw [sI_sWf M w 0 7 0 (by decide)]
    refine R.aload_n dX13_depthOf_5 rfl (by first | rfl | exact rfv_rf _) ?_
    refine R.iload_n dX13_depthOf_6 rfl ?_
    refine cl_X13_395 rfl rfl (by first | exact Nat.le_of_ble_eq_true rfl | simp [rf_cat, Value.category]) dX13_depthOf_7 ?_
    refine m_noCN hL h hb4 hx ?_
    refine R.if_eq (tgt := 17) dX13_depthOf_10 (by decide) (fun c9 => absurd c9 (by decide)) (fun _ => ?_)
    refine R.iconst (v := 0) dX13_depthOf_13 rfl ?_
    refine R.goto (tgt := 22) dX13_depthOf_14 (by decide) ?_
    refine WP.ret (ov := some (.int _)) dX13_depthOf_22 ⟨rfl, _, rfl, by first | rfl | assumption | exact nar_b01 (by assumption)⟩ ?_
    exact hq
  | some i =>
    rw [hx] at hq
    obtain ⟨rfl, hi⟩ := kC_m hx hm16 hb4
    refine R.aload_n dX13_depthOf_0 rfl (by first | rfl | exact rfv_rf _) ?_
    refine R.iconst (v := 0) dX13_depthOf_1 rfl ?_
    refine R.putI dX13_depthOf_2 fl_X13_65 (fun q hq => by cases hq; exact Or.inl rfl) (by decide) rfl rfl rfl ?_
    rw [sI_sWf M w 0 7 0 (by decide)]
    refine R.aload_n dX13_depthOf_5 rfl (by first | rfl | exact rfv_rf _) ?_
    refine R.iload_n dX13_depthOf_6 rfl ?_
    refine cl_X13_395 rfl rfl (by first | exact Nat.le_of_ble_eq_true rfl | simp [rf_cat, Value.category]) dX13_depthOf_7 ?_
    refine m_noCS hL h hb4 hx ?_
    refine R.if_eq (tgt := 17) dX13_depthOf_10 (by decide) (fun _ => ?_) (fun c9 => absurd (rfl) c9)
    refine R.aload_n dX13_depthOf_17 rfl (by first | rfl | exact rfv_rf _) ?_
    refine R.iload_n dX13_depthOf_18 rfl ?_
    refine cl_X13_151 rfl rfl (by first | exact Nat.le_of_ble_eq_true rfl | simp [rf_cat, Value.category]) dX13_depthOf_19 ?_
    refine m_depth (d := d + 18) (M := sI M 11 0 7 0) hL h.t hA hi ?_
    refine WP.ret (ov := some (.int _)) dX13_depthOf_22 ⟨rfl, _, rfl, by first | rfl | assumption | exact nar_b01 (by assumption)⟩ ?_
    exact hq
set_option maxHeartbeats 1000000 in
set_option maxRecDepth 4000 in
theorem g_childCount {d m b K : Nat} {Y : Yd} {x : Int32} {w : Nat → Int32} {M : Mem} {Q : Out → Mem → Prop} (hL : ML M) (h : RW Y m b K w) (hb4 : yF Y 4 = nI m)  (hq : QMC Q M w (kC Y x) (fun i => nI (sm (fun c => if yP Y c = some i then 1 else 0) 16))) : WPc (d + 20) mX13_childCount [.ref (rf 11 0), .int x] (sW M w) Q := by
  refine WPc.of (by decide +kernel) (Nat.le_of_ble_eq_true rfl) rfl ?_
  have hm16 := h.t.le
  have hb6 := h.bl
  cases hx : kC Y x with
  | none =>
    rw [hx] at hq
    refine R.aload_n dX13_childCount_0 rfl (by first | rfl | exact rfv_rf _) ?_
    refine R.iconst (v := 0) dX13_childCount_1 rfl ?_
    refine R.putI dX13_childCount_2 fl_X13_65 (fun q hq => by cases hq; exact Or.inl rfl) (by decide) rfl rfl rfl ?_
    rw [sI_sWf M w 0 7 0 (by decide)]
    refine R.aload_n dX13_childCount_5 rfl (by first | rfl | exact rfv_rf _) ?_
    refine R.iload_n dX13_childCount_6 rfl ?_
    refine cl_X13_395 rfl rfl (by first | exact Nat.le_of_ble_eq_true rfl | simp [rf_cat, Value.category]) dX13_childCount_7 ?_
    refine m_noCN hL h hb4 hx ?_
    refine R.if_eq (tgt := 17) dX13_childCount_10 (by decide) (fun c9 => absurd c9 (by decide)) (fun _ => ?_)
    refine R.iconst (v := 0) dX13_childCount_13 rfl ?_
    refine R.goto (tgt := 22) dX13_childCount_14 (by decide) ?_
    refine WP.ret (ov := some (.int _)) dX13_childCount_22 ⟨rfl, _, rfl, by first | rfl | assumption | exact nar_b01 (by assumption)⟩ ?_
    exact hq
  | some i =>
    rw [hx] at hq
    obtain ⟨rfl, hi⟩ := kC_m hx hm16 hb4
    refine R.aload_n dX13_childCount_0 rfl (by first | rfl | exact rfv_rf _) ?_
    refine R.iconst (v := 0) dX13_childCount_1 rfl ?_
    refine R.putI dX13_childCount_2 fl_X13_65 (fun q hq => by cases hq; exact Or.inl rfl) (by decide) rfl rfl rfl ?_
    rw [sI_sWf M w 0 7 0 (by decide)]
    refine R.aload_n dX13_childCount_5 rfl (by first | rfl | exact rfv_rf _) ?_
    refine R.iload_n dX13_childCount_6 rfl ?_
    refine cl_X13_395 rfl rfl (by first | exact Nat.le_of_ble_eq_true rfl | simp [rf_cat, Value.category]) dX13_childCount_7 ?_
    refine m_noCS hL h hb4 hx ?_
    refine R.if_eq (tgt := 17) dX13_childCount_10 (by decide) (fun _ => ?_) (fun c9 => absurd (rfl) c9)
    refine R.aload_n dX13_childCount_17 rfl (by first | rfl | exact rfv_rf _) ?_
    refine R.iload_n dX13_childCount_18 rfl ?_
    refine cl_X13_401 rfl rfl (by first | exact Nat.le_of_ble_eq_true rfl | simp [rf_cat, Value.category]) dX13_childCount_19 ?_
    refine m_kids (d := d + 18) (M := sI M 11 0 7 0) hL h.t (by omega) ?_
    refine WP.ret (ov := some (.int _)) dX13_childCount_22 ⟨rfl, _, rfl, by first | rfl | assumption | exact nar_b01 (by assumption)⟩ ?_
    exact hq
set_option maxHeartbeats 1000000 in
set_option maxRecDepth 4000 in
theorem g_childOf {d m b K : Nat} {Y : Yd} {x : Int32} {z : Int32} {w : Nat → Int32} {M : Mem} {Q : Out → Mem → Prop} (hL : ML M) (h : RW Y m b K w) (hb4 : yF Y 4 = nI m) (hD : SbD Y) (hq : QMC Q M w (kC Y x) (fun i => coF Y 17 (fCh Y i) 0 z)) : WPc (d + 20) mX13_childOf [.ref (rf 11 0), .int x, .int z] (sW M w) Q := by
  refine WPc.of (by decide +kernel) (Nat.le_of_ble_eq_true rfl) rfl ?_
  have hm16 := h.t.le
  have hb6 := h.bl
  cases hx : kC Y x with
  | none =>
    rw [hx] at hq
    refine R.aload_n dX13_childOf_0 rfl (by first | rfl | exact rfv_rf _) ?_
    refine R.iconst (v := 0) dX13_childOf_1 rfl ?_
    refine R.putI dX13_childOf_2 fl_X13_65 (fun q hq => by cases hq; exact Or.inl rfl) (by decide) rfl rfl rfl ?_
    rw [sI_sWf M w 0 7 0 (by decide)]
    refine R.aload_n dX13_childOf_5 rfl (by first | rfl | exact rfv_rf _) ?_
    refine R.iload_n dX13_childOf_6 rfl ?_
    refine cl_X13_395 rfl rfl (by first | exact Nat.le_of_ble_eq_true rfl | simp [rf_cat, Value.category]) dX13_childOf_7 ?_
    refine m_noCN hL h hb4 hx ?_
    refine R.if_eq (tgt := 17) dX13_childOf_10 (by decide) (fun c9 => absurd c9 (by decide)) (fun _ => ?_)
    refine R.iconst (v := 0) dX13_childOf_13 rfl ?_
    refine R.goto (tgt := 23) dX13_childOf_14 (by decide) ?_
    refine WP.ret (ov := some (.int _)) dX13_childOf_23 ⟨rfl, _, rfl, by first | rfl | assumption | exact nar_b01 (by assumption)⟩ ?_
    exact hq
  | some i =>
    rw [hx] at hq
    obtain ⟨rfl, hi⟩ := kC_m hx hm16 hb4
    refine R.aload_n dX13_childOf_0 rfl (by first | rfl | exact rfv_rf _) ?_
    refine R.iconst (v := 0) dX13_childOf_1 rfl ?_
    refine R.putI dX13_childOf_2 fl_X13_65 (fun q hq => by cases hq; exact Or.inl rfl) (by decide) rfl rfl rfl ?_
    rw [sI_sWf M w 0 7 0 (by decide)]
    refine R.aload_n dX13_childOf_5 rfl (by first | rfl | exact rfv_rf _) ?_
    refine R.iload_n dX13_childOf_6 rfl ?_
    refine cl_X13_395 rfl rfl (by first | exact Nat.le_of_ble_eq_true rfl | simp [rf_cat, Value.category]) dX13_childOf_7 ?_
    refine m_noCS hL h hb4 hx ?_
    refine R.if_eq (tgt := 17) dX13_childOf_10 (by decide) (fun _ => ?_) (fun c9 => absurd (rfl) c9)
    refine R.aload_n dX13_childOf_17 rfl (by first | rfl | exact rfv_rf _) ?_
    refine R.iload_n dX13_childOf_18 rfl ?_
    refine R.iload_n dX13_childOf_19 rfl ?_
    refine cl_X13_404 rfl rfl (by first | exact Nat.le_of_ble_eq_true rfl | simp [rf_cat, Value.category]) dX13_childOf_20 ?_
    refine m_child (d := d + 17) (M := sI M 11 0 7 0) hL h.t h.s hD (by omega) ?_
    refine WP.ret (ov := some (.int _)) dX13_childOf_23 ⟨rfl, _, rfl, by first | rfl | assumption | exact nar_b01 (by assumption)⟩ ?_
    exact hq
set_option maxHeartbeats 1000000 in
set_option maxRecDepth 4000 in
theorem g_moneyOf {d m b K : Nat} {Y : Yd} {x : Int32} {w : Nat → Int32} {M : Mem} {Q : Out → Mem → Prop} (hL : ML M) (h : RW Y m b K w) (hb5 : yF Y 5 = nI b)  (hq : QMC Q M w (kU Y x) (fun i => yB Y i 2)) : WPc (d + 20) mX13_moneyOf [.ref (rf 11 0), .int x] (sW M w) Q := by
  refine WPc.of (by decide +kernel) (Nat.le_of_ble_eq_true rfl) rfl ?_
  have hm16 := h.t.le
  have hb6 := h.bl
  cases hx : kU Y x with
  | none =>
    rw [hx] at hq
    refine R.aload_n dX13_moneyOf_0 rfl (by first | rfl | exact rfv_rf _) ?_
    refine R.iconst (v := 0) dX13_moneyOf_1 rfl ?_
    refine R.putI dX13_moneyOf_2 fl_X13_65 (fun q hq => by cases hq; exact Or.inl rfl) (by decide) rfl rfl rfl ?_
    rw [sI_sWf M w 0 7 0 (by decide)]
    refine R.aload_n dX13_moneyOf_5 rfl (by first | rfl | exact rfv_rf _) ?_
    refine R.iload_n dX13_moneyOf_6 rfl ?_
    refine cl_X13_398 rfl rfl (by first | exact Nat.le_of_ble_eq_true rfl | simp [rf_cat, Value.category]) dX13_moneyOf_7 ?_
    refine m_noBN hL h hb5 hx ?_
    refine R.if_eq (tgt := 17) dX13_moneyOf_10 (by decide) (fun c9 => absurd c9 (by decide)) (fun _ => ?_)
    refine R.iconst (v := 0) dX13_moneyOf_13 rfl ?_
    refine R.goto (tgt := 24) dX13_moneyOf_14 (by decide) ?_
    refine WP.ret (ov := some (.int _)) dX13_moneyOf_24 ⟨rfl, _, rfl, by first | rfl | assumption | exact nar_b01 (by assumption)⟩ ?_
    exact hq
  | some i =>
    rw [hx] at hq
    obtain ⟨rfl, hi⟩ := kU_m hx hb6 hb5
    refine R.aload_n dX13_moneyOf_0 rfl (by first | rfl | exact rfv_rf _) ?_
    refine R.iconst (v := 0) dX13_moneyOf_1 rfl ?_
    refine R.putI dX13_moneyOf_2 fl_X13_65 (fun q hq => by cases hq; exact Or.inl rfl) (by decide) rfl rfl rfl ?_
    rw [sI_sWf M w 0 7 0 (by decide)]
    refine R.aload_n dX13_moneyOf_5 rfl (by first | rfl | exact rfv_rf _) ?_
    refine R.iload_n dX13_moneyOf_6 rfl ?_
    refine cl_X13_398 rfl rfl (by first | exact Nat.le_of_ble_eq_true rfl | simp [rf_cat, Value.category]) dX13_moneyOf_7 ?_
    refine m_noBS hL h hb5 hx ?_
    refine R.if_eq (tgt := 17) dX13_moneyOf_10 (by decide) (fun _ => ?_) (fun c9 => absurd (rfl) c9)
    refine R.aload_n dX13_moneyOf_17 rfl (by first | rfl | exact rfv_rf _) ?_
    refine R.iload_n dX13_moneyOf_18 rfl ?_
    refine R.bipush (v := nI 7) dX13_moneyOf_19 (by decide) ?_
    refine cl_X13_154 rfl rfl (by first | exact Nat.le_of_ble_eq_true rfl | simp [rf_cat, Value.category]) dX13_moneyOf_21 ?_
    refine m_ofB (M := sI M 11 0 7 0) hL (by omega) (by omega) ?_
    rw [(h.bu (by omega : i < 6)).1]
    refine WP.ret (ov := some (.int _)) dX13_moneyOf_24 ⟨rfl, _, rfl, by first | rfl | assumption | exact nar_b01 (by assumption)⟩ ?_
    exact hq
set_option maxHeartbeats 1000000 in
set_option maxRecDepth 4000 in
theorem g_toleranceOf {d m b K : Nat} {Y : Yd} {x : Int32} {w : Nat → Int32} {M : Mem} {Q : Out → Mem → Prop} (hL : ML M) (h : RW Y m b K w) (hb5 : yF Y 5 = nI b)  (hq : QMC Q M w (kU Y x) (fun i => yB Y i 3)) : WPc (d + 20) mX13_toleranceOf [.ref (rf 11 0), .int x] (sW M w) Q := by
  refine WPc.of (by decide +kernel) (Nat.le_of_ble_eq_true rfl) rfl ?_
  have hm16 := h.t.le
  have hb6 := h.bl
  cases hx : kU Y x with
  | none =>
    rw [hx] at hq
    refine R.aload_n dX13_toleranceOf_0 rfl (by first | rfl | exact rfv_rf _) ?_
    refine R.iconst (v := 0) dX13_toleranceOf_1 rfl ?_
    refine R.putI dX13_toleranceOf_2 fl_X13_65 (fun q hq => by cases hq; exact Or.inl rfl) (by decide) rfl rfl rfl ?_
    rw [sI_sWf M w 0 7 0 (by decide)]
    refine R.aload_n dX13_toleranceOf_5 rfl (by first | rfl | exact rfv_rf _) ?_
    refine R.iload_n dX13_toleranceOf_6 rfl ?_
    refine cl_X13_398 rfl rfl (by first | exact Nat.le_of_ble_eq_true rfl | simp [rf_cat, Value.category]) dX13_toleranceOf_7 ?_
    refine m_noBN hL h hb5 hx ?_
    refine R.if_eq (tgt := 17) dX13_toleranceOf_10 (by decide) (fun c9 => absurd c9 (by decide)) (fun _ => ?_)
    refine R.iconst (v := 0) dX13_toleranceOf_13 rfl ?_
    refine R.goto (tgt := 24) dX13_toleranceOf_14 (by decide) ?_
    refine WP.ret (ov := some (.int _)) dX13_toleranceOf_24 ⟨rfl, _, rfl, by first | rfl | assumption | exact nar_b01 (by assumption)⟩ ?_
    exact hq
  | some i =>
    rw [hx] at hq
    obtain ⟨rfl, hi⟩ := kU_m hx hb6 hb5
    refine R.aload_n dX13_toleranceOf_0 rfl (by first | rfl | exact rfv_rf _) ?_
    refine R.iconst (v := 0) dX13_toleranceOf_1 rfl ?_
    refine R.putI dX13_toleranceOf_2 fl_X13_65 (fun q hq => by cases hq; exact Or.inl rfl) (by decide) rfl rfl rfl ?_
    rw [sI_sWf M w 0 7 0 (by decide)]
    refine R.aload_n dX13_toleranceOf_5 rfl (by first | rfl | exact rfv_rf _) ?_
    refine R.iload_n dX13_toleranceOf_6 rfl ?_
    refine cl_X13_398 rfl rfl (by first | exact Nat.le_of_ble_eq_true rfl | simp [rf_cat, Value.category]) dX13_toleranceOf_7 ?_
    refine m_noBS hL h hb5 hx ?_
    refine R.if_eq (tgt := 17) dX13_toleranceOf_10 (by decide) (fun _ => ?_) (fun c9 => absurd (rfl) c9)
    refine R.aload_n dX13_toleranceOf_17 rfl (by first | rfl | exact rfv_rf _) ?_
    refine R.iload_n dX13_toleranceOf_18 rfl ?_
    refine R.bipush (v := nI 8) dX13_toleranceOf_19 (by decide) ?_
    refine cl_X13_154 rfl rfl (by first | exact Nat.le_of_ble_eq_true rfl | simp [rf_cat, Value.category]) dX13_toleranceOf_21 ?_
    refine m_ofB (M := sI M 11 0 7 0) hL (by omega) (by omega) ?_
    rw [(h.bu (by omega : i < 6)).2.1]
    refine WP.ret (ov := some (.int _)) dX13_toleranceOf_24 ⟨rfl, _, rfl, by first | rfl | assumption | exact nar_b01 (by assumption)⟩ ?_
    exact hq
set_option maxHeartbeats 1000000 in
set_option maxRecDepth 4000 in
theorem g_trustOf {d m b K : Nat} {Y : Yd} {x : Int32} {w : Nat → Int32} {M : Mem} {Q : Out → Mem → Prop} (hL : ML M) (h : RW Y m b K w) (hb5 : yF Y 5 = nI b)  (hq : QMC Q M w (kU Y x) (fun i => yB Y i 4)) : WPc (d + 20) mX13_trustOf [.ref (rf 11 0), .int x] (sW M w) Q := by
  refine WPc.of (by decide +kernel) (Nat.le_of_ble_eq_true rfl) rfl ?_
  have hm16 := h.t.le
  have hb6 := h.bl
  cases hx : kU Y x with
  | none =>
    rw [hx] at hq
    refine R.aload_n dX13_trustOf_0 rfl (by first | rfl | exact rfv_rf _) ?_
    refine R.iconst (v := 0) dX13_trustOf_1 rfl ?_
    refine R.putI dX13_trustOf_2 fl_X13_65 (fun q hq => by cases hq; exact Or.inl rfl) (by decide) rfl rfl rfl ?_
    rw [sI_sWf M w 0 7 0 (by decide)]
    refine R.aload_n dX13_trustOf_5 rfl (by first | rfl | exact rfv_rf _) ?_
    refine R.iload_n dX13_trustOf_6 rfl ?_
    refine cl_X13_398 rfl rfl (by first | exact Nat.le_of_ble_eq_true rfl | simp [rf_cat, Value.category]) dX13_trustOf_7 ?_
    refine m_noBN hL h hb5 hx ?_
    refine R.if_eq (tgt := 17) dX13_trustOf_10 (by decide) (fun c9 => absurd c9 (by decide)) (fun _ => ?_)
    refine R.iconst (v := 0) dX13_trustOf_13 rfl ?_
    refine R.goto (tgt := 24) dX13_trustOf_14 (by decide) ?_
    refine WP.ret (ov := some (.int _)) dX13_trustOf_24 ⟨rfl, _, rfl, by first | rfl | assumption | exact nar_b01 (by assumption)⟩ ?_
    exact hq
  | some i =>
    rw [hx] at hq
    obtain ⟨rfl, hi⟩ := kU_m hx hb6 hb5
    refine R.aload_n dX13_trustOf_0 rfl (by first | rfl | exact rfv_rf _) ?_
    refine R.iconst (v := 0) dX13_trustOf_1 rfl ?_
    refine R.putI dX13_trustOf_2 fl_X13_65 (fun q hq => by cases hq; exact Or.inl rfl) (by decide) rfl rfl rfl ?_
    rw [sI_sWf M w 0 7 0 (by decide)]
    refine R.aload_n dX13_trustOf_5 rfl (by first | rfl | exact rfv_rf _) ?_
    refine R.iload_n dX13_trustOf_6 rfl ?_
    refine cl_X13_398 rfl rfl (by first | exact Nat.le_of_ble_eq_true rfl | simp [rf_cat, Value.category]) dX13_trustOf_7 ?_
    refine m_noBS hL h hb5 hx ?_
    refine R.if_eq (tgt := 17) dX13_trustOf_10 (by decide) (fun _ => ?_) (fun c9 => absurd (rfl) c9)
    refine R.aload_n dX13_trustOf_17 rfl (by first | rfl | exact rfv_rf _) ?_
    refine R.iload_n dX13_trustOf_18 rfl ?_
    refine R.bipush (v := nI 9) dX13_trustOf_19 (by decide) ?_
    refine cl_X13_154 rfl rfl (by first | exact Nat.le_of_ble_eq_true rfl | simp [rf_cat, Value.category]) dX13_trustOf_21 ?_
    refine m_ofB (M := sI M 11 0 7 0) hL (by omega) (by omega) ?_
    rw [(h.bu (by omega : i < 6)).2.2.1]
    refine WP.ret (ov := some (.int _)) dX13_trustOf_24 ⟨rfl, _, rfl, by first | rfl | assumption | exact nar_b01 (by assumption)⟩ ?_
    exact hq
set_option maxHeartbeats 1000000 in
set_option maxRecDepth 4000 in
theorem g_purchasesOf {d m b K : Nat} {Y : Yd} {x : Int32} {w : Nat → Int32} {M : Mem} {Q : Out → Mem → Prop} (hL : ML M) (h : RW Y m b K w) (hb5 : yF Y 5 = nI b)  (hq : QMC Q M w (kU Y x) (fun i => yB Y i 5)) : WPc (d + 20) mX13_purchasesOf [.ref (rf 11 0), .int x] (sW M w) Q := by
  refine WPc.of (by decide +kernel) (Nat.le_of_ble_eq_true rfl) rfl ?_
  have hm16 := h.t.le
  have hb6 := h.bl
  cases hx : kU Y x with
  | none =>
    rw [hx] at hq
    refine R.aload_n dX13_purchasesOf_0 rfl (by first | rfl | exact rfv_rf _) ?_
    refine R.iconst (v := 0) dX13_purchasesOf_1 rfl ?_
    refine R.putI dX13_purchasesOf_2 fl_X13_65 (fun q hq => by cases hq; exact Or.inl rfl) (by decide) rfl rfl rfl ?_
    rw [sI_sWf M w 0 7 0 (by decide)]
    refine R.aload_n dX13_purchasesOf_5 rfl (by first | rfl | exact rfv_rf _) ?_
    refine R.iload_n dX13_purchasesOf_6 rfl ?_
    refine cl_X13_398 rfl rfl (by first | exact Nat.le_of_ble_eq_true rfl | simp [rf_cat, Value.category]) dX13_purchasesOf_7 ?_
    refine m_noBN hL h hb5 hx ?_
    refine R.if_eq (tgt := 17) dX13_purchasesOf_10 (by decide) (fun c9 => absurd c9 (by decide)) (fun _ => ?_)
    refine R.iconst (v := 0) dX13_purchasesOf_13 rfl ?_
    refine R.goto (tgt := 24) dX13_purchasesOf_14 (by decide) ?_
    refine WP.ret (ov := some (.int _)) dX13_purchasesOf_24 ⟨rfl, _, rfl, by first | rfl | assumption | exact nar_b01 (by assumption)⟩ ?_
    exact hq
  | some i =>
    rw [hx] at hq
    obtain ⟨rfl, hi⟩ := kU_m hx hb6 hb5
    refine R.aload_n dX13_purchasesOf_0 rfl (by first | rfl | exact rfv_rf _) ?_
    refine R.iconst (v := 0) dX13_purchasesOf_1 rfl ?_
    refine R.putI dX13_purchasesOf_2 fl_X13_65 (fun q hq => by cases hq; exact Or.inl rfl) (by decide) rfl rfl rfl ?_
    rw [sI_sWf M w 0 7 0 (by decide)]
    refine R.aload_n dX13_purchasesOf_5 rfl (by first | rfl | exact rfv_rf _) ?_
    refine R.iload_n dX13_purchasesOf_6 rfl ?_
    refine cl_X13_398 rfl rfl (by first | exact Nat.le_of_ble_eq_true rfl | simp [rf_cat, Value.category]) dX13_purchasesOf_7 ?_
    refine m_noBS hL h hb5 hx ?_
    refine R.if_eq (tgt := 17) dX13_purchasesOf_10 (by decide) (fun _ => ?_) (fun c9 => absurd (rfl) c9)
    refine R.aload_n dX13_purchasesOf_17 rfl (by first | rfl | exact rfv_rf _) ?_
    refine R.iload_n dX13_purchasesOf_18 rfl ?_
    refine R.bipush (v := nI 10) dX13_purchasesOf_19 (by decide) ?_
    refine cl_X13_154 rfl rfl (by first | exact Nat.le_of_ble_eq_true rfl | simp [rf_cat, Value.category]) dX13_purchasesOf_21 ?_
    refine m_ofB (M := sI M 11 0 7 0) hL (by omega) (by omega) ?_
    rw [(h.bu (by omega : i < 6)).2.2.2]
    refine WP.ret (ov := some (.int _)) dX13_purchasesOf_24 ⟨rfl, _, rfl, by first | rfl | assumption | exact nar_b01 (by assumption)⟩ ?_
    exact hq
theorem g_springAge {d m b K : Nat} {Y : Yd} {w : Nat → Int32} {M : Mem} {Q : Out → Mem → Prop} (hL : ML M) (h : RW Y m b K w) (hq : Q (.inl (some (.int (yS Y 3)))) (sW (sI M 11 0 7 0) w)) : WPc (d + 20) mX13_springAge [.ref (rf 11 0)] (sW M w) Q := by
  refine WPc.of (by decide +kernel) (Nat.le_of_ble_eq_true rfl) rfl ?_
  refine R.aload_n dX13_springAge_0 rfl (by first | rfl | exact rfv_rf _) ?_
  refine R.iconst (v := 0) dX13_springAge_1 rfl ?_
  refine R.putI dX13_springAge_2 fl_X13_65 (fun q hq => by cases hq; exact Or.inl rfl) (by decide) rfl rfl rfl ?_
  rw [sI_sWf M w 0 7 0 (by decide)]
  refine R.aload_n dX13_springAge_5 rfl (by first | rfl | exact rfv_rf _) ?_
  refine R.getS (hL.w) dX13_springAge_6 fl_X13_7 (by decide) rfl ?_
  refine R.bipush (v := nI 7) dX13_springAge_9 (by decide) ?_
  refine R.ialdN (k := 7) dX13_springAge_11 (by omega) (by show _ < mN M 14 0; rw [hL.n]; omega) ?_
  rw [mI_sWc, h.h.2.2.2.2.2.2.1]
  refine WP.ret (ov := some (.int _)) dX13_springAge_12 ⟨rfl, _, rfl, by first | rfl | assumption | exact nar_b01 (by assumption)⟩ ?_
  exact hq
theorem g_amplitude {d m b K : Nat} {Y : Yd} {w : Nat → Int32} {M : Mem} {Q : Out → Mem → Prop} (hL : ML M) (h : RW Y m b K w) (hq : Q (.inl (some (.int (yS Y 1)))) (sW (sI M 11 0 7 0) w)) : WPc (d + 20) mX13_amplitude [.ref (rf 11 0)] (sW M w) Q := by
  refine WPc.of (by decide +kernel) (Nat.le_of_ble_eq_true rfl) rfl ?_
  refine R.aload_n dX13_amplitude_0 rfl (by first | rfl | exact rfv_rf _) ?_
  refine R.iconst (v := 0) dX13_amplitude_1 rfl ?_
  refine R.putI dX13_amplitude_2 fl_X13_65 (fun q hq => by cases hq; exact Or.inl rfl) (by decide) rfl rfl rfl ?_
  rw [sI_sWf M w 0 7 0 (by decide)]
  refine R.aload_n dX13_amplitude_5 rfl (by first | rfl | exact rfv_rf _) ?_
  refine R.getS (hL.w) dX13_amplitude_6 fl_X13_7 (by decide) rfl ?_
  refine R.iconst (v := nI 2) dX13_amplitude_9 rfl ?_
  refine R.ialdN (k := 2) dX13_amplitude_10 (by omega) (by show _ < mN M 14 0; rw [hL.n]; omega) ?_
  rw [mI_sWc, h.h.2.1]
  refine WP.ret (ov := some (.int _)) dX13_amplitude_11 ⟨rfl, _, rfl, by first | rfl | assumption | exact nar_b01 (by assumption)⟩ ?_
  exact hq
theorem g_aging {d m b K : Nat} {Y : Yd} {w : Nat → Int32} {M : Mem} {Q : Out → Mem → Prop} (hL : ML M) (h : RW Y m b K w) (hq : Q (.inl (some (.int (yS Y 2)))) (sW (sI M 11 0 7 0) w)) : WPc (d + 20) mX13_aging [.ref (rf 11 0)] (sW M w) Q := by
  refine WPc.of (by decide +kernel) (Nat.le_of_ble_eq_true rfl) rfl ?_
  refine R.aload_n dX13_aging_0 rfl (by first | rfl | exact rfv_rf _) ?_
  refine R.iconst (v := 0) dX13_aging_1 rfl ?_
  refine R.putI dX13_aging_2 fl_X13_65 (fun q hq => by cases hq; exact Or.inl rfl) (by decide) rfl rfl rfl ?_
  rw [sI_sWf M w 0 7 0 (by decide)]
  refine R.aload_n dX13_aging_5 rfl (by first | rfl | exact rfv_rf _) ?_
  refine R.getS (hL.w) dX13_aging_6 fl_X13_7 (by decide) rfl ?_
  refine R.iconst (v := nI 4) dX13_aging_9 rfl ?_
  refine R.ialdN (k := 4) dX13_aging_10 (by omega) (by show _ < mN M 14 0; rw [hL.n]; omega) ?_
  rw [mI_sWc, h.h.2.2.2.1]
  refine WP.ret (ov := some (.int _)) dX13_aging_11 ⟨rfl, _, rfl, by first | rfl | assumption | exact nar_b01 (by assumption)⟩ ?_
  exact hq
theorem g_requiredReadings {d m b K : Nat} {Y : Yd} {w : Nat → Int32} {M : Mem} {Q : Out → Mem → Prop} (hL : ML M) (h : RW Y m b K w) (hq : Q (.inl (some (.int (yF Y 6)))) (sW (sI M 11 0 7 0) w)) : WPc (d + 20) mX13_requiredReadings [.ref (rf 11 0)] (sW M w) Q := by
  refine WPc.of (by decide +kernel) (Nat.le_of_ble_eq_true rfl) rfl ?_
  refine R.aload_n dX13_requiredReadings_0 rfl (by first | rfl | exact rfv_rf _) ?_
  refine R.iconst (v := 0) dX13_requiredReadings_1 rfl ?_
  refine R.putI dX13_requiredReadings_2 fl_X13_65 (fun q hq => by cases hq; exact Or.inl rfl) (by decide) rfl rfl rfl ?_
  rw [sI_sWf M w 0 7 0 (by decide)]
  refine R.aload_n dX13_requiredReadings_5 rfl (by first | rfl | exact rfv_rf _) ?_
  refine R.getS (hL.w) dX13_requiredReadings_6 fl_X13_7 (by decide) rfl ?_
  refine R.iconst (v := nI 5) dX13_requiredReadings_9 rfl ?_
  refine R.ialdN (k := 5) dX13_requiredReadings_10 (by omega) (by show _ < mN M 14 0; rw [hL.n]; omega) ?_
  rw [mI_sWc, h.h.2.2.2.2.1]
  refine WP.ret (ov := some (.int _)) dX13_requiredReadings_11 ⟨rfl, _, rfl, by first | rfl | assumption | exact nar_b01 (by assumption)⟩ ?_
  exact hq
theorem g_requiredTrust {d m b K : Nat} {Y : Yd} {w : Nat → Int32} {M : Mem} {Q : Out → Mem → Prop} (hL : ML M) (h : RW Y m b K w) (hq : Q (.inl (some (.int (yF Y 7)))) (sW (sI M 11 0 7 0) w)) : WPc (d + 20) mX13_requiredTrust [.ref (rf 11 0)] (sW M w) Q := by
  refine WPc.of (by decide +kernel) (Nat.le_of_ble_eq_true rfl) rfl ?_
  refine R.aload_n dX13_requiredTrust_0 rfl (by first | rfl | exact rfv_rf _) ?_
  refine R.iconst (v := 0) dX13_requiredTrust_1 rfl ?_
  refine R.putI dX13_requiredTrust_2 fl_X13_65 (fun q hq => by cases hq; exact Or.inl rfl) (by decide) rfl rfl rfl ?_
  rw [sI_sWf M w 0 7 0 (by decide)]
  refine R.aload_n dX13_requiredTrust_5 rfl (by first | rfl | exact rfv_rf _) ?_
  refine R.getS (hL.w) dX13_requiredTrust_6 fl_X13_7 (by decide) rfl ?_
  refine R.bipush (v := nI 6) dX13_requiredTrust_9 (by decide) ?_
  refine R.ialdN (k := 6) dX13_requiredTrust_11 (by omega) (by show _ < mN M 14 0; rw [hL.n]; omega) ?_
  rw [mI_sWc, h.h.2.2.2.2.2.1]
  refine WP.ret (ov := some (.int _)) dX13_requiredTrust_12 ⟨rfl, _, rfl, by first | rfl | assumption | exact nar_b01 (by assumption)⟩ ?_
  exact hq
theorem g_totalReadings {d m b K : Nat} {Y : Yd} {w : Nat → Int32} {M : Mem} {Q : Out → Mem → Prop} (hL : ML M) (h : RW Y m b K w) (hq : Q (.inl (some (.int (yT Y 0)))) (sW (sI M 11 0 7 0) w)) : WPc (d + 20) mX13_totalReadings [.ref (rf 11 0)] (sW M w) Q := by
  refine WPc.of (by decide +kernel) (Nat.le_of_ble_eq_true rfl) rfl ?_
  refine R.aload_n dX13_totalReadings_0 rfl (by first | rfl | exact rfv_rf _) ?_
  refine R.iconst (v := 0) dX13_totalReadings_1 rfl ?_
  refine R.putI dX13_totalReadings_2 fl_X13_65 (fun q hq => by cases hq; exact Or.inl rfl) (by decide) rfl rfl rfl ?_
  rw [sI_sWf M w 0 7 0 (by decide)]
  refine R.aload_n dX13_totalReadings_5 rfl (by first | rfl | exact rfv_rf _) ?_
  refine R.getS (hL.w) dX13_totalReadings_6 fl_X13_7 (by decide) rfl ?_
  refine R.bipush (v := nI 8) dX13_totalReadings_9 (by decide) ?_
  refine R.ialdN (k := 8) dX13_totalReadings_11 (by omega) (by show _ < mN M 14 0; rw [hL.n]; omega) ?_
  rw [mI_sWc, h.h.2.2.2.2.2.2.2.1]
  refine WP.ret (ov := some (.int _)) dX13_totalReadings_12 ⟨rfl, _, rfl, by first | rfl | assumption | exact nar_b01 (by assumption)⟩ ?_
  exact hq
theorem g_totalDiscarded {d m b K : Nat} {Y : Yd} {w : Nat → Int32} {M : Mem} {Q : Out → Mem → Prop} (hL : ML M) (h : RW Y m b K w) (hq : Q (.inl (some (.int (yT Y 1)))) (sW (sI M 11 0 7 0) w)) : WPc (d + 20) mX13_totalDiscarded [.ref (rf 11 0)] (sW M w) Q := by
  refine WPc.of (by decide +kernel) (Nat.le_of_ble_eq_true rfl) rfl ?_
  refine R.aload_n dX13_totalDiscarded_0 rfl (by first | rfl | exact rfv_rf _) ?_
  refine R.iconst (v := 0) dX13_totalDiscarded_1 rfl ?_
  refine R.putI dX13_totalDiscarded_2 fl_X13_65 (fun q hq => by cases hq; exact Or.inl rfl) (by decide) rfl rfl rfl ?_
  rw [sI_sWf M w 0 7 0 (by decide)]
  refine R.aload_n dX13_totalDiscarded_5 rfl (by first | rfl | exact rfv_rf _) ?_
  refine R.getS (hL.w) dX13_totalDiscarded_6 fl_X13_7 (by decide) rfl ?_
  refine R.bipush (v := nI 9) dX13_totalDiscarded_9 (by decide) ?_
  refine R.ialdN (k := 9) dX13_totalDiscarded_11 (by omega) (by show _ < mN M 14 0; rw [hL.n]; omega) ?_
  rw [mI_sWc, h.h.2.2.2.2.2.2.2.2.1]
  refine WP.ret (ov := some (.int _)) dX13_totalDiscarded_12 ⟨rfl, _, rfl, by first | rfl | assumption | exact nar_b01 (by assumption)⟩ ?_
  exact hq
theorem g_springsReplaced {d m b K : Nat} {Y : Yd} {w : Nat → Int32} {M : Mem} {Q : Out → Mem → Prop} (hL : ML M) (h : RW Y m b K w) (hq : Q (.inl (some (.int (yT Y 2)))) (sW (sI M 11 0 7 0) w)) : WPc (d + 20) mX13_springsReplaced [.ref (rf 11 0)] (sW M w) Q := by
  refine WPc.of (by decide +kernel) (Nat.le_of_ble_eq_true rfl) rfl ?_
  refine R.aload_n dX13_springsReplaced_0 rfl (by first | rfl | exact rfv_rf _) ?_
  refine R.iconst (v := 0) dX13_springsReplaced_1 rfl ?_
  refine R.putI dX13_springsReplaced_2 fl_X13_65 (fun q hq => by cases hq; exact Or.inl rfl) (by decide) rfl rfl rfl ?_
  rw [sI_sWf M w 0 7 0 (by decide)]
  refine R.aload_n dX13_springsReplaced_5 rfl (by first | rfl | exact rfv_rf _) ?_
  refine R.getS (hL.w) dX13_springsReplaced_6 fl_X13_7 (by decide) rfl ?_
  refine R.bipush (v := nI 10) dX13_springsReplaced_9 (by decide) ?_
  refine R.ialdN (k := 10) dX13_springsReplaced_11 (by omega) (by show _ < mN M 14 0; rw [hL.n]; omega) ?_
  rw [mI_sWc, h.h.2.2.2.2.2.2.2.2.2.1]
  refine WP.ret (ov := some (.int _)) dX13_springsReplaced_12 ⟨rfl, _, rfl, by first | rfl | assumption | exact nar_b01 (by assumption)⟩ ?_
  exact hq
theorem g_salesCount {d m b K : Nat} {Y : Yd} {w : Nat → Int32} {M : Mem} {Q : Out → Mem → Prop} (hL : ML M) (h : RW Y m b K w) (hq : Q (.inl (some (.int (yT Y 3)))) (sW (sI M 11 0 7 0) w)) : WPc (d + 20) mX13_salesCount [.ref (rf 11 0)] (sW M w) Q := by
  refine WPc.of (by decide +kernel) (Nat.le_of_ble_eq_true rfl) rfl ?_
  refine R.aload_n dX13_salesCount_0 rfl (by first | rfl | exact rfv_rf _) ?_
  refine R.iconst (v := 0) dX13_salesCount_1 rfl ?_
  refine R.putI dX13_salesCount_2 fl_X13_65 (fun q hq => by cases hq; exact Or.inl rfl) (by decide) rfl rfl rfl ?_
  rw [sI_sWf M w 0 7 0 (by decide)]
  refine R.aload_n dX13_salesCount_5 rfl (by first | rfl | exact rfv_rf _) ?_
  refine R.getS (hL.w) dX13_salesCount_6 fl_X13_7 (by decide) rfl ?_
  refine R.bipush (v := nI 11) dX13_salesCount_9 (by decide) ?_
  refine R.ialdN (k := 11) dX13_salesCount_11 (by omega) (by show _ < mN M 14 0; rw [hL.n]; omega) ?_
  rw [mI_sWc, h.h.2.2.2.2.2.2.2.2.2.2.1]
  refine WP.ret (ov := some (.int _)) dX13_salesCount_12 ⟨rfl, _, rfl, by first | rfl | assumption | exact nar_b01 (by assumption)⟩ ?_
  exact hq
theorem g_totalPrices {d m b K : Nat} {Y : Yd} {w : Nat → Int32} {M : Mem} {Q : Out → Mem → Prop} (hL : ML M) (h : RW Y m b K w) (hq : Q (.inl (some (.int (yT Y 4)))) (sW (sI M 11 0 7 0) w)) : WPc (d + 20) mX13_totalPrices [.ref (rf 11 0)] (sW M w) Q := by
  refine WPc.of (by decide +kernel) (Nat.le_of_ble_eq_true rfl) rfl ?_
  refine R.aload_n dX13_totalPrices_0 rfl (by first | rfl | exact rfv_rf _) ?_
  refine R.iconst (v := 0) dX13_totalPrices_1 rfl ?_
  refine R.putI dX13_totalPrices_2 fl_X13_65 (fun q hq => by cases hq; exact Or.inl rfl) (by decide) rfl rfl rfl ?_
  rw [sI_sWf M w 0 7 0 (by decide)]
  refine R.aload_n dX13_totalPrices_5 rfl (by first | rfl | exact rfv_rf _) ?_
  refine R.getS (hL.w) dX13_totalPrices_6 fl_X13_7 (by decide) rfl ?_
  refine R.bipush (v := nI 12) dX13_totalPrices_9 (by decide) ?_
  refine R.ialdN (k := 12) dX13_totalPrices_11 (by omega) (by show _ < mN M 14 0; rw [hL.n]; omega) ?_
  rw [mI_sWc, h.h.2.2.2.2.2.2.2.2.2.2.2.1]
  refine WP.ret (ov := some (.int _)) dX13_totalPrices_12 ⟨rfl, _, rfl, by first | rfl | assumption | exact nar_b01 (by assumption)⟩ ?_
  exact hq
theorem g_totalRefunds {d m b K : Nat} {Y : Yd} {w : Nat → Int32} {M : Mem} {Q : Out → Mem → Prop} (hL : ML M) (h : RW Y m b K w) (hq : Q (.inl (some (.int (yT Y 5)))) (sW (sI M 11 0 7 0) w)) : WPc (d + 20) mX13_totalRefunds [.ref (rf 11 0)] (sW M w) Q := by
  refine WPc.of (by decide +kernel) (Nat.le_of_ble_eq_true rfl) rfl ?_
  refine R.aload_n dX13_totalRefunds_0 rfl (by first | rfl | exact rfv_rf _) ?_
  refine R.iconst (v := 0) dX13_totalRefunds_1 rfl ?_
  refine R.putI dX13_totalRefunds_2 fl_X13_65 (fun q hq => by cases hq; exact Or.inl rfl) (by decide) rfl rfl rfl ?_
  rw [sI_sWf M w 0 7 0 (by decide)]
  refine R.aload_n dX13_totalRefunds_5 rfl (by first | rfl | exact rfv_rf _) ?_
  refine R.getS (hL.w) dX13_totalRefunds_6 fl_X13_7 (by decide) rfl ?_
  refine R.bipush (v := nI 13) dX13_totalRefunds_9 (by decide) ?_
  refine R.ialdN (k := 13) dX13_totalRefunds_11 (by omega) (by show _ < mN M 14 0; rw [hL.n]; omega) ?_
  rw [mI_sWc, h.h.2.2.2.2.2.2.2.2.2.2.2.2.1]
  refine WP.ret (ov := some (.int _)) dX13_totalRefunds_12 ⟨rfl, _, rfl, by first | rfl | assumption | exact nar_b01 (by assumption)⟩ ?_
  exact hq
theorem g_buyerCount {d m b K : Nat} {Y : Yd} {w : Nat → Int32} {M : Mem} {Q : Out → Mem → Prop} (hL : ML M) (h : RW Y m b K w) (hq : Q (.inl (some (.int (yF Y 5)))) (sW (sI M 11 0 7 0) w)) : WPc (d + 20) mX13_buyerCount [.ref (rf 11 0)] (sW M w) Q := by
  refine WPc.of (by decide +kernel) (Nat.le_of_ble_eq_true rfl) rfl ?_
  refine R.aload_n dX13_buyerCount_0 rfl (by first | rfl | exact rfv_rf _) ?_
  refine R.iconst (v := 0) dX13_buyerCount_1 rfl ?_
  refine R.putI dX13_buyerCount_2 fl_X13_65 (fun q hq => by cases hq; exact Or.inl rfl) (by decide) rfl rfl rfl ?_
  rw [sI_sWf M w 0 7 0 (by decide)]
  refine R.aload_n dX13_buyerCount_5 rfl (by first | rfl | exact rfv_rf _) ?_
  refine R.getS (hL.w) dX13_buyerCount_6 fl_X13_7 (by decide) rfl ?_
  refine R.iconst (v := nI 1) dX13_buyerCount_9 rfl ?_
  refine R.ialdN (k := 1) dX13_buyerCount_10 (by omega) (by show _ < mN M 14 0; rw [hL.n]; omega) ?_
  rw [mI_sWc, h.h.1]
  refine WP.ret (ov := some (.int _)) dX13_buyerCount_11 ⟨rfl, _, rfl, by first | rfl | assumption | exact nar_b01 (by assumption)⟩ ?_
  exact hq
theorem g_crateCount {d m b K : Nat} {Y : Yd} {w : Nat → Int32} {M : Mem} {Q : Out → Mem → Prop} (hL : ML M) (h : RW Y m b K w) (hq : Q (.inl (some (.int (nI m)))) (sW (sI M 11 0 7 0) w)) : WPc (d + 20) mX13_crateCount [.ref (rf 11 0)] (sW M w) Q := by
  refine WPc.of (by decide +kernel) (Nat.le_of_ble_eq_true rfl) rfl ?_
  refine R.aload_n dX13_crateCount_0 rfl (by first | rfl | exact rfv_rf _) ?_
  refine R.iconst (v := 0) dX13_crateCount_1 rfl ?_
  refine R.putI dX13_crateCount_2 fl_X13_65 (fun q hq => by cases hq; exact Or.inl rfl) (by decide) rfl rfl rfl ?_
  rw [sI_sWf M w 0 7 0 (by decide)]
  refine R.aload_n dX13_crateCount_5 rfl (by first | rfl | exact rfv_rf _) ?_
  refine R.getS (hL.w) dX13_crateCount_6 fl_X13_7 (by decide) rfl ?_
  refine R.iconst (v := nI 0) dX13_crateCount_9 rfl ?_
  refine R.ialdN (k := 0) dX13_crateCount_10 (by omega) (by show _ < mN M 14 0; rw [hL.n]; omega) ?_
  rw [mI_sWc, h.t.z]
  refine WP.ret (ov := some (.int _)) dX13_crateCount_11 ⟨rfl, _, rfl, by first | rfl | assumption | exact nar_b01 (by assumption)⟩ ?_
  exact hq
