/-! the model's getters of a crate -/
def QMC (Q : Out → Mem → Prop) (M : Mem) (w : Nat → Int32) (o : Option Nat) (f : Nat → Int32) : Prop := match o with
  | none => Q (.inl (some (.int 0))) (sW (sI (sI M 11 0 7 0) 11 0 7 1) w)
  | some i => Q (.inl (some (.int (f i)))) (sW (sI M 11 0 7 0) w)
theorem kC_m {Y : Yd} {x : Int32} {i m : Nat} (h : kC Y x = some i) (hm : m ≤ 16) (hb : yF Y 4 = nI m) : x = nI i ∧ i < m := by
  obtain ⟨h1, h2, h3⟩ := kC_s h
  refine ⟨h1, Decidable.byContradiction fun q => h3 ?_⟩
  rw [hb]
  exact nI_le (by omega) (by omega)
theorem kU_m {Y : Yd} {x : Int32} {i b : Nat} (h : kU Y x = some i) (hm : b ≤ 6) (hb : yF Y 5 = nI b) : x = nI i ∧ i < b := by
  obtain ⟨h1, h2, h3⟩ := kU_s h
  refine ⟨h1, Decidable.byContradiction fun q => h3 ?_⟩
  rw [hb]
  exact nI_le (by omega) (by omega)
set_option maxHeartbeats 1000000 in
set_option maxRecDepth 4000 in
theorem g_tareOf {d m b K : Nat} {Y : Yd} {x : Int32} {w : Nat → Int32} {M : Mem} {Q : Out → Mem → Prop} (hL : ML M) (h : RW Y m b K w) (hb4 : yF Y 4 = nI m)  (hq : QMC Q M w (kC Y x) (fun i => yC Y i 2)) : WPc (d + 20) mX13_tareOf [.ref (rf 11 0), .int x] (sW M w) Q := by
  refine WPc.of (by decide +kernel) (Nat.le_of_ble_eq_true rfl) rfl ?_
  have hm16 := h.t.le
  have hb6 := h.bl
  cases hx : kC Y x with
  | none =>
    rw [hx] at hq
    refine R.aload_n dX13_tareOf_0 rfl (by first | rfl | exact rfv_rf _) ?_
    refine R.iconst (v := 0) dX13_tareOf_1 rfl ?_
    refine R.putI dX13_tareOf_2 fl_X13_65 (fun q hq => by cases hq; exact Or.inl rfl) (by decide) rfl rfl rfl ?_
    rw [sI_sWf M w 0 7 0 (by decide)]
    refine R.aload_n dX13_tareOf_5 rfl (by first | rfl | exact rfv_rf _) ?_
    refine R.iload_n dX13_tareOf_6 rfl ?_
    refine cl_X13_395 rfl rfl (by first | exact Nat.le_of_ble_eq_true rfl | simp [rf_cat, Value.category]) dX13_tareOf_7 ?_
    refine m_noCN hL h hb4 hx ?_
    refine R.if_eq (tgt := 17) dX13_tareOf_10 (by decide) (fun c9 => absurd c9 (by decide)) (fun _ => ?_)
    refine R.iconst (v := 0) dX13_tareOf_13 rfl ?_
    refine R.goto (tgt := 24) dX13_tareOf_14 (by decide) ?_
    refine WP.ret (ov := some (.int _)) dX13_tareOf_24 ⟨rfl, _, rfl, by first | rfl | assumption | exact nar_b01 (by assumption)⟩ ?_
    exact hq
  | some i =>
    rw [hx] at hq
    obtain ⟨rfl, hi⟩ := kC_m hx hm16 hb4
    refine R.aload_n dX13_tareOf_0 rfl (by first | rfl | exact rfv_rf _) ?_
    refine R.iconst (v := 0) dX13_tareOf_1 rfl ?_
    refine R.putI dX13_tareOf_2 fl_X13_65 (fun q hq => by cases hq; exact Or.inl rfl) (by decide) rfl rfl rfl ?_
    rw [sI_sWf M w 0 7 0 (by decide)]
    refine R.aload_n dX13_tareOf_5 rfl (by first | rfl | exact rfv_rf _) ?_
    refine R.iload_n dX13_tareOf_6 rfl ?_
    refine cl_X13_395 rfl rfl (by first | exact Nat.le_of_ble_eq_true rfl | simp [rf_cat, Value.category]) dX13_tareOf_7 ?_
    refine m_noCS hL h hb4 hx ?_
    refine R.if_eq (tgt := 17) dX13_tareOf_10 (by decide) (fun _ => ?_) (fun c9 => absurd (rfl) c9)
    refine R.aload_n dX13_tareOf_17 rfl (by first | rfl | exact rfv_rf _) ?_
    refine R.iload_n dX13_tareOf_18 rfl ?_
    refine R.bipush (v := nI 7) dX13_tareOf_19 (by decide) ?_
    refine cl_X13_68 rfl rfl (by first | exact Nat.le_of_ble_eq_true rfl | simp [rf_cat, Value.category]) dX13_tareOf_21 ?_
    refine m_of (M := sI M 11 0 7 0) hL (by omega) (by omega) ?_
    rw [(h.g (by omega : i < 16)).1]
    refine WP.ret (ov := some (.int _)) dX13_tareOf_24 ⟨rfl, _, rfl, by first | rfl | assumption | exact nar_b01 (by assumption)⟩ ?_
    exact hq
set_option maxHeartbeats 1000000 in
set_option maxRecDepth 4000 in
theorem g_goodsOf {d m b K : Nat} {Y : Yd} {x : Int32} {w : Nat → Int32} {M : Mem} {Q : Out → Mem → Prop} (hL : ML M) (h : RW Y m b K w) (hb4 : yF Y 4 = nI m)  (hq : QMC Q M w (kC Y x) (fun i => yC Y i 3)) : WPc (d + 20) mX13_goodsOf [.ref (rf 11 0), .int x] (sW M w) Q := by
  refine WPc.of (by decide +kernel) (Nat.le_of_ble_eq_true rfl) rfl ?_
  have hm16 := h.t.le
  have hb6 := h.bl
  cases hx : kC Y x with
  | none =>
    rw [hx] at hq
    refine R.aload_n dX13_goodsOf_0 rfl (by first | rfl | exact rfv_rf _) ?_
    refine R.iconst (v := 0) dX13_goodsOf_1 rfl ?_
    refine R.putI dX13_goodsOf_2 fl_X13_65 (fun q hq => by cases hq; exact Or.inl rfl) (by decide) rfl rfl rfl ?_
    rw [sI_sWf M w 0 7 0 (by decide)]
    refine R.aload_n dX13_goodsOf_5 rfl (by first | rfl | exact rfv_rf _) ?_
    refine R.iload_n dX13_goodsOf_6 rfl ?_
    refine cl_X13_395 rfl rfl (by first | exact Nat.le_of_ble_eq_true rfl | simp [rf_cat, Value.category]) dX13_goodsOf_7 ?_
    refine m_noCN hL h hb4 hx ?_
    refine R.if_eq (tgt := 17) dX13_goodsOf_10 (by decide) (fun c9 => absurd c9 (by decide)) (fun _ => ?_)
    refine R.iconst (v := 0) dX13_goodsOf_13 rfl ?_
    refine R.goto (tgt := 24) dX13_goodsOf_14 (by decide) ?_
    refine WP.ret (ov := some (.int _)) dX13_goodsOf_24 ⟨rfl, _, rfl, by first | rfl | assumption | exact nar_b01 (by assumption)⟩ ?_
    exact hq
  | some i =>
    rw [hx] at hq
    obtain ⟨rfl, hi⟩ := kC_m hx hm16 hb4
    refine R.aload_n dX13_goodsOf_0 rfl (by first | rfl | exact rfv_rf _) ?_
    refine R.iconst (v := 0) dX13_goodsOf_1 rfl ?_
    refine R.putI dX13_goodsOf_2 fl_X13_65 (fun q hq => by cases hq; exact Or.inl rfl) (by decide) rfl rfl rfl ?_
    rw [sI_sWf M w 0 7 0 (by decide)]
    refine R.aload_n dX13_goodsOf_5 rfl (by first | rfl | exact rfv_rf _) ?_
    refine R.iload_n dX13_goodsOf_6 rfl ?_
    refine cl_X13_395 rfl rfl (by first | exact Nat.le_of_ble_eq_true rfl | simp [rf_cat, Value.category]) dX13_goodsOf_7 ?_
    refine m_noCS hL h hb4 hx ?_
    refine R.if_eq (tgt := 17) dX13_goodsOf_10 (by decide) (fun _ => ?_) (fun c9 => absurd (rfl) c9)
    refine R.aload_n dX13_goodsOf_17 rfl (by first | rfl | exact rfv_rf _) ?_
    refine R.iload_n dX13_goodsOf_18 rfl ?_
    refine R.bipush (v := nI 8) dX13_goodsOf_19 (by decide) ?_
    refine cl_X13_68 rfl rfl (by first | exact Nat.le_of_ble_eq_true rfl | simp [rf_cat, Value.category]) dX13_goodsOf_21 ?_
    refine m_of (M := sI M 11 0 7 0) hL (by omega) (by omega) ?_
    rw [(h.g (by omega : i < 16)).2.1]
    refine WP.ret (ov := some (.int _)) dX13_goodsOf_24 ⟨rfl, _, rfl, by first | rfl | assumption | exact nar_b01 (by assumption)⟩ ?_
    exact hq
set_option maxHeartbeats 1000000 in
set_option maxRecDepth 4000 in
theorem g_parentOf {d m b K : Nat} {Y : Yd} {x : Int32} {w : Nat → Int32} {M : Mem} {Q : Out → Mem → Prop} (hL : ML M) (h : RW Y m b K w) (hb4 : yF Y 4 = nI m)  (hq : QMC Q M w (kC Y x) (fun i => pIx Y i)) : WPc (d + 20) mX13_parentOf [.ref (rf 11 0), .int x] (sW M w) Q := by
  refine WPc.of (by decide +kernel) (Nat.le_of_ble_eq_true rfl) rfl ?_
  have hm16 := h.t.le
  have hb6 := h.bl
  cases hx : kC Y x with
  | none =>
    rw [hx] at hq
    refine R.aload_n dX13_parentOf_0 rfl (by first | rfl | exact rfv_rf _) ?_
    refine R.iconst (v := 0) dX13_parentOf_1 rfl ?_
    refine R.putI dX13_parentOf_2 fl_X13_65 (fun q hq => by cases hq; exact Or.inl rfl) (by decide) rfl rfl rfl ?_
    rw [sI_sWf M w 0 7 0 (by decide)]
    refine R.aload_n dX13_parentOf_5 rfl (by first | rfl | exact rfv_rf _) ?_
    refine R.iload_n dX13_parentOf_6 rfl ?_
    refine cl_X13_395 rfl rfl (by first | exact Nat.le_of_ble_eq_true rfl | simp [rf_cat, Value.category]) dX13_parentOf_7 ?_
    refine m_noCN hL h hb4 hx ?_
    refine R.if_eq (tgt := 17) dX13_parentOf_10 (by decide) (fun c9 => absurd c9 (by decide)) (fun _ => ?_)
    refine R.iconst (v := 0) dX13_parentOf_13 rfl ?_
    refine R.goto (tgt := 24) dX13_parentOf_14 (by decide) ?_
    refine WP.ret (ov := some (.int _)) dX13_parentOf_24 ⟨rfl, _, rfl, by first | rfl | assumption | exact nar_b01 (by assumption)⟩ ?_
    exact hq
  | some i =>
    rw [hx] at hq
    obtain ⟨rfl, hi⟩ := kC_m hx hm16 hb4
    refine R.aload_n dX13_parentOf_0 rfl (by first | rfl | exact rfv_rf _) ?_
    refine R.iconst (v := 0) dX13_parentOf_1 rfl ?_
    refine R.putI dX13_parentOf_2 fl_X13_65 (fun q hq => by cases hq; exact Or.inl rfl) (by decide) rfl rfl rfl ?_
    rw [sI_sWf M w 0 7 0 (by decide)]
    refine R.aload_n dX13_parentOf_5 rfl (by first | rfl | exact rfv_rf _) ?_
    refine R.iload_n dX13_parentOf_6 rfl ?_
    refine cl_X13_395 rfl rfl (by first | exact Nat.le_of_ble_eq_true rfl | simp [rf_cat, Value.category]) dX13_parentOf_7 ?_
    refine m_noCS hL h hb4 hx ?_
    refine R.if_eq (tgt := 17) dX13_parentOf_10 (by decide) (fun _ => ?_) (fun c9 => absurd (rfl) c9)
    refine R.aload_n dX13_parentOf_17 rfl (by first | rfl | exact rfv_rf _) ?_
    refine R.iload_n dX13_parentOf_18 rfl ?_
    refine R.bipush (v := nI 9) dX13_parentOf_19 (by decide) ?_
    refine cl_X13_68 rfl rfl (by first | exact Nat.le_of_ble_eq_true rfl | simp [rf_cat, Value.category]) dX13_parentOf_21 ?_
    refine m_of (M := sI M 11 0 7 0) hL (by omega) (by omega) ?_
    rw [h.t.p hi]
    refine WP.ret (ov := some (.int _)) dX13_parentOf_24 ⟨rfl, _, rfl, by first | rfl | assumption | exact nar_b01 (by assumption)⟩ ?_
    exact hq
set_option maxHeartbeats 1000000 in
set_option maxRecDepth 4000 in
theorem g_readingCount {d m b K : Nat} {Y : Yd} {x : Int32} {w : Nat → Int32} {M : Mem} {Q : Out → Mem → Prop} (hL : ML M) (h : RW Y m b K w) (hb4 : yF Y 4 = nI m)  (hq : QMC Q M w (kC Y x) (fun i => yC Y i 8)) : WPc (d + 20) mX13_readingCount [.ref (rf 11 0), .int x] (sW M w) Q := by
  refine WPc.of (by decide +kernel) (Nat.le_of_ble_eq_true rfl) rfl ?_
  have hm16 := h.t.le
  have hb6 := h.bl
  cases hx : kC Y x with
  | none =>
    rw [hx] at hq
    refine R.aload_n dX13_readingCount_0 rfl (by first | rfl | exact rfv_rf _) ?_
    refine R.iconst (v := 0) dX13_readingCount_1 rfl ?_
    refine R.putI dX13_readingCount_2 fl_X13_65 (fun q hq => by cases hq; exact Or.inl rfl) (by decide) rfl rfl rfl ?_
    rw [sI_sWf M w 0 7 0 (by decide)]
    refine R.aload_n dX13_readingCount_5 rfl (by first | rfl | exact rfv_rf _) ?_
    refine R.iload_n dX13_readingCount_6 rfl ?_
    refine cl_X13_395 rfl rfl (by first | exact Nat.le_of_ble_eq_true rfl | simp [rf_cat, Value.category]) dX13_readingCount_7 ?_
    refine m_noCN hL h hb4 hx ?_
    refine R.if_eq (tgt := 17) dX13_readingCount_10 (by decide) (fun c9 => absurd c9 (by decide)) (fun _ => ?_)
    refine R.iconst (v := 0) dX13_readingCount_13 rfl ?_
    refine R.goto (tgt := 24) dX13_readingCount_14 (by decide) ?_
    refine WP.ret (ov := some (.int _)) dX13_readingCount_24 ⟨rfl, _, rfl, by first | rfl | assumption | exact nar_b01 (by assumption)⟩ ?_
    exact hq
  | some i =>
    rw [hx] at hq
    obtain ⟨rfl, hi⟩ := kC_m hx hm16 hb4
    refine R.aload_n dX13_readingCount_0 rfl (by first | rfl | exact rfv_rf _) ?_
    refine R.iconst (v := 0) dX13_readingCount_1 rfl ?_
    refine R.putI dX13_readingCount_2 fl_X13_65 (fun q hq => by cases hq; exact Or.inl rfl) (by decide) rfl rfl rfl ?_
    rw [sI_sWf M w 0 7 0 (by decide)]
    refine R.aload_n dX13_readingCount_5 rfl (by first | rfl | exact rfv_rf _) ?_
    refine R.iload_n dX13_readingCount_6 rfl ?_
    refine cl_X13_395 rfl rfl (by first | exact Nat.le_of_ble_eq_true rfl | simp [rf_cat, Value.category]) dX13_readingCount_7 ?_
    refine m_noCS hL h hb4 hx ?_
    refine R.if_eq (tgt := 17) dX13_readingCount_10 (by decide) (fun _ => ?_) (fun c9 => absurd (rfl) c9)
    refine R.aload_n dX13_readingCount_17 rfl (by first | rfl | exact rfv_rf _) ?_
    refine R.iload_n dX13_readingCount_18 rfl ?_
    refine R.bipush (v := nI 12) dX13_readingCount_19 (by decide) ?_
    refine cl_X13_68 rfl rfl (by first | exact Nat.le_of_ble_eq_true rfl | simp [rf_cat, Value.category]) dX13_readingCount_21 ?_
    refine m_of (M := sI M 11 0 7 0) hL (by omega) (by omega) ?_
    rw [(h.d (by omega : i < 16)).1]
    refine WP.ret (ov := some (.int _)) dX13_readingCount_24 ⟨rfl, _, rfl, by first | rfl | assumption | exact nar_b01 (by assumption)⟩ ?_
    exact hq
set_option maxHeartbeats 1000000 in
set_option maxRecDepth 4000 in
theorem g_grossOf {d m b K : Nat} {Y : Yd} {x : Int32} {w : Nat → Int32} {M : Mem} {Q : Out → Mem → Prop} (hL : ML M) (h : RW Y m b K w) (hb4 : yF Y 4 = nI m) (hG : LG Y) (hA : Acy Y) (hq : QMC Q M w (kC Y x) (fun i => yC Y i 4)) : WPc (d + 20) mX13_grossOf [.ref (rf 11 0), .int x] (sW M w) Q := by
  refine WPc.of (by decide +kernel) (Nat.le_of_ble_eq_true rfl) rfl ?_
  have hm16 := h.t.le
  have hb6 := h.bl
  cases hx : kC Y x with
  | none =>
    rw [hx] at hq
    refine R.aload_n dX13_grossOf_0 rfl (by first | rfl | exact rfv_rf _) ?_
    refine R.iconst (v := 0) dX13_grossOf_1 rfl ?_
    refine R.putI dX13_grossOf_2 fl_X13_65 (fun q hq => by cases hq; exact Or.inl rfl) (by decide) rfl rfl rfl ?_
    rw [sI_sWf M w 0 7 0 (by decide)]
    refine R.aload_n dX13_grossOf_5 rfl (by first | rfl | exact rfv_rf _) ?_
    refine R.iload_n dX13_grossOf_6 rfl ?_
    refine cl_X13_395 rfl rfl (by first | exact Nat.le_of_ble_eq_true rfl | simp [rf_cat, Value.category]) dX13_grossOf_7 ?_
    refine m_noCN hL h hb4 hx ?_
    refine R.if_eq (tgt := 17) dX13_grossOf_10 (by decide) (fun c9 => absurd c9 (by decide)) (fun _ => ?_)
    refine R.iconst (v := 0) dX13_grossOf_13 rfl ?_
    refine R.goto (tgt := 22) dX13_grossOf_14 (by decide) ?_
    refine WP.ret (ov := some (.int _)) dX13_grossOf_22 ⟨rfl, _, rfl, by first | rfl | assumption | exact nar_b01 (by assumption)⟩ ?_
    exact hq
  | some i =>
    rw [hx] at hq
    obtain ⟨rfl, hi⟩ := kC_m hx hm16 hb4
    refine R.aload_n dX13_grossOf_0 rfl (by first | rfl | exact rfv_rf _) ?_
    refine R.iconst (v := 0) dX13_grossOf_1 rfl ?_
    refine R.putI dX13_grossOf_2 fl_X13_65 (fun q hq => by cases hq; exact Or.inl rfl) (by decide) rfl rfl rfl ?_
    rw [sI_sWf M w 0 7 0 (by decide)]
    refine R.aload_n dX13_grossOf_5 rfl (by first | rfl | exact rfv_rf _) ?_
    refine R.iload_n dX13_grossOf_6 rfl ?_
    refine cl_X13_395 rfl rfl (by first | exact Nat.le_of_ble_eq_true rfl | simp [rf_cat, Value.category]) dX13_grossOf_7 ?_
    refine m_noCS hL h hb4 hx ?_
    refine R.if_eq (tgt := 17) dX13_grossOf_10 (by decide) (fun _ => ?_) (fun c9 => absurd (rfl) c9)
    refine R.aload_n dX13_grossOf_17 rfl (by first | rfl | exact rfv_rf _) ?_
    refine R.iload_n dX13_grossOf_18 rfl ?_
    refine cl_X13_82 rfl rfl (by first | exact Nat.le_of_ble_eq_true rfl | simp [rf_cat, Value.category]) dX13_grossOf_19 ?_
    refine m_gr (d := d + 11) (M := sI M 11 0 7 0) hL h hG hA (by omega) ?_
    refine WP.ret (ov := some (.int _)) dX13_grossOf_22 ⟨rfl, _, rfl, by first | rfl | assumption | exact nar_b01 (by assumption)⟩ ?_
    exact hq
set_option maxHeartbeats 1000000 in
set_option maxRecDepth 4000 in
theorem g_depthOf {d m b K : Nat} {Y : Yd} {x : Int32} {w : Nat → Int32} {M : Mem} {Q : Out → Mem → Prop} (hL : ML M) (h : RW Y m b K w) (hb4 : yF Y 4 = nI m) (hA : Acy Y) (hq : QMC Q M w (kC Y x) (fun i => nI (dp Y i))) : WPc (d + 20) mX13_depthOf [.ref (rf 11 0), .int x] (sW M w) Q := by
  refine WPc.of (by decide +kernel) (Nat.le_of_ble_eq_true rfl) rfl ?_
  have hm16 := h.t.le
  have hb6 := h.bl
  cases hx : kC Y x with
  | none =>
    rw [hx] at hq
    refine R.aload_n dX13_depthOf_0 rfl (by first | rfl | exact rfv_rf _) ?_
    refine R.iconst (v := 0) dX13_depthOf_1 rfl ?_
    refine R.putI dX13_depthOf_2 fl_X13_65 (fun q hq => by cases hq; exact Or.inl rfl) (by decide) rfl rfl rfl ?_
    rw [sI_sWf M w 0 7 0 (by decide)]
    refine R.aload_n dX13_depthOf_5 rfl (by first | rfl | exact rfv_rf _) ?_
    refine R.iload_n dX13_depthOf_6 rfl ?_
    refine cl_X13_395 rfl rfl (by first | exact Nat.le_of_ble_eq_true rfl | simp [rf_cat, Value.category]) dX13_depthOf_7 ?_
    refine m_noCN hL h hb4 hx ?_
    refine R.if_eq (tgt := 17) dX13_depthOf_10 (by decide) (fun c9 => absurd c9 (by decide)) (fun _ => ?_)
    refine R.iconst (v := 0) dX13_depthOf_13 rfl ?_
    refine R.goto (tgt := 22) dX13_depthOf_14 (by decide) ?_
    refine WP.ret (ov := some (.int _)) dX13_depthOf_22 ⟨rfl, _, rfl, by first | rfl | assumption | exact nar_b01 (by assumption)⟩ ?_
    exact hq
  | some i =>
    rw [hx] at hq
    obtain ⟨rfl, hi⟩ := kC_m hx hm16 hb4
    refine R.aload_n dX13_depthOf_0 rfl (by first | rfl | exact rfv_rf _) ?_
    refine R.iconst (v := 0) dX13_depthOf_1 rfl ?_
    refine R.putI dX13_depthOf_2 fl_X13_65 (fun q hq => by cases hq; exact Or.inl rfl) (by decide) rfl rfl rfl ?_
    rw [sI_sWf M w 0 7 0 (by decide)]
    refine R.aload_n dX13_depthOf_5 rfl (by first | rfl | exact rfv_rf _) ?_
    refine R.iload_n dX13_depthOf_6 rfl ?_
    refine cl_X13_395 rfl rfl (by first | exact Nat.le_of_ble_eq_true rfl | simp [rf_cat, Value.category]) dX13_depthOf_7 ?_
    refine m_noCS hL h hb4 hx ?_
    refine R.if_eq (tgt := 17) dX13_depthOf_10 (by decide) (fun _ => ?_) (fun c9 => absurd (rfl) c9)
    refine R.aload_n dX13_depthOf_17 rfl (by first | rfl | exact rfv_rf _) ?_
    refine R.iload_n dX13_depthOf_18 rfl ?_
    refine cl_X13_151 rfl rfl (by first | exact Nat.le_of_ble_eq_true rfl | simp [rf_cat, Value.category]) dX13_depthOf_19 ?_
    refine m_depth (d := d + 18) (M := sI M 11 0 7 0) hL h.t hA hi ?_
    refine WP.ret (ov := some (.int _)) dX13_depthOf_22 ⟨rfl, _, rfl, by first | rfl | assumption | exact nar_b01 (by assumption)⟩ ?_
    exact hq
