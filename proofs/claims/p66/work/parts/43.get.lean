/-! the class's methods that change nothing -/
def aC (S : KS) (x : Int32) (f : Nat → An) : An := match kC (kY S) x with
  | none => .inr eI
  | some i => f i
def aU (S : KS) (x : Int32) (f : Nat → An) : An := match kU (kY S) x with
  | none => .inr eI
  | some i => f i
def aW (S : KS) (x : Int32) (f : Nat → Int32) : An := aC S x fun i => if yC (kY S) i 8 = 0 then .inr eN else .inl (f i)
def aR (x lo hi : Int32) (a : An) : An := if lo ≤ x ∧ x ≤ hi then a else .inr eA
def aQ (x : Int32) (a : An) : An := if x = 0 then .inr eS else a
theorem aC_n {S : KS} {x : Int32} {f : Nat → An} (h : kC (kY S) x = none) : aC S x f = .inr eI := by unfold aC; rw [h]
theorem aC_s {S : KS} {x : Int32} {f : Nat → An} {i : Nat} (h : kC (kY S) x = some i) : aC S x f = f i := by unfold aC; rw [h]
theorem aU_n {S : KS} {x : Int32} {f : Nat → An} (h : kU (kY S) x = none) : aU S x f = .inr eI := by unfold aU; rw [h]
theorem aU_s {S : KS} {x : Int32} {f : Nat → An} {i : Nat} (h : kU (kY S) x = some i) : aU S x f = f i := by unfold aU; rw [h]
theorem b01_if {P : Prop} [Decidable P] : (if P then (1 : Int32) else 0) = 0 ∨ (if P then (1 : Int32) else 0) = 1 := by split; exact Or.inr rfl; exact Or.inl rfl
set_option maxHeartbeats 1000000 in
set_option maxRecDepth 4000 in
theorem c_springAge {d : Nat} {S : KS} {p : Nat} {M : Mem} {Q : Out → Mem → Prop} (h : CSt M S p) (hq : Q (.inl (some (.int (yS (kY S) 3)))) M) : WPc (d + 20) mX12_springAge [.ref (rf 10 0)] M Q := by
  refine WPc.of (by decide +kernel) (Nat.le_of_ble_eq_true rfl) rfl ?_
  refine R.aload_n dX12_springAge_0 rfl (by first | rfl | exact rfv_rf _) ?_
  refine R.getS (h.l.1) dX12_springAge_1 fl_X12_10 (by decide) rfl ?_
  refine R.getS (lay2 h.y.lay) dX12_springAge_4 fl_X12_185 (by decide) rfl ?_
  refine R.getI dX12_springAge_7 fl_X12_188 (by decide) rfl ?_
  rw [h.y.rS]
  refine WP.ret (ov := some (.int _)) dX12_springAge_10 ⟨rfl, _, rfl, by first | rfl | assumption | exact nar_b01 (by assumption)⟩ ?_
  exact hq
set_option maxHeartbeats 1000000 in
set_option maxRecDepth 4000 in
theorem c_amplitude {d : Nat} {S : KS} {p : Nat} {M : Mem} {Q : Out → Mem → Prop} (h : CSt M S p) (hq : Q (.inl (some (.int (yS (kY S) 1)))) M) : WPc (d + 20) mX12_amplitude [.ref (rf 10 0)] M Q := by
  refine WPc.of (by decide +kernel) (Nat.le_of_ble_eq_true rfl) rfl ?_
  refine R.aload_n dX12_amplitude_0 rfl (by first | rfl | exact rfv_rf _) ?_
  refine R.getS (h.l.1) dX12_amplitude_1 fl_X12_10 (by decide) rfl ?_
  refine R.getS (lay2 h.y.lay) dX12_amplitude_4 fl_X12_185 (by decide) rfl ?_
  refine R.getI dX12_amplitude_7 fl_X12_194 (by decide) rfl ?_
  rw [h.y.rS]
  refine WP.ret (ov := some (.int _)) dX12_amplitude_10 ⟨rfl, _, rfl, by first | rfl | assumption | exact nar_b01 (by assumption)⟩ ?_
  exact hq
set_option maxHeartbeats 1000000 in
set_option maxRecDepth 4000 in
theorem c_totalReadings {d : Nat} {S : KS} {p : Nat} {M : Mem} {Q : Out → Mem → Prop} (h : CSt M S p) (hq : Q (.inl (some (.int (yT (kY S) 0)))) M) : WPc (d + 20) mX12_totalReadings [.ref (rf 10 0)] M Q := by
  refine WPc.of (by decide +kernel) (Nat.le_of_ble_eq_true rfl) rfl ?_
  refine R.aload_n dX12_totalReadings_0 rfl (by first | rfl | exact rfv_rf _) ?_
  refine R.getS (h.l.1) dX12_totalReadings_1 fl_X12_10 (by decide) rfl ?_
  refine R.getS (lay3 h.y.lay) dX12_totalReadings_4 fl_X12_258 (by decide) rfl ?_
  refine R.getI dX12_totalReadings_7 fl_X12_262 (by decide) rfl ?_
  rw [h.y.rT]
  refine WP.ret (ov := some (.int _)) dX12_totalReadings_10 ⟨rfl, _, rfl, by first | rfl | assumption | exact nar_b01 (by assumption)⟩ ?_
  exact hq
set_option maxHeartbeats 1000000 in
set_option maxRecDepth 4000 in
theorem c_totalDiscarded {d : Nat} {S : KS} {p : Nat} {M : Mem} {Q : Out → Mem → Prop} (h : CSt M S p) (hq : Q (.inl (some (.int (yT (kY S) 1)))) M) : WPc (d + 20) mX12_totalDiscarded [.ref (rf 10 0)] M Q := by
  refine WPc.of (by decide +kernel) (Nat.le_of_ble_eq_true rfl) rfl ?_
  refine R.aload_n dX12_totalDiscarded_0 rfl (by first | rfl | exact rfv_rf _) ?_
  refine R.getS (h.l.1) dX12_totalDiscarded_1 fl_X12_10 (by decide) rfl ?_
  refine R.getS (lay3 h.y.lay) dX12_totalDiscarded_4 fl_X12_258 (by decide) rfl ?_
  refine R.getI dX12_totalDiscarded_7 fl_X12_265 (by decide) rfl ?_
  rw [h.y.rT]
  refine WP.ret (ov := some (.int _)) dX12_totalDiscarded_10 ⟨rfl, _, rfl, by first | rfl | assumption | exact nar_b01 (by assumption)⟩ ?_
  exact hq
set_option maxHeartbeats 1000000 in
set_option maxRecDepth 4000 in
theorem c_totalPrices {d : Nat} {S : KS} {p : Nat} {M : Mem} {Q : Out → Mem → Prop} (h : CSt M S p) (hq : Q (.inl (some (.int (yT (kY S) 4)))) M) : WPc (d + 20) mX12_totalPrices [.ref (rf 10 0)] M Q := by
  refine WPc.of (by decide +kernel) (Nat.le_of_ble_eq_true rfl) rfl ?_
  refine R.aload_n dX12_totalPrices_0 rfl (by first | rfl | exact rfv_rf _) ?_
  refine R.getS (h.l.1) dX12_totalPrices_1 fl_X12_10 (by decide) rfl ?_
  refine R.getS (lay3 h.y.lay) dX12_totalPrices_4 fl_X12_258 (by decide) rfl ?_
  refine R.getI dX12_totalPrices_7 fl_X12_274 (by decide) rfl ?_
  rw [h.y.rT]
  refine WP.ret (ov := some (.int _)) dX12_totalPrices_10 ⟨rfl, _, rfl, by first | rfl | assumption | exact nar_b01 (by assumption)⟩ ?_
  exact hq
set_option maxHeartbeats 1000000 in
set_option maxRecDepth 4000 in
theorem c_totalRefunds {d : Nat} {S : KS} {p : Nat} {M : Mem} {Q : Out → Mem → Prop} (h : CSt M S p) (hq : Q (.inl (some (.int (yT (kY S) 5)))) M) : WPc (d + 20) mX12_totalRefunds [.ref (rf 10 0)] M Q := by
  refine WPc.of (by decide +kernel) (Nat.le_of_ble_eq_true rfl) rfl ?_
  refine R.aload_n dX12_totalRefunds_0 rfl (by first | rfl | exact rfv_rf _) ?_
  refine R.getS (h.l.1) dX12_totalRefunds_1 fl_X12_10 (by decide) rfl ?_
  refine R.getS (lay3 h.y.lay) dX12_totalRefunds_4 fl_X12_258 (by decide) rfl ?_
  refine R.getI dX12_totalRefunds_7 fl_X12_277 (by decide) rfl ?_
  rw [h.y.rT]
  refine WP.ret (ov := some (.int _)) dX12_totalRefunds_10 ⟨rfl, _, rfl, by first | rfl | assumption | exact nar_b01 (by assumption)⟩ ?_
  exact hq
set_option maxHeartbeats 1000000 in
set_option maxRecDepth 4000 in
theorem c_springSag {d : Nat} {S : KS} {p : Nat} {M : Mem} {Q : Out → Mem → Prop} (h : CSt M S p) (hq : Q (.inl (some (.int (fSag (yS (kY S) 2) (yS (kY S) 3))))) M) : WPc (d + 20) mX12_springSag [.ref (rf 10 0)] M Q := by
  refine WPc.of (by decide +kernel) (Nat.le_of_ble_eq_true rfl) rfl ?_
  refine R.aload_n dX12_springSag_0 rfl (by first | rfl | exact rfv_rf _) ?_
  refine R.getS (h.l.1) dX12_springSag_1 fl_X12_10 (by decide) rfl ?_
  refine R.getS (lay2 h.y.lay) dX12_springSag_4 fl_X12_185 (by decide) rfl ?_
  refine cl_X12_191 rfl rfl (by first | exact Nat.le_of_ble_eq_true rfl | simp [rf_cat, Value.category]) dX12_springSag_7 ?_
  refine s_sSag ?_
  rw [h.y.rS, h.y.rS]
  refine WP.ret (ov := some (.int _)) dX12_springSag_10 ⟨rfl, _, rfl, by first | rfl | assumption | exact nar_b01 (by assumption)⟩ ?_
  exact hq
set_option maxHeartbeats 1000000 in
set_option maxRecDepth 4000 in
theorem c_tareOf {d : Nat} {S : KS} {p : Nat} {x : Int32} {M : Mem} {Q : Out → Mem → Prop} (h : CSt M S p) (hq : QA Q M M (aC S x fun i => .inl (yC (kY S) i 2))) : WPc (d + 20) mX12_tareOf [.ref (rf 10 0), .int x] M Q := by
  refine WPc.of (by decide +kernel) (Nat.le_of_ble_eq_true rfl) rfl ?_
  cases hx : kC (kY S) x with
  | none =>
    rw [aC_n hx] at hq
    refine R.aload_n dX12_tareOf_0 rfl (by first | rfl | exact rfv_rf _) ?_
    refine R.iload_n dX12_tareOf_1 rfl ?_
    refine cl_X12_119 rfl rfl (by first | exact Nat.le_of_ble_eq_true rfl | simp [rf_cat, Value.category]) dX12_tareOf_2 ?_
    refine s_kN h hx ?_
    exact hq
  | some i =>
    obtain ⟨ex, hi, hc⟩ := kC_s hx
    rw [aC_s hx] at hq
    refine R.aload_n dX12_tareOf_0 rfl (by first | rfl | exact rfv_rf _) ?_
    refine R.iload_n dX12_tareOf_1 rfl ?_
    refine cl_X12_119 rfl rfl (by first | exact Nat.le_of_ble_eq_true rfl | simp [rf_cat, Value.category]) dX12_tareOf_2 ?_
    refine s_kS h hx ?_
    refine R.getI dX12_tareOf_5 fl_X12_137 (by decide) rfl ?_
    rw [h.y.rC hi]
    refine WP.ret (ov := some (.int _)) dX12_tareOf_8 ⟨rfl, _, rfl, by first | rfl | assumption | exact nar_b01 (by assumption)⟩ ?_
    exact hq
set_option maxHeartbeats 1000000 in
set_option maxRecDepth 4000 in
theorem c_goodsOf {d : Nat} {S : KS} {p : Nat} {x : Int32} {M : Mem} {Q : Out → Mem → Prop} (h : CSt M S p) (hq : QA Q M M (aC S x fun i => .inl (yC (kY S) i 3))) : WPc (d + 20) mX12_goodsOf [.ref (rf 10 0), .int x] M Q := by
  refine WPc.of (by decide +kernel) (Nat.le_of_ble_eq_true rfl) rfl ?_
  cases hx : kC (kY S) x with
  | none =>
    rw [aC_n hx] at hq
    refine R.aload_n dX12_goodsOf_0 rfl (by first | rfl | exact rfv_rf _) ?_
    refine R.iload_n dX12_goodsOf_1 rfl ?_
    refine cl_X12_119 rfl rfl (by first | exact Nat.le_of_ble_eq_true rfl | simp [rf_cat, Value.category]) dX12_goodsOf_2 ?_
    refine s_kN h hx ?_
    exact hq
  | some i =>
    obtain ⟨ex, hi, hc⟩ := kC_s hx
    rw [aC_s hx] at hq
    refine R.aload_n dX12_goodsOf_0 rfl (by first | rfl | exact rfv_rf _) ?_
    refine R.iload_n dX12_goodsOf_1 rfl ?_
    refine cl_X12_119 rfl rfl (by first | exact Nat.le_of_ble_eq_true rfl | simp [rf_cat, Value.category]) dX12_goodsOf_2 ?_
    refine s_kS h hx ?_
    refine R.getI dX12_goodsOf_5 fl_X12_140 (by decide) rfl ?_
    rw [h.y.rC hi]
    refine WP.ret (ov := some (.int _)) dX12_goodsOf_8 ⟨rfl, _, rfl, by first | rfl | assumption | exact nar_b01 (by assumption)⟩ ?_
    exact hq
set_option maxHeartbeats 1000000 in
set_option maxRecDepth 4000 in
theorem c_grossOf {d : Nat} {S : KS} {p : Nat} {x : Int32} {M : Mem} {Q : Out → Mem → Prop} (h : CSt M S p) (hq : QA Q M M (aC S x fun i => .inl (yC (kY S) i 4))) : WPc (d + 20) mX12_grossOf [.ref (rf 10 0), .int x] M Q := by
  refine WPc.of (by decide +kernel) (Nat.le_of_ble_eq_true rfl) rfl ?_
  cases hx : kC (kY S) x with
  | none =>
    rw [aC_n hx] at hq
    refine R.aload_n dX12_grossOf_0 rfl (by first | rfl | exact rfv_rf _) ?_
    refine R.iload_n dX12_grossOf_1 rfl ?_
    refine cl_X12_119 rfl rfl (by first | exact Nat.le_of_ble_eq_true rfl | simp [rf_cat, Value.category]) dX12_grossOf_2 ?_
    refine s_kN h hx ?_
    exact hq
  | some i =>
    obtain ⟨ex, hi, hc⟩ := kC_s hx
    rw [aC_s hx] at hq
    refine R.aload_n dX12_grossOf_0 rfl (by first | rfl | exact rfv_rf _) ?_
    refine R.iload_n dX12_grossOf_1 rfl ?_
    refine cl_X12_119 rfl rfl (by first | exact Nat.le_of_ble_eq_true rfl | simp [rf_cat, Value.category]) dX12_grossOf_2 ?_
    refine s_kS h hx ?_
    refine R.getI dX12_grossOf_5 fl_X12_143 (by decide) rfl ?_
    rw [h.y.rC hi]
    refine WP.ret (ov := some (.int _)) dX12_grossOf_8 ⟨rfl, _, rfl, by first | rfl | assumption | exact nar_b01 (by assumption)⟩ ?_
    exact hq
set_option maxHeartbeats 1000000 in
set_option maxRecDepth 4000 in
theorem c_readingCount {d : Nat} {S : KS} {p : Nat} {x : Int32} {M : Mem} {Q : Out → Mem → Prop} (h : CSt M S p) (hq : QA Q M M (aC S x fun i => .inl (yC (kY S) i 8))) : WPc (d + 20) mX12_readingCount [.ref (rf 10 0), .int x] M Q := by
  refine WPc.of (by decide +kernel) (Nat.le_of_ble_eq_true rfl) rfl ?_
  cases hx : kC (kY S) x with
  | none =>
    rw [aC_n hx] at hq
    refine R.aload_n dX12_readingCount_0 rfl (by first | rfl | exact rfv_rf _) ?_
    refine R.iload_n dX12_readingCount_1 rfl ?_
    refine cl_X12_119 rfl rfl (by first | exact Nat.le_of_ble_eq_true rfl | simp [rf_cat, Value.category]) dX12_readingCount_2 ?_
    refine s_kN h hx ?_
    exact hq
  | some i =>
    obtain ⟨ex, hi, hc⟩ := kC_s hx
    rw [aC_s hx] at hq
    refine R.aload_n dX12_readingCount_0 rfl (by first | rfl | exact rfv_rf _) ?_
    refine R.iload_n dX12_readingCount_1 rfl ?_
    refine cl_X12_119 rfl rfl (by first | exact Nat.le_of_ble_eq_true rfl | simp [rf_cat, Value.category]) dX12_readingCount_2 ?_
    refine s_kS h hx ?_
    refine R.getI dX12_readingCount_5 fl_X12_166 (by decide) rfl ?_
    rw [h.y.rC hi]
    refine WP.ret (ov := some (.int _)) dX12_readingCount_8 ⟨rfl, _, rfl, by first | rfl | assumption | exact nar_b01 (by assumption)⟩ ?_
    exact hq
set_option maxHeartbeats 1000000 in
set_option maxRecDepth 4000 in
theorem c_moneyOf {d : Nat} {S : KS} {p : Nat} {x : Int32} {M : Mem} {Q : Out → Mem → Prop} (h : CSt M S p) (hq : QA Q M M (aU S x fun i => .inl (yB (kY S) i 2))) : WPc (d + 20) mX12_moneyOf [.ref (rf 10 0), .int x] M Q := by
  refine WPc.of (by decide +kernel) (Nat.le_of_ble_eq_true rfl) rfl ?_
  cases hx : kU (kY S) x with
  | none =>
    rw [aU_n hx] at hq
    refine R.aload_n dX12_moneyOf_0 rfl (by first | rfl | exact rfv_rf _) ?_
    refine R.iload_n dX12_moneyOf_1 rfl ?_
    refine cl_X12_130 rfl rfl (by first | exact Nat.le_of_ble_eq_true rfl | simp [rf_cat, Value.category]) dX12_moneyOf_2 ?_
    refine s_uN h hx ?_
    exact hq
  | some i =>
    obtain ⟨ex, hi, hc⟩ := kU_s hx
    rw [aU_s hx] at hq
    refine R.aload_n dX12_moneyOf_0 rfl (by first | rfl | exact rfv_rf _) ?_
    refine R.iload_n dX12_moneyOf_1 rfl ?_
    refine cl_X12_130 rfl rfl (by first | exact Nat.le_of_ble_eq_true rfl | simp [rf_cat, Value.category]) dX12_moneyOf_2 ?_
    refine s_uS h hx ?_
    refine R.getI dX12_moneyOf_5 fl_X12_230 (by decide) rfl ?_
    rw [h.y.rB hi]
    refine WP.ret (ov := some (.int _)) dX12_moneyOf_8 ⟨rfl, _, rfl, by first | rfl | assumption | exact nar_b01 (by assumption)⟩ ?_
    exact hq
set_option maxHeartbeats 1000000 in
set_option maxRecDepth 4000 in
theorem c_trustOf {d : Nat} {S : KS} {p : Nat} {x : Int32} {M : Mem} {Q : Out → Mem → Prop} (h : CSt M S p) (hq : QA Q M M (aU S x fun i => .inl (yB (kY S) i 4))) : WPc (d + 20) mX12_trustOf [.ref (rf 10 0), .int x] M Q := by
  refine WPc.of (by decide +kernel) (Nat.le_of_ble_eq_true rfl) rfl ?_
  cases hx : kU (kY S) x with
  | none =>
    rw [aU_n hx] at hq
    refine R.aload_n dX12_trustOf_0 rfl (by first | rfl | exact rfv_rf _) ?_
    refine R.iload_n dX12_trustOf_1 rfl ?_
    refine cl_X12_130 rfl rfl (by first | exact Nat.le_of_ble_eq_true rfl | simp [rf_cat, Value.category]) dX12_trustOf_2 ?_
    refine s_uN h hx ?_
    exact hq
  | some i =>
    obtain ⟨ex, hi, hc⟩ := kU_s hx
    rw [aU_s hx] at hq
    refine R.aload_n dX12_trustOf_0 rfl (by first | rfl | exact rfv_rf _) ?_
    refine R.iload_n dX12_trustOf_1 rfl ?_
    refine cl_X12_130 rfl rfl (by first | exact Nat.le_of_ble_eq_true rfl | simp [rf_cat, Value.category]) dX12_trustOf_2 ?_
    refine s_uS h hx ?_
    refine R.getI dX12_trustOf_5 fl_X12_236 (by decide) rfl ?_
    rw [h.y.rB hi]
    refine WP.ret (ov := some (.int _)) dX12_trustOf_8 ⟨rfl, _, rfl, by first | rfl | assumption | exact nar_b01 (by assumption)⟩ ?_
    exact hq
set_option maxHeartbeats 1000000 in
set_option maxRecDepth 4000 in
theorem c_parentOf {d : Nat} {S : KS} {p : Nat} {x : Int32} {M : Mem} {Q : Out → Mem → Prop} (h : CSt M S p) (hq : QA Q M M (aC S x fun i => .inl (pIx (kY S) i))) : WPc (d + 20) mX12_parentOf [.ref (rf 10 0), .int x] M Q := by
  refine WPc.of (by decide +kernel) (Nat.le_of_ble_eq_true rfl) rfl ?_
  cases hx : kC (kY S) x with
  | none =>
    rw [aC_n hx] at hq
    refine R.aload_n dX12_parentOf_0 rfl (by first | rfl | exact rfv_rf _) ?_
    refine R.iload_n dX12_parentOf_1 rfl ?_
    refine cl_X12_119 rfl rfl (by first | exact Nat.le_of_ble_eq_true rfl | simp [rf_cat, Value.category]) dX12_parentOf_2 ?_
    refine s_kN h hx ?_
    exact hq
  | some i =>
    obtain ⟨ex, hi, hc⟩ := kC_s hx
    rw [aC_s hx] at hq
    refine R.aload_n dX12_parentOf_0 rfl (by first | rfl | exact rfv_rf _) ?_
    refine R.iload_n dX12_parentOf_1 rfl ?_
    refine cl_X12_119 rfl rfl (by first | exact Nat.le_of_ble_eq_true rfl | simp [rf_cat, Value.category]) dX12_parentOf_2 ?_
    refine s_kS h hx ?_
    refine cl_X12_146 rfl rfl (by first | exact Nat.le_of_ble_eq_true rfl | simp [rf_cat, Value.category]) dX12_parentOf_5 ?_
    refine s_cPar h.y hi ?_
    refine WP.ret (ov := some (.int _)) dX12_parentOf_8 ⟨rfl, _, rfl, by first | rfl | assumption | exact nar_b01 (by assumption)⟩ ?_
    exact hq
set_option maxHeartbeats 1000000 in
set_option maxRecDepth 4000 in
theorem c_depthOf {d : Nat} {S : KS} {p : Nat} {x : Int32} {M : Mem} {Q : Out → Mem → Prop} (h : CSt M S p) (hA : Acy (kY S)) (hq : QA Q M M (aC S x fun i => .inl (nI (dp (kY S) i)))) : WPc (d + 20) mX12_depthOf [.ref (rf 10 0), .int x] M Q := by
  refine WPc.of (by decide +kernel) (Nat.le_of_ble_eq_true rfl) rfl ?_
  cases hx : kC (kY S) x with
  | none =>
    rw [aC_n hx] at hq
    refine R.aload_n dX12_depthOf_0 rfl (by first | rfl | exact rfv_rf _) ?_
    refine R.iload_n dX12_depthOf_1 rfl ?_
    refine cl_X12_119 rfl rfl (by first | exact Nat.le_of_ble_eq_true rfl | simp [rf_cat, Value.category]) dX12_depthOf_2 ?_
    refine s_kN h hx ?_
    exact hq
  | some i =>
    obtain ⟨ex, hi, hc⟩ := kC_s hx
    rw [aC_s hx] at hq
    refine R.aload_n dX12_depthOf_0 rfl (by first | rfl | exact rfv_rf _) ?_
    refine R.iload_n dX12_depthOf_1 rfl ?_
    refine cl_X12_119 rfl rfl (by first | exact Nat.le_of_ble_eq_true rfl | simp [rf_cat, Value.category]) dX12_depthOf_2 ?_
    refine s_kS h hx ?_
    refine cl_X12_149 rfl rfl (by first | exact Nat.le_of_ble_eq_true rfl | simp [rf_cat, Value.category]) dX12_depthOf_5 ?_
    refine s_cDepth h.y hi (hA i hi) ?_
    refine WP.ret (ov := some (.int _)) dX12_depthOf_8 ⟨rfl, _, rfl, by first | rfl | assumption | exact nar_b01 (by assumption)⟩ ?_
    exact hq
set_option maxHeartbeats 1000000 in
set_option maxRecDepth 4000 in
theorem c_isInYard {d : Nat} {S : KS} {p : Nat} {x : Int32} {M : Mem} {Q : Out → Mem → Prop} (h : CSt M S p) (hG : YG (kY S)) (hq : QA Q M M (aC S x fun i => .inl (yC (kY S) i 7))) : WPc (d + 20) mX12_isInYard [.ref (rf 10 0), .int x] M Q := by
  refine WPc.of (by decide +kernel) (Nat.le_of_ble_eq_true rfl) rfl ?_
  cases hx : kC (kY S) x with
  | none =>
    rw [aC_n hx] at hq
    refine R.aload_n dX12_isInYard_0 rfl (by first | rfl | exact rfv_rf _) ?_
    refine R.iload_n dX12_isInYard_1 rfl ?_
    refine cl_X12_119 rfl rfl (by first | exact Nat.le_of_ble_eq_true rfl | simp [rf_cat, Value.category]) dX12_isInYard_2 ?_
    refine s_kN h hx ?_
    exact hq
  | some i =>
    obtain ⟨ex, hi, hc⟩ := kC_s hx
    rw [aC_s hx] at hq
    have hb01 := hG.1 i hi
    refine R.aload_n dX12_isInYard_0 rfl (by first | rfl | exact rfv_rf _) ?_
    refine R.iload_n dX12_isInYard_1 rfl ?_
    refine cl_X12_119 rfl rfl (by first | exact Nat.le_of_ble_eq_true rfl | simp [rf_cat, Value.category]) dX12_isInYard_2 ?_
    refine s_kS h hx ?_
    refine R.getI dX12_isInYard_5 fl_X12_162 (by decide) rfl ?_
    rw [h.y.rC hi]
    refine WP.ret (ov := some (.int _)) dX12_isInYard_8 ⟨rfl, _, rfl, by first | rfl | assumption | exact nar_b01 (by assumption)⟩ ?_
    exact hq
def ccF (Y : Yd) : Nat → Option Nat → Nat → Nat
  | 0, _, a => a
  | f + 1, o, a => match o with
    | none => a
    | some j => ccF Y f (nCh Y j) (a + 1)
def coF (Y : Yd) : Nat → Option Nat → Nat → Int32 → Int32
  | 0, _, _, _ => -1
  | f + 1, o, a, z => match o with
    | none => -1
    | some j => if nI a = z then nI j else coF Y f (nCh Y j) (a + 1) z
set_option maxHeartbeats 1000000 in
set_option maxRecDepth 4000 in
theorem c_childCount {d : Nat} {S : KS} {p : Nat} {x : Int32} {M : Mem} {Q : Out → Mem → Prop} (h : CSt M S p) (hE : ChE (kY S)) (hq : QA Q M M (aC S x fun i => .inl (nI (ccF (kY S) 17 (fCh (kY S) i) 0)))) : WPc (d + 20) mX12_childCount [.ref (rf 10 0), .int x] M Q := by
  refine WPc.of (by decide +kernel) (Nat.le_of_ble_eq_true rfl) rfl ?_
  cases hx : kC (kY S) x with
  | none =>
    rw [aC_n hx] at hq
    refine R.aload_n dX12_childCount_0 rfl (by first | rfl | exact rfv_rf _) ?_
    refine R.iload_n dX12_childCount_1 rfl ?_
    refine cl_X12_119 rfl rfl (by first | exact Nat.le_of_ble_eq_true rfl | simp [rf_cat, Value.category]) dX12_childCount_2 ?_
    refine s_kN h hx ?_
    exact hq
  | some i =>
    obtain ⟨ex, hi, hc⟩ := kC_s hx
    rw [aC_s hx] at hq
    have key : ∀ (f : Nat) (o : Option Nat) (a : Nat), chE (kY S) f o → (∀ c, o = some c → c < 16) → Q (.inl (some (.int (nI (ccF (kY S) f o a))))) M → WP mX12_childCount (d + 20) 18 [.ref (rf 10 0), .int x, .ref (rf 1 (16 * 0 + i)), .int (nI a), va_rf (o.map fun j => rf 1 (16 * 0 + j))] [] M Q := by
      intro f
      induction f with
      | zero =>
        intro o a hE1 ho hq
        cases (show o = none from hE1)
        show WP mX12_childCount (d + 20) 18 [.ref (rf 10 0), .int x, .ref (rf 1 (16 * 0 + i)), .int (nI a), .null] [] M Q
        refine R.aload dX12_childCount_18 rfl (by first | rfl | exact rfv_rf _) ?_
        refine R.ifnullN (tgt := 40) dX12_childCount_20 (by decide) ?_
        refine R.iload_n dX12_childCount_40 rfl ?_
        refine WP.ret (ov := some (.int _)) dX12_childCount_41 ⟨rfl, _, rfl, by first | rfl | assumption | exact nar_b01 (by assumption)⟩ ?_
        exact hq
      | succ f ih =>
        intro o a hE1 ho hq
        cases o with
        | none =>
          show WP mX12_childCount (d + 20) 18 [.ref (rf 10 0), .int x, .ref (rf 1 (16 * 0 + i)), .int (nI a), .null] [] M Q
          refine R.aload dX12_childCount_18 rfl (by first | rfl | exact rfv_rf _) ?_
          refine R.ifnullN (tgt := 40) dX12_childCount_20 (by decide) ?_
          refine R.iload_n dX12_childCount_40 rfl ?_
          refine WP.ret (ov := some (.int _)) dX12_childCount_41 ⟨rfl, _, rfl, by first | rfl | assumption | exact nar_b01 (by assumption)⟩ ?_
          exact hq
        | some j =>
          have hj := ho j rfl
          have hE2 : chE (kY S) f (nCh (kY S) j) := hE1
          show WP mX12_childCount (d + 20) 18 [.ref (rf 10 0), .int x, .ref (rf 1 (16 * 0 + i)), .int (nI a), .ref (rf 1 (16 * 0 + j))] [] M Q
          refine R.aload dX12_childCount_18 rfl (by first | rfl | exact rfv_rf _) ?_
          refine R.ifnullS (tgt := 40) (by first | decide | exact Nat.lt_of_le_of_lt (Nat.le_of_eq (kd_rf _ _ (by decide))) (by decide)) dX12_childCount_20 (by decide) ?_
          refine R.iinc dX12_childCount_23 (Nat.le_of_ble_eq_true rfl) (by decide) (by first | rfl | simp [lft, rf_cat]) rfl (inc_nI _) rfl ?_
          refine R.aload_n dX12_childCount_26 rfl (by first | rfl | exact rfv_rf _) ?_
          refine R.getS (h.l.1) dX12_childCount_27 fl_X12_10 (by decide) rfl ?_
          refine R.aload dX12_childCount_30 rfl (by first | rfl | exact rfv_rf _) ?_
          refine cl_X12_156 rfl rfl (by first | exact Nat.le_of_ble_eq_true rfl | simp [rf_cat, Value.category]) dX12_childCount_32 ?_
          refine s_yNext h.y hj ?_
          refine R.astore dX12_childCount_35 (by first | rfl | exact rfv_rf _) (Nat.le_of_ble_eq_true rfl) (by decide) (by first | rfl | simp [lft, rf_cat]) rfl ?_
          refine R.goto (tgt := 18) dX12_childCount_37 (by decide) ?_
          exact ih (nCh (kY S) j) (a + 1) hE2 (fun c e => nCh_lt e) hq
    refine R.aload_n dX12_childCount_0 rfl (by first | rfl | exact rfv_rf _) ?_
    refine R.iload_n dX12_childCount_1 rfl ?_
    refine cl_X12_119 rfl rfl (by first | exact Nat.le_of_ble_eq_true rfl | simp [rf_cat, Value.category]) dX12_childCount_2 ?_
    refine s_kS h hx ?_
    refine R.astore_n dX12_childCount_5 (by first | rfl | exact rfv_rf _) (Nat.le_of_ble_eq_true rfl) (by decide) (by first | rfl | simp [lft, rf_cat]) rfl ?_
    refine R.iconst (v := 0) dX12_childCount_6 rfl ?_
    refine R.istore_n dX12_childCount_7 (Nat.le_of_ble_eq_true rfl) (by decide) (by first | rfl | simp [lft, rf_cat]) rfl ?_
    refine R.aload_n dX12_childCount_8 rfl (by first | rfl | exact rfv_rf _) ?_
    refine R.getS (h.l.1) dX12_childCount_9 fl_X12_10 (by decide) rfl ?_
    refine R.aload_n dX12_childCount_12 rfl (by first | rfl | exact rfv_rf _) ?_
    refine cl_X12_152 rfl rfl (by first | exact Nat.le_of_ble_eq_true rfl | simp [rf_cat, Value.category]) dX12_childCount_13 ?_
    refine s_yFirst h.y ?_
    refine R.astore dX12_childCount_16 (by first | rfl | exact rfv_rf _) (Nat.le_of_ble_eq_true rfl) (by decide) (by first | rfl | simp [lft, rf_cat]) rfl ?_
    exact key 17 (fCh (kY S) i) 0 (hE i hi) (fun c e => fCh_lt e) hq
set_option maxHeartbeats 1000000 in
set_option maxRecDepth 4000 in
theorem c_childOf {d : Nat} {S : KS} {p : Nat} {x z : Int32} {M : Mem} {Q : Out → Mem → Prop} (h : CSt M S p) (hE : ChE (kY S)) (hq : QA Q M M (aC S x fun i => .inl (coF (kY S) 17 (fCh (kY S) i) 0 z))) : WPc (d + 20) mX12_childOf [.ref (rf 10 0), .int x, .int z] M Q := by
  refine WPc.of (by decide +kernel) (Nat.le_of_ble_eq_true rfl) rfl ?_
  cases hx : kC (kY S) x with
  | none =>
    rw [aC_n hx] at hq
    refine R.aload_n dX12_childOf_0 rfl (by first | rfl | exact rfv_rf _) ?_
    refine R.iload_n dX12_childOf_1 rfl ?_
    refine cl_X12_119 rfl rfl (by first | exact Nat.le_of_ble_eq_true rfl | simp [rf_cat, Value.category]) dX12_childOf_2 ?_
    refine s_kN h hx ?_
    exact hq
  | some i =>
    obtain ⟨ex, hi, hc⟩ := kC_s hx
    rw [aC_s hx] at hq
    have key : ∀ (f : Nat) (o : Option Nat) (a : Nat), chE (kY S) f o → (∀ c, o = some c → c < 16) → Q (.inl (some (.int (coF (kY S) f o a z)))) M → WP mX12_childOf (d + 20) 19 [.ref (rf 10 0), .int x, .int z, .ref (rf 1 (16 * 0 + i)), .int (nI a), va_rf (o.map fun j => rf 1 (16 * 0 + j))] [] M Q := by
      intro f
      induction f with
      | zero =>
        intro o a hE1 ho hq
        cases (show o = none from hE1)
        show WP mX12_childOf (d + 20) 19 [.ref (rf 10 0), .int x, .int z, .ref (rf 1 (16 * 0 + i)), .int (nI a), .null] [] M Q
        refine R.aload dX12_childOf_19 rfl (by first | rfl | exact rfv_rf _) ?_
        refine R.ifnullN (tgt := 53) dX12_childOf_21 (by decide) ?_
        refine R.iconst (v := (-1)) dX12_childOf_53 rfl ?_
        refine WP.ret (ov := some (.int _)) dX12_childOf_54 ⟨rfl, _, rfl, by first | rfl | assumption | exact nar_b01 (by assumption)⟩ ?_
        exact hq
      | succ f ih =>
        intro o a hE1 ho hq
        cases o with
        | none =>
          show WP mX12_childOf (d + 20) 19 [.ref (rf 10 0), .int x, .int z, .ref (rf 1 (16 * 0 + i)), .int (nI a), .null] [] M Q
          refine R.aload dX12_childOf_19 rfl (by first | rfl | exact rfv_rf _) ?_
          refine R.ifnullN (tgt := 53) dX12_childOf_21 (by decide) ?_
          refine R.iconst (v := (-1)) dX12_childOf_53 rfl ?_
          refine WP.ret (ov := some (.int _)) dX12_childOf_54 ⟨rfl, _, rfl, by first | rfl | assumption | exact nar_b01 (by assumption)⟩ ?_
          exact hq
        | some j =>
          have hj := ho j rfl
          have hE2 : chE (kY S) f (nCh (kY S) j) := hE1
          show WP mX12_childOf (d + 20) 19 [.ref (rf 10 0), .int x, .int z, .ref (rf 1 (16 * 0 + i)), .int (nI a), .ref (rf 1 (16 * 0 + j))] [] M Q
          refine R.aload dX12_childOf_19 rfl (by first | rfl | exact rfv_rf _) ?_
          refine R.ifnullS (tgt := 53) (by first | decide | exact Nat.lt_of_le_of_lt (Nat.le_of_eq (kd_rf _ _ (by decide))) (by decide)) dX12_childOf_21 (by decide) ?_
          refine R.iload dX12_childOf_24 rfl ?_
          refine R.iload_n dX12_childOf_26 rfl ?_
          refine R.icmp_ne (tgt := 36) dX12_childOf_27 (by decide) (fun c27 => ?_) (fun c27 => ?_)
          · refine R.iinc dX12_childOf_36 (Nat.le_of_ble_eq_true rfl) (by decide) (by first | rfl | simp [lft, rf_cat]) rfl (inc_nI _) rfl ?_
            refine R.aload_n dX12_childOf_39 rfl (by first | rfl | exact rfv_rf _) ?_
            refine R.getS (h.l.1) dX12_childOf_40 fl_X12_10 (by decide) rfl ?_
            refine R.aload dX12_childOf_43 rfl (by first | rfl | exact rfv_rf _) ?_
            refine cl_X12_156 rfl rfl (by first | exact Nat.le_of_ble_eq_true rfl | simp [rf_cat, Value.category]) dX12_childOf_45 ?_
            refine s_yNext h.y hj ?_
            refine R.astore dX12_childOf_48 (by first | rfl | exact rfv_rf _) (Nat.le_of_ble_eq_true rfl) (by decide) (by first | rfl | simp [lft, rf_cat]) rfl ?_
            refine R.goto (tgt := 19) dX12_childOf_50 (by decide) ?_
            rw [coF, if_neg c27] at hq
            exact ih (nCh (kY S) j) (a + 1) hE2 (fun c e => nCh_lt e) hq
          · refine R.aload dX12_childOf_30 rfl (by first | rfl | exact rfv_rf _) ?_
            refine R.getI dX12_childOf_32 fl_X12_159 (by decide) rfl ?_
            rw [h.y.rC hj, h.y.xC hj]
            refine WP.ret (ov := some (.int _)) dX12_childOf_35 ⟨rfl, _, rfl, by first | rfl | assumption | exact nar_b01 (by assumption)⟩ ?_
            rw [coF, if_pos c27] at hq
            exact hq
    refine R.aload_n dX12_childOf_0 rfl (by first | rfl | exact rfv_rf _) ?_
    refine R.iload_n dX12_childOf_1 rfl ?_
    refine cl_X12_119 rfl rfl (by first | exact Nat.le_of_ble_eq_true rfl | simp [rf_cat, Value.category]) dX12_childOf_2 ?_
    refine s_kS h hx ?_
    refine R.astore_n dX12_childOf_5 (by first | rfl | exact rfv_rf _) (Nat.le_of_ble_eq_true rfl) (by decide) (by first | rfl | simp [lft, rf_cat]) rfl ?_
    refine R.iconst (v := 0) dX12_childOf_6 rfl ?_
    refine R.istore dX12_childOf_7 (Nat.le_of_ble_eq_true rfl) (by decide) (by first | rfl | simp [lft, rf_cat]) rfl ?_
    refine R.aload_n dX12_childOf_9 rfl (by first | rfl | exact rfv_rf _) ?_
    refine R.getS (h.l.1) dX12_childOf_10 fl_X12_10 (by decide) rfl ?_
    refine R.aload_n dX12_childOf_13 rfl (by first | rfl | exact rfv_rf _) ?_
    refine cl_X12_152 rfl rfl (by first | exact Nat.le_of_ble_eq_true rfl | simp [rf_cat, Value.category]) dX12_childOf_14 ?_
    refine s_yFirst h.y ?_
    refine R.astore dX12_childOf_17 (by first | rfl | exact rfv_rf _) (Nat.le_of_ble_eq_true rfl) (by decide) (by first | rfl | simp [lft, rf_cat]) rfl ?_
    exact key 17 (fCh (kY S) i) 0 (hE i hi) (fun c e => fCh_lt e) hq
set_option maxHeartbeats 1000000 in
set_option maxRecDepth 4000 in
theorem c_lastReading {d : Nat} {S : KS} {p : Nat} {x : Int32} {M : Mem} {Q : Out → Mem → Prop} (h : CSt M S p) (hq : QA Q M M (aW S x fun i => yC (kY S) i 11)) : WPc (d + 20) mX12_lastReading [.ref (rf 10 0), .int x] M Q := by
  refine WPc.of (by decide +kernel) (Nat.le_of_ble_eq_true rfl) rfl ?_
  unfold aW at hq
  cases hx : kC (kY S) x with
  | none =>
    rw [aC_n hx] at hq
    refine R.aload_n dX12_lastReading_0 rfl (by first | rfl | exact rfv_rf _) ?_
    refine R.iload_n dX12_lastReading_1 rfl ?_
    refine cl_X12_169 rfl rfl (by first | exact Nat.le_of_ble_eq_true rfl | simp [rf_cat, Value.category]) dX12_lastReading_2 ?_
    refine s_wN h hx ?_
    exact hq
  | some i =>
    obtain ⟨ex, hi, hc⟩ := kC_s hx
    rw [aC_s hx] at hq
    by_cases h0 : yC (kY S) i 8 = 0
    · skip
      refine R.aload_n dX12_lastReading_0 rfl (by first | rfl | exact rfv_rf _) ?_
      refine R.iload_n dX12_lastReading_1 rfl ?_
      refine cl_X12_169 rfl rfl (by first | exact Nat.le_of_ble_eq_true rfl | simp [rf_cat, Value.category]) dX12_lastReading_2 ?_
      refine s_w0 h hx h0 ?_
      rw [if_pos h0] at hq
      exact hq
    · skip
      refine R.aload_n dX12_lastReading_0 rfl (by first | rfl | exact rfv_rf _) ?_
      refine R.iload_n dX12_lastReading_1 rfl ?_
      refine cl_X12_169 rfl rfl (by first | exact Nat.le_of_ble_eq_true rfl | simp [rf_cat, Value.category]) dX12_lastReading_2 ?_
      refine s_wS h hx h0 ?_
      refine R.getI dX12_lastReading_5 fl_X12_172 (by decide) rfl ?_
      rw [h.y.rC hi]
      refine WP.ret (ov := some (.int _)) dX12_lastReading_8 ⟨rfl, _, rfl, by first | rfl | assumption | exact nar_b01 (by assumption)⟩ ?_
      rw [if_neg h0] at hq
      exact hq
set_option maxHeartbeats 1000000 in
set_option maxRecDepth 4000 in
theorem c_meanReading {d : Nat} {S : KS} {p : Nat} {x : Int32} {M : Mem} {Q : Out → Mem → Prop} (h : CSt M S p) (hq : QA Q M M (aW S x fun i => yMean (kY S) i)) : WPc (d + 20) mX12_meanReading [.ref (rf 10 0), .int x] M Q := by
  refine WPc.of (by decide +kernel) (Nat.le_of_ble_eq_true rfl) rfl ?_
  unfold aW at hq
  cases hx : kC (kY S) x with
  | none =>
    rw [aC_n hx] at hq
    refine R.aload_n dX12_meanReading_0 rfl (by first | rfl | exact rfv_rf _) ?_
    refine R.iload_n dX12_meanReading_1 rfl ?_
    refine cl_X12_169 rfl rfl (by first | exact Nat.le_of_ble_eq_true rfl | simp [rf_cat, Value.category]) dX12_meanReading_2 ?_
    refine s_wN h hx ?_
    exact hq
  | some i =>
    obtain ⟨ex, hi, hc⟩ := kC_s hx
    rw [aC_s hx] at hq
    by_cases h0 : yC (kY S) i 8 = 0
    · skip
      refine R.aload_n dX12_meanReading_0 rfl (by first | rfl | exact rfv_rf _) ?_
      refine R.iload_n dX12_meanReading_1 rfl ?_
      refine cl_X12_169 rfl rfl (by first | exact Nat.le_of_ble_eq_true rfl | simp [rf_cat, Value.category]) dX12_meanReading_2 ?_
      refine s_w0 h hx h0 ?_
      rw [if_pos h0] at hq
      exact hq
    · skip
      refine R.aload_n dX12_meanReading_0 rfl (by first | rfl | exact rfv_rf _) ?_
      refine R.iload_n dX12_meanReading_1 rfl ?_
      refine cl_X12_169 rfl rfl (by first | exact Nat.le_of_ble_eq_true rfl | simp [rf_cat, Value.category]) dX12_meanReading_2 ?_
      refine s_wS h hx h0 ?_
      refine cl_X12_175 rfl rfl (by first | exact Nat.le_of_ble_eq_true rfl | simp [rf_cat, Value.category]) dX12_meanReading_5 ?_
      refine s_cMean ?_
      rw [h.y.rC hi, h.y.rL hi]
      refine WP.ret (ov := some (.int _)) dX12_meanReading_8 ⟨rfl, _, rfl, by first | rfl | assumption | exact nar_b01 (by assumption)⟩ ?_
      rw [if_neg h0] at hq
      exact hq
set_option maxHeartbeats 1000000 in
set_option maxRecDepth 4000 in
theorem c_refusalReason {d : Nat} {S : KS} {p : Nat} {x z : Int32} {M : Mem} {Q : Out → Mem → Prop} (h : CSt M S p) (hq : QA Q M M (aC S x fun i => aU S z fun b => .inl (yRef (kY S) i b))) : WPc (d + 20) mX12_refusalReason [.ref (rf 10 0), .int x, .int z] M Q := by
  refine WPc.of (by decide +kernel) (Nat.le_of_ble_eq_true rfl) rfl ?_
  cases hx : kC (kY S) x with
  | none =>
    rw [aC_n hx] at hq
    refine R.aload_n dX12_refusalReason_0 rfl (by first | rfl | exact rfv_rf _) ?_
    refine R.getS (h.l.1) dX12_refusalReason_1 fl_X12_10 (by decide) rfl ?_
    refine R.aload_n dX12_refusalReason_4 rfl (by first | rfl | exact rfv_rf _) ?_
    refine R.iload_n dX12_refusalReason_5 rfl ?_
    refine cl_X12_119 rfl rfl (by first | exact Nat.le_of_ble_eq_true rfl | simp [rf_cat, Value.category]) dX12_refusalReason_6 ?_
    refine s_kN h hx ?_
    exact hq
  | some i =>
    obtain ⟨ex, hi, hc⟩ := kC_s hx
    rw [aC_s hx] at hq
    cases hz : kU (kY S) z with
    | none =>
      rw [aU_n hz] at hq
      refine R.aload_n dX12_refusalReason_0 rfl (by first | rfl | exact rfv_rf _) ?_
      refine R.getS (h.l.1) dX12_refusalReason_1 fl_X12_10 (by decide) rfl ?_
      refine R.aload_n dX12_refusalReason_4 rfl (by first | rfl | exact rfv_rf _) ?_
      refine R.iload_n dX12_refusalReason_5 rfl ?_
      refine cl_X12_119 rfl rfl (by first | exact Nat.le_of_ble_eq_true rfl | simp [rf_cat, Value.category]) dX12_refusalReason_6 ?_
      refine s_kS h hx ?_
      refine R.aload_n dX12_refusalReason_9 rfl (by first | rfl | exact rfv_rf _) ?_
      refine R.iload_n dX12_refusalReason_10 rfl ?_
      refine cl_X12_130 rfl rfl (by first | exact Nat.le_of_ble_eq_true rfl | simp [rf_cat, Value.category]) dX12_refusalReason_11 ?_
      refine s_uN h hz ?_
      exact hq
    | some b =>
      obtain ⟨ez, hb, hd⟩ := kU_s hz
      rw [aU_s hz] at hq
      refine R.aload_n dX12_refusalReason_0 rfl (by first | rfl | exact rfv_rf _) ?_
      refine R.getS (h.l.1) dX12_refusalReason_1 fl_X12_10 (by decide) rfl ?_
      refine R.aload_n dX12_refusalReason_4 rfl (by first | rfl | exact rfv_rf _) ?_
      refine R.iload_n dX12_refusalReason_5 rfl ?_
      refine cl_X12_119 rfl rfl (by first | exact Nat.le_of_ble_eq_true rfl | simp [rf_cat, Value.category]) dX12_refusalReason_6 ?_
      refine s_kS h hx ?_
      refine R.aload_n dX12_refusalReason_9 rfl (by first | rfl | exact rfv_rf _) ?_
      refine R.iload_n dX12_refusalReason_10 rfl ?_
      refine cl_X12_130 rfl rfl (by first | exact Nat.le_of_ble_eq_true rfl | simp [rf_cat, Value.category]) dX12_refusalReason_11 ?_
      refine s_uS h hz ?_
      refine cl_X12_242 rfl rfl (by first | exact Nat.le_of_ble_eq_true rfl | simp [rf_cat, Value.category]) dX12_refusalReason_14 ?_
      refine s_yRef h.y hi hb ?_
      refine WP.ret (ov := some (.int _)) dX12_refusalReason_17 ⟨rfl, _, rfl, by first | rfl | assumption | exact nar_b01 (by assumption)⟩ ?_
      exact hq
def bbF (Y : Yd) (i : Nat) : Int32 := match mtF Y i 6 0 none with
  | none => -1
  | some b => nI b
theorem mtF_lt {Y : Yd} {i : Nat} : ∀ (k b : Nat) (r : Option Nat), b + k = 6 → (∀ c, r = some c → c < 6) → ∀ c, mtF Y i k b r = some c → c < 6 := by
  intro k
  induction k with
  | zero => intro b r _ h c e; exact h c e
  | succ k ih =>
    intro b r hb h c e
    rw [mtF] at e
    refine ih (b + 1) _ (by omega) ?_ c e
    intro c2 e2
    split at e2
    · cases e2; omega
    · exact h c2 e2
def coY (Y : Yd) : Int32 := if aoF Y 16 0 = 0 then 0 else if ¬ moF Y 6 0 (yT Y 4 - yT Y 5) = yT Y 6 then 0 else if ¬ yT Y 0 = stF Y 16 0 0 + yT Y 1 then 0 else 1
theorem if10 {P : Prop} [Decidable P] (h : (if P then (1 : Int32) else 0) = 0) : ¬ P := fun z => by rw [if_pos z] at h; exact absurd h (by decide)
theorem if10n {P : Prop} [Decidable P] (h : ¬ (if P then (1 : Int32) else 0) = 0) : P := Decidable.byContradiction fun z => h (if_neg z)
set_option maxHeartbeats 1000000 in
set_option maxRecDepth 4000 in
theorem c_isConsistent {d : Nat} {S : KS} {p : Nat} {M : Mem} {Q : Out → Mem → Prop} (h : CSt M S p) (hA : Acy (kY S)) (hE : ChE (kY S)) (hq : Q (.inl (some (.int (coY (kY S))))) M) : WPc (d + 20) mX12_isConsistent [.ref (rf 10 0)] M Q := by
  refine WPc.of (by decide +kernel) (Nat.le_of_ble_eq_true rfl) rfl ?_
  refine R.aload_n dX12_isConsistent_0 rfl (by first | rfl | exact rfv_rf _) ?_
  refine R.getS (h.l.1) dX12_isConsistent_1 fl_X12_10 (by decide) rfl ?_
  refine cl_X12_280 rfl rfl (by first | exact Nat.le_of_ble_eq_true rfl | simp [rf_cat, Value.category]) dX12_isConsistent_4 ?_
  refine s_yAll h.y hA hE ?_
  refine R.if_eq (tgt := 34) dX12_isConsistent_7 (by decide) (fun c7 => ?_) (fun c7 => ?_)
  · refine R.iconst (v := 0) dX12_isConsistent_34 rfl ?_
    refine WP.ret (ov := some (.int _)) dX12_isConsistent_35 ⟨rfl, _, rfl, by first | rfl | assumption | exact nar_b01 (by assumption)⟩ ?_
    rw [coY, if_pos c7] at hq
    exact hq
  · refine R.aload_n dX12_isConsistent_10 rfl (by first | rfl | exact rfv_rf _) ?_
    refine R.getS (h.l.1) dX12_isConsistent_11 fl_X12_10 (by decide) rfl ?_
    refine cl_X12_283 rfl rfl (by first | exact Nat.le_of_ble_eq_true rfl | simp [rf_cat, Value.category]) dX12_isConsistent_14 ?_
    refine s_yMoney h.y ?_
    refine R.if_eq (tgt := 34) dX12_isConsistent_17 (by decide) (fun c17 => ?_) (fun c17 => ?_)
    · refine R.iconst (v := 0) dX12_isConsistent_34 rfl ?_
      refine WP.ret (ov := some (.int _)) dX12_isConsistent_35 ⟨rfl, _, rfl, by first | rfl | assumption | exact nar_b01 (by assumption)⟩ ?_
      rw [coY, if_neg c7, if_pos (if10 c17)] at hq
      exact hq
    · refine R.aload_n dX12_isConsistent_20 rfl (by first | rfl | exact rfv_rf _) ?_
      refine R.getS (h.l.1) dX12_isConsistent_21 fl_X12_10 (by decide) rfl ?_
      refine cl_X12_286 rfl rfl (by first | exact Nat.le_of_ble_eq_true rfl | simp [rf_cat, Value.category]) dX12_isConsistent_24 ?_
      refine s_yTot h.y ?_
      refine R.if_eq (tgt := 34) dX12_isConsistent_27 (by decide) (fun c27 => ?_) (fun c27 => ?_)
      · refine R.iconst (v := 0) dX12_isConsistent_34 rfl ?_
        refine WP.ret (ov := some (.int _)) dX12_isConsistent_35 ⟨rfl, _, rfl, by first | rfl | assumption | exact nar_b01 (by assumption)⟩ ?_
        rw [coY, if_neg c7, if_neg (fun z => z (if10n c17)), if_pos (if10 c27)] at hq
        exact hq
      · refine R.iconst (v := 1) dX12_isConsistent_30 rfl ?_
        refine R.goto (tgt := 35) dX12_isConsistent_31 (by decide) ?_
        refine WP.ret (ov := some (.int _)) dX12_isConsistent_35 ⟨rfl, _, rfl, by first | rfl | assumption | exact nar_b01 (by assumption)⟩ ?_
        rw [coY, if_neg c7, if_neg (fun z => z (if10n c17)), if_neg (fun z => z (if10n c27))] at hq
        exact hq
