/-! the class as a whole: its state, its helpers -/
abbrev KS : Type := Yd × Option Yd × List Yd × (Nat → Int32) × Nat × Int32 × Int32 × List Int32
def kY (S : KS) : Yd := S.1
def kV (S : KS) : Option Yd := S.2.1
def kH (S : KS) : List Yd := S.2.2.1
def kB (S : KS) : Nat → Int32 := S.2.2.2.1
def kN (S : KS) : Nat := S.2.2.2.2.1
def kE (S : KS) : Int32 := S.2.2.2.2.2.1
def kQ (S : KS) : Int32 := S.2.2.2.2.2.2.1
def kO (S : KS) : List Int32 := S.2.2.2.2.2.2.2
def CLay (M : Mem) : Prop := mR M 10 0 0 = some (rf 9 0) ∧ mR M 10 0 1 = some (rf 9 1) ∧ mR M 10 0 2 = some (rf 9 2) ∧ mR M 10 0 3 = some (rf 2 0) ∧ mR M 10 0 4 = some (rf 7 0) ∧ mR M 10 0 5 = some (rf 5 0) ∧ mR M 10 0 6 = some (rf 4 0) ∧ mR M 10 0 7 = some (rf 12 0) ∧ mR M 10 0 8 = some (rf 1 176) ∧ mR M 10 0 9 = some (rf 3 11)
def Sb (M : Mem) (cap : Nat) (O : List Int32) : Prop := (∃ v, mR M 12 0 0 = some (rf 13 v) ∧ 0 < v ∧ v < mC M 13 ∧ mN M 13 v = cap ∧ (∀ i x, O[i]? = some x → mI M 13 v i = x) ∧ ∀ j, j < cap → fits .byte (.int (mI M 13 v j)) = true) ∧ mI M 12 0 1 = 0 ∧ mI M 12 0 3 = nI O.length ∧ O.length ≤ cap ∧ cap ≤ 600
def Vv (M : Mem) (V : Option Yd) : Prop := ∃ Z, Yv M 1 Z ∧ match V with
  | none => mI M 10 0 10 = 0
  | some U => mI M 10 0 10 = 1 ∧ Z = U
/-- the class in the state S; p changes were remembered -/
def CSt (M : Mem) (S : KS) (p : Nat) : Prop := CLay M ∧ Yv M 0 (kY S) ∧ Vv M (kV S) ∧ (∃ Z, Yv M 2 Z) ∧ Hv M p (kH S) ∧ LSe M ∧ SLay M ∧ Tz M (kB S) (kN S) (kE S) (kQ S) ∧ ∃ cap, Sb M cap (kO S)
section CSS
variable {M M' : Mem} {S : KS} {p : Nat}
theorem CSt.l (h : CSt M S p) : CLay M := h.1
theorem CSt.y (h : CSt M S p) : Yv M 0 (kY S) := h.2.1
theorem CSt.v (h : CSt M S p) : Vv M (kV S) := h.2.2.1
theorem CSt.d (h : CSt M S p) : ∃ Z, Yv M 2 Z := h.2.2.2.1
theorem CSt.h (h : CSt M S p) : Hv M p (kH S) := h.2.2.2.2.1
theorem CSt.se (h : CSt M S p) : LSe M := h.2.2.2.2.2.1
theorem CSt.sl (h : CSt M S p) : SLay M := h.2.2.2.2.2.2.1
theorem CSt.t (h : CSt M S p) : Tz M (kB S) (kN S) (kE S) (kQ S) := h.2.2.2.2.2.2.2.1
theorem CSt.s (h : CSt M S p) : ∃ cap, Sb M cap (kO S) := h.2.2.2.2.2.2.2.2
theorem CLay.fr {T : Nat → Nat → Prop} (h : CLay M) (hF : Fr T M M') (hn : ¬ T 10 0) : CLay M' := by
  unfold CLay at h ⊢
  rw [(hF.2.2.2.2 10 0 hn).2.2.1]
  exact h
theorem Vv.fr {T : Nat → Nat → Prop} {V : Option Yd} (h : Vv M V) (hF : Fr T M M') (hn : ∀ k i, inY 1 k i → ¬ T k i) (hn2 : ¬ T 10 0) : Vv M' V := by
  obtain ⟨Z, h1, h2⟩ := h
  refine ⟨Z, h1.fr hF hn, ?_⟩
  rw [(hF.2.2.2.2 10 0 hn2).1]
  exact h2
theorem Sb.fr {T : Nat → Nat → Prop} {cap : Nat} {O : List Int32} (h : Sb M cap O) (hF : Fr T M M') (hn : ¬ T 12 0) (hn2 : ∀ v, 0 < v → ¬ T 13 v) : Sb M' cap O := by
  obtain ⟨⟨v, a1, a2, a3, a4, a5, a6⟩, b1, b2, b3⟩ := h
  have e := hF.2.2.2.2 12 0 hn
  have e2 := hF.2.2.2.2 13 v (hn2 v a2)
  refine ⟨⟨v, by rw [e.2.2.1]; exact a1, a2, by rw [hF.1]; exact a3, by rw [hF.2.1]; exact a4, fun i x hx => by rw [e2.1]; exact a5 i x hx, fun j hj => by rw [e2.1]; exact a6 j hj⟩, by rw [e.1]; exact b1, by rw [e.1]; exact b2, b3⟩
/-- the rest of the state behind a change of the cells T -/
theorem CSt.fr {T : Nat → Nat → Prop} (h : CSt M S p) (hF : Fr T M M') (n1 : ¬ T 10 0) (n2 : ∀ y, y < 11 → ∀ k i, inY y k i → ¬ T k i) (n3 : ¬ T 2 0) (n4 : ¬ T 20 0) (n5 : ¬ T 5 0) (n6 : ¬ T 4 0) (n7 : ¬ T 19 0) (n8 : ¬ T 7 0) (n9 : ¬ T 12 0) (n10 : ∀ v, ¬ T 13 v) : CSt M' S p := by
  obtain ⟨a1, a2, a3, ⟨Z, a4⟩, a5, a6, a7, a8, cap, a9⟩ := h
  refine ⟨a1.fr hF n1, a2.fr hF (n2 0 (by omega)), a3.fr hF (n2 1 (by omega)) n1, ⟨Z, a4.fr hF (n2 2 (by omega))⟩, a5.fr hF ?_ n4, a6.fr hF n5, a7.fr hF n6 n7, a8.fr hF n8 (n10 0), cap, a9.fr hF n9 (fun v _ => n10 v)⟩
  intro k i hi
  rcases hi with ⟨rfl, rfl⟩ | ⟨j, hj, hy⟩
  · exact n3
  · exact n2 (3 + j) (by omega) k i hy
theorem CSt.ax (h : CSt M S p) : CSt (ax M) S p := h
/-- what a call of the class leaves: the law's and the model's cells; little room -/
def inK (k : Nat) : Prop := k = 11 ∨ k = 14 ∨ k = 15 ∨ k = 16 ∨ (32 ≤ k ∧ k < 37)
def FrK (M M' : Mem) : Prop := (∀ k i, inK k → mI M' k i = mI M k i ∧ mL M' k i = mL M k i ∧ mR M' k i = mR M k i ∧ mD M' k i = mD M k i ∧ mN M' k i = mN M k i) ∧ (∀ k, inK k → mC M' k = mC M k) ∧ mK M' ≤ mK M + 600 ∧ mS M' ≤ mS M + 1200
theorem FrK.of {T : Nat → Nat → Prop} (hF : Fr T M M') (hn : ∀ k i, inK k → ¬ T k i) : FrK M M' := by
  obtain ⟨f1, f2, f3, f4, f5⟩ := hF
  refine ⟨fun k i hk => ?_, fun k _ => by rw [f1], by omega, by omega⟩
  have e := f5 k i (hn k i hk)
  exact ⟨e.1, e.2.1, e.2.2.1, e.2.2.2, by rw [f2]⟩
theorem FrK.ax : FrK M (ax M) := ⟨fun _ _ _ => ⟨rfl, rfl, rfl, rfl, rfl⟩, fun _ _ => rfl, by show mK M + 1 ≤ _; omega, by show mS M + 6 ≤ _; omega⟩
theorem FrK.rf : FrK M M := ⟨fun _ _ _ => ⟨rfl, rfl, rfl, rfl, rfl⟩, fun _ _ => rfl, by omega, by omega⟩
theorem nKY {y : Nat} : ∀ k i, inK k → ¬ inY y k i := by intro k i h z; unfold inK at h; unfold inY at z; omega
theorem nKH : ∀ k i, inK k → ¬ inH k i := by
  intro k i h z
  rcases z with z | ⟨j, -, z⟩
  · unfold inK at h; omega
  · exact nKY k i h z
theorem nKT : ∀ k i, inK k → ¬ inT k i := by intro k i h z; unfold inK at h; unfold inT at z; omega
theorem nKX : ∀ k i, inK k → ¬ inX k i := by intro k i h z; unfold inK at h; unfold inX inT at z; omega
theorem nKS : ∀ k i, inK k → ¬ inS k i := by
  intro k i h z
  rcases z with z | z
  · exact nKT k i h z
  · exact nKY k i h z
end CSS
/-- the crate, the buyer of a number -/
def kC (Y : Yd) (x : Int32) : Option Nat := if x < 0 ∨ yF Y 4 ≤ x ∨ 16 ≤ x then none else some x.toNatClampNeg
def kU (Y : Yd) (x : Int32) : Option Nat := if x < 0 ∨ yF Y 5 ≤ x ∨ 6 ≤ x then none else some x.toNatClampNeg
theorem kC_n {Y : Yd} {x : Int32} (h : kC Y x = none) : x < 0 ∨ yF Y 4 ≤ x ∨ 16 ≤ x := by
  unfold kC at h
  split at h
  · assumption
  · cases h
theorem kU_n {Y : Yd} {x : Int32} (h : kU Y x = none) : x < 0 ∨ yF Y 5 ≤ x ∨ 6 ≤ x := by
  unfold kU at h
  split at h
  · assumption
  · cases h
theorem kC_s {Y : Yd} {x : Int32} {i : Nat} (h : kC Y x = some i) : x = nI i ∧ i < 16 ∧ ¬ yF Y 4 ≤ nI i := by
  unfold kC at h
  split at h
  · cases h
  next z =>
    have z1 : ¬ x < 0 := fun w => z (Or.inl w)
    obtain ⟨j, hj, rfl⟩ := nI_of z1
    rw [nI_clamp hj] at h
    cases h
    refine ⟨rfl, Decidable.byContradiction fun w => z (Or.inr (Or.inr ?_)), fun w => z (Or.inr (Or.inl w))⟩
    exact nI_le (a := 16) (by omega) hj
theorem kU_s {Y : Yd} {x : Int32} {i : Nat} (h : kU Y x = some i) : x = nI i ∧ i < 6 ∧ ¬ yF Y 5 ≤ nI i := by
  unfold kU at h
  split at h
  · cases h
  next z =>
    have z1 : ¬ x < 0 := fun w => z (Or.inl w)
    obtain ⟨j, hj, rfl⟩ := nI_of z1
    rw [nI_clamp hj] at h
    cases h
    refine ⟨rfl, Decidable.byContradiction fun w => z (Or.inr (Or.inr ?_)), fun w => z (Or.inr (Or.inl w))⟩
    exact nI_le (a := 6) (by omega) hj
abbrev eI : String := "java/lang/IndexOutOfBoundsException"
abbrev eA : String := "java/lang/IllegalArgumentException"
abbrev eS : String := "java/lang/IllegalStateException"
abbrev eN : String := "java/util/NoSuchElementException"
/-- what a call answers: a number, or an exception -/
abbrev An : Type := Int32 ⊕ String
def QA (Q : Out → Mem → Prop) (M' M : Mem) (a : An) : Prop := match a with
  | .inl v => Q (.inl (some (.int v))) M'
  | .inr E => Q (.inr E) (ax M)
theorem th_384 : ThW RX12 "java/lang/IndexOutOfBoundsException" "no such buyer" 374 384 378 8 := ⟨gt_i 902 (by decide +kernel) rfl, gt_i 35 (by decide +kernel) rfl, rfl, by decide +kernel, by decide +kernel, by decide +kernel, by decide, by decide +kernel⟩
theorem th_376 : ThW RX12 "java/lang/IndexOutOfBoundsException" "no such crate" 374 376 378 6 := ⟨gt_i 902 (by decide +kernel) rfl, gt_i 35 (by decide +kernel) rfl, rfl, by decide +kernel, by decide +kernel, by decide +kernel, by decide, by decide +kernel⟩
theorem th_388 : ThW RX12 "java/lang/IllegalArgumentException" "out of range" 386 388 390 9 := ⟨gt_i 1200 (by decide +kernel) rfl, gt_i 38 (by decide +kernel) rfl, rfl, by decide +kernel, by decide +kernel, by decide +kernel, by decide, by decide +kernel⟩
theorem th_391 : ThW RX12 "java/lang/IllegalStateException" "not possible now" 317 391 321 10 := ⟨gt_i 1223 (by decide +kernel) rfl, gt_i 39 (by decide +kernel) rfl, rfl, by decide +kernel, by decide +kernel, by decide +kernel, by decide, by decide +kernel⟩
theorem th_319 : ThW RX12 "java/lang/IllegalStateException" "not inside another crate of the yard" 317 319 321 3 := ⟨gt_i 1223 (by decide +kernel) rfl, gt_i 39 (by decide +kernel) rfl, rfl, by decide +kernel, by decide +kernel, by decide +kernel, by decide, by decide +kernel⟩
theorem th_379 : ThN RX12 "java/util/NoSuchElementException" "no stored readings" "java/lang/RuntimeException" 335 379 339 7 13 prog_51_method_4_code := ⟨gt_i 1135 (by decide +kernel) rfl, gt_i 37 (by decide +kernel) rfl, rfl, by decide +kernel, by decide +kernel, by decide +kernel, ⟨by decide +kernel, by decide +kernel⟩, by decide +kernel, by decide +kernel, by decide +kernel, by decide +kernel⟩
set_option maxHeartbeats 1000000 in
set_option maxRecDepth 4000 in
theorem s_kN {d : Nat} {S : KS} {p : Nat} {x : Int32} {M : Mem} {Q : Out → Mem → Prop} (h : CSt M S p) (hx : kC (kY S) x = none) (hq : Q (.inr eI) (ax M)) : WPc (d + 6) mX12_knownCrate [.ref (rf 10 0), .int x] M Q := by
  refine WPc.of (by decide +kernel) (Nat.le_of_ble_eq_true rfl) rfl ?_
  refine R.aload_n dX12_knownCrate_0 rfl (by first | rfl | exact rfv_rf _) ?_
  refine R.getS (h.l.1) dX12_knownCrate_1 fl_X12_10 (by decide) rfl ?_
  refine R.iload_n dX12_knownCrate_4 rfl ?_
  refine cl_X12_371 rfl rfl (by first | exact Nat.le_of_ble_eq_true rfl | simp [rf_cat, Value.category]) dX12_knownCrate_5 ?_
  refine s_yAtN h.y (kC_n hx) ?_
  refine R.astore_n dX12_knownCrate_8 (by first | rfl | exact rfv_rf _) (Nat.le_of_ble_eq_true rfl) (by decide) (by first | rfl | simp [lft, rf_cat]) rfl ?_
  refine R.aload_n dX12_knownCrate_9 rfl (by first | rfl | exact rfv_rf _) ?_
  refine R.ifnonnullN (tgt := 24) dX12_knownCrate_10 (by decide) ?_
  refine R.throwW th_376 rfl (by omega) (by first | exact Nat.le_of_ble_eq_true rfl | simp [rf_cat, Value.category]) dX12_knownCrate_13 dX12_knownCrate_16 dX12_knownCrate_17 dX12_knownCrate_20 dX12_knownCrate_23 ?_
  exact hq
set_option maxHeartbeats 1000000 in
set_option maxRecDepth 4000 in
theorem s_kS {d : Nat} {S : KS} {p : Nat} {x : Int32} {i : Nat} {M : Mem} {Q : Out → Mem → Prop} (h : CSt M S p) (hx : kC (kY S) x = some i) (hq : Q (.inl (some (.ref (rf 1 (16 * 0 + i))))) M) : WPc (d + 1) mX12_knownCrate [.ref (rf 10 0), .int x] M Q := by
  refine WPc.of (by decide +kernel) (Nat.le_of_ble_eq_true rfl) rfl ?_
  obtain ⟨ex, hi, hc⟩ := kC_s hx
  refine R.aload_n dX12_knownCrate_0 rfl (by first | rfl | exact rfv_rf _) ?_
  refine R.getS (h.l.1) dX12_knownCrate_1 fl_X12_10 (by decide) rfl ?_
  refine R.iload_n dX12_knownCrate_4 rfl ?_
  refine cl_X12_371 rfl rfl (by first | exact Nat.le_of_ble_eq_true rfl | simp [rf_cat, Value.category]) dX12_knownCrate_5 ?_
  subst x
  refine s_yAtS h.y hi hc ?_
  refine R.astore_n dX12_knownCrate_8 (by first | rfl | exact rfv_rf _) (Nat.le_of_ble_eq_true rfl) (by decide) (by first | rfl | simp [lft, rf_cat]) rfl ?_
  refine R.aload_n dX12_knownCrate_9 rfl (by first | rfl | exact rfv_rf _) ?_
  refine R.ifnonnullS (tgt := 24) (by first | decide | exact Nat.lt_of_le_of_lt (Nat.le_of_eq (kd_rf _ _ (by decide))) (by decide)) dX12_knownCrate_10 (by decide) ?_
  refine R.aload_n dX12_knownCrate_24 rfl (by first | rfl | exact rfv_rf _) ?_
  first | refine WP.ret (ov := some (.ref _)) dX12_knownCrate_25 ⟨rfl, _, rfl, Or.inl ⟨_, rfl⟩⟩ ?_ | refine WP.ret (ov := some .null) dX12_knownCrate_25 ⟨rfl, _, rfl, Or.inl ⟨_, rfl⟩⟩ ?_
  exact hq
set_option maxHeartbeats 1000000 in
set_option maxRecDepth 4000 in
theorem s_uN {d : Nat} {S : KS} {p : Nat} {x : Int32} {M : Mem} {Q : Out → Mem → Prop} (h : CSt M S p) (hx : kU (kY S) x = none) (hq : Q (.inr eI) (ax M)) : WPc (d + 6) mX12_knownBuyer [.ref (rf 10 0), .int x] M Q := by
  refine WPc.of (by decide +kernel) (Nat.le_of_ble_eq_true rfl) rfl ?_
  refine R.aload_n dX12_knownBuyer_0 rfl (by first | rfl | exact rfv_rf _) ?_
  refine R.getS (h.l.1) dX12_knownBuyer_1 fl_X12_10 (by decide) rfl ?_
  refine R.iload_n dX12_knownBuyer_4 rfl ?_
  refine cl_X12_381 rfl rfl (by first | exact Nat.le_of_ble_eq_true rfl | simp [rf_cat, Value.category]) dX12_knownBuyer_5 ?_
  refine s_yBatN h.y (kU_n hx) ?_
  refine R.astore_n dX12_knownBuyer_8 (by first | rfl | exact rfv_rf _) (Nat.le_of_ble_eq_true rfl) (by decide) (by first | rfl | simp [lft, rf_cat]) rfl ?_
  refine R.aload_n dX12_knownBuyer_9 rfl (by first | rfl | exact rfv_rf _) ?_
  refine R.ifnonnullN (tgt := 24) dX12_knownBuyer_10 (by decide) ?_
  refine R.throwW th_384 rfl (by omega) (by first | exact Nat.le_of_ble_eq_true rfl | simp [rf_cat, Value.category]) dX12_knownBuyer_13 dX12_knownBuyer_16 dX12_knownBuyer_17 dX12_knownBuyer_20 dX12_knownBuyer_23 ?_
  exact hq
set_option maxHeartbeats 1000000 in
set_option maxRecDepth 4000 in
theorem s_uS {d : Nat} {S : KS} {p : Nat} {x : Int32} {i : Nat} {M : Mem} {Q : Out → Mem → Prop} (h : CSt M S p) (hx : kU (kY S) x = some i) (hq : Q (.inl (some (.ref (rf 0 (6 * 0 + i))))) M) : WPc (d + 1) mX12_knownBuyer [.ref (rf 10 0), .int x] M Q := by
  refine WPc.of (by decide +kernel) (Nat.le_of_ble_eq_true rfl) rfl ?_
  obtain ⟨ex, hi, hc⟩ := kU_s hx
  refine R.aload_n dX12_knownBuyer_0 rfl (by first | rfl | exact rfv_rf _) ?_
  refine R.getS (h.l.1) dX12_knownBuyer_1 fl_X12_10 (by decide) rfl ?_
  refine R.iload_n dX12_knownBuyer_4 rfl ?_
  refine cl_X12_381 rfl rfl (by first | exact Nat.le_of_ble_eq_true rfl | simp [rf_cat, Value.category]) dX12_knownBuyer_5 ?_
  subst x
  refine s_yBatS h.y hi hc ?_
  refine R.astore_n dX12_knownBuyer_8 (by first | rfl | exact rfv_rf _) (Nat.le_of_ble_eq_true rfl) (by decide) (by first | rfl | simp [lft, rf_cat]) rfl ?_
  refine R.aload_n dX12_knownBuyer_9 rfl (by first | rfl | exact rfv_rf _) ?_
  refine R.ifnonnullS (tgt := 24) (by first | decide | exact Nat.lt_of_le_of_lt (Nat.le_of_eq (kd_rf _ _ (by decide))) (by decide)) dX12_knownBuyer_10 (by decide) ?_
  refine R.aload_n dX12_knownBuyer_24 rfl (by first | rfl | exact rfv_rf _) ?_
  first | refine WP.ret (ov := some (.ref _)) dX12_knownBuyer_25 ⟨rfl, _, rfl, Or.inl ⟨_, rfl⟩⟩ ?_ | refine WP.ret (ov := some .null) dX12_knownBuyer_25 ⟨rfl, _, rfl, Or.inl ⟨_, rfl⟩⟩ ?_
  exact hq
set_option maxHeartbeats 1000000 in
set_option maxRecDepth 4000 in
theorem s_wN {d : Nat} {S : KS} {p : Nat} {x : Int32} {M : Mem} {Q : Out → Mem → Prop} (h : CSt M S p) (hx : kC (kY S) x = none) (hq : Q (.inr eI) (ax M)) : WPc (d + 7) mX12_weighedCrate [.ref (rf 10 0), .int x] M Q := by
  refine WPc.of (by decide +kernel) (Nat.le_of_ble_eq_true rfl) rfl ?_
  refine R.aload_n dX12_weighedCrate_0 rfl (by first | rfl | exact rfv_rf _) ?_
  refine R.iload_n dX12_weighedCrate_1 rfl ?_
  refine cl_X12_119 rfl rfl (by first | exact Nat.le_of_ble_eq_true rfl | simp [rf_cat, Value.category]) dX12_weighedCrate_2 ?_
  refine s_kN h hx ?_
  exact hq
set_option maxHeartbeats 1000000 in
set_option maxRecDepth 4000 in
theorem s_w0 {d : Nat} {S : KS} {p : Nat} {x : Int32} {i : Nat} {M : Mem} {Q : Out → Mem → Prop} (h : CSt M S p) (hx : kC (kY S) x = some i) (h0 : yC (kY S) i 8 = 0) (hq : Q (.inr eN) (ax M)) : WPc (d + 7) mX12_weighedCrate [.ref (rf 10 0), .int x] M Q := by
  refine WPc.of (by decide +kernel) (Nat.le_of_ble_eq_true rfl) rfl ?_
  obtain ⟨ex, hi, hc⟩ := kC_s hx
  refine R.aload_n dX12_weighedCrate_0 rfl (by first | rfl | exact rfv_rf _) ?_
  refine R.iload_n dX12_weighedCrate_1 rfl ?_
  refine cl_X12_119 rfl rfl (by first | exact Nat.le_of_ble_eq_true rfl | simp [rf_cat, Value.category]) dX12_weighedCrate_2 ?_
  refine s_kS h hx ?_
  refine R.astore_n dX12_weighedCrate_5 (by first | rfl | exact rfv_rf _) (Nat.le_of_ble_eq_true rfl) (by decide) (by first | rfl | simp [lft, rf_cat]) rfl ?_
  refine R.aload_n dX12_weighedCrate_6 rfl (by first | rfl | exact rfv_rf _) ?_
  refine R.getI dX12_weighedCrate_7 fl_X12_166 (by decide) rfl ?_
  rw [h.y.rC hi]
  refine R.if_ne (tgt := 24) dX12_weighedCrate_10 (by decide) (fun c => absurd h0 c) (fun _ => ?_)
  refine R.throwN th_379 rfl (by omega) (by first | exact Nat.le_of_ble_eq_true rfl | simp [rf_cat, Value.category]) dX12_weighedCrate_13 dX12_weighedCrate_16 dX12_weighedCrate_17 dX12_weighedCrate_20 dX12_weighedCrate_23 ?_
  exact hq
set_option maxHeartbeats 1000000 in
set_option maxRecDepth 4000 in
theorem s_wS {d : Nat} {S : KS} {p : Nat} {x : Int32} {i : Nat} {M : Mem} {Q : Out → Mem → Prop} (h : CSt M S p) (hx : kC (kY S) x = some i) (h0 : ¬ yC (kY S) i 8 = 0) (hq : Q (.inl (some (.ref (rf 1 (16 * 0 + i))))) M) : WPc (d + 2) mX12_weighedCrate [.ref (rf 10 0), .int x] M Q := by
  refine WPc.of (by decide +kernel) (Nat.le_of_ble_eq_true rfl) rfl ?_
  obtain ⟨ex, hi, hc⟩ := kC_s hx
  refine R.aload_n dX12_weighedCrate_0 rfl (by first | rfl | exact rfv_rf _) ?_
  refine R.iload_n dX12_weighedCrate_1 rfl ?_
  refine cl_X12_119 rfl rfl (by first | exact Nat.le_of_ble_eq_true rfl | simp [rf_cat, Value.category]) dX12_weighedCrate_2 ?_
  refine s_kS h hx ?_
  refine R.astore_n dX12_weighedCrate_5 (by first | rfl | exact rfv_rf _) (Nat.le_of_ble_eq_true rfl) (by decide) (by first | rfl | simp [lft, rf_cat]) rfl ?_
  refine R.aload_n dX12_weighedCrate_6 rfl (by first | rfl | exact rfv_rf _) ?_
  refine R.getI dX12_weighedCrate_7 fl_X12_166 (by decide) rfl ?_
  rw [h.y.rC hi]
  refine R.if_ne (tgt := 24) dX12_weighedCrate_10 (by decide) (fun _ => ?_) (fun c => absurd c h0)
  refine R.aload_n dX12_weighedCrate_24 rfl (by first | rfl | exact rfv_rf _) ?_
  first | refine WP.ret (ov := some (.ref _)) dX12_weighedCrate_25 ⟨rfl, _, rfl, Or.inl ⟨_, rfl⟩⟩ ?_ | refine WP.ret (ov := some .null) dX12_weighedCrate_25 ⟨rfl, _, rfl, Or.inl ⟨_, rfl⟩⟩ ?_
  exact hq
set_option maxHeartbeats 1000000 in
set_option maxRecDepth 4000 in
theorem s_rN {d : Nat} {x lo hi : Int32} {M : Mem} {Q : Out → Mem → Prop} (hx : ¬ (lo ≤ x ∧ x ≤ hi)) (hq : Q (.inr eA) (ax M)) : WPc (d + 6) mX12_requireRange [.int x, .int lo, .int hi] M Q := by
  refine WPc.of (by decide +kernel) (Nat.le_of_ble_eq_true rfl) rfl ?_
  refine R.iload_n dX12_requireRange_0 rfl ?_
  refine R.iload_n dX12_requireRange_1 rfl ?_
  refine R.icmp_lt (tgt := 10) dX12_requireRange_2 (by decide) (fun c2 => ?_) (fun c2 => ?_)
  · have n2 := i_nle c2
    refine R.throwW th_388 rfl (by omega) (by first | exact Nat.le_of_ble_eq_true rfl | simp [rf_cat, Value.category]) dX12_requireRange_10 dX12_requireRange_13 dX12_requireRange_14 dX12_requireRange_17 dX12_requireRange_20 ?_
    exact hq
  · have n2 := i_nlt c2
    refine R.iload_n dX12_requireRange_5 rfl ?_
    refine R.iload_n dX12_requireRange_6 rfl ?_
    refine R.icmp_le (tgt := 21) dX12_requireRange_7 (by decide) (fun c7 => ?_) (fun c7 => ?_)
    · have n7 := i_nl2 c7
      exact absurd ⟨n2, c7⟩ hx
    · have n7 := i_lt c7
      refine R.throwW th_388 rfl (by omega) (by first | exact Nat.le_of_ble_eq_true rfl | simp [rf_cat, Value.category]) dX12_requireRange_10 dX12_requireRange_13 dX12_requireRange_14 dX12_requireRange_17 dX12_requireRange_20 ?_
      exact hq
set_option maxHeartbeats 1000000 in
set_option maxRecDepth 4000 in
theorem s_rS {d : Nat} {x lo hi : Int32} {M : Mem} {Q : Out → Mem → Prop} (hx : lo ≤ x ∧ x ≤ hi) (hq : Q (.inl none) M) : WPc d mX12_requireRange [.int x, .int lo, .int hi] M Q := by
  refine WPc.of (by decide +kernel) (Nat.le_of_ble_eq_true rfl) rfl ?_
  refine R.iload_n dX12_requireRange_0 rfl ?_
  refine R.iload_n dX12_requireRange_1 rfl ?_
  refine R.icmp_lt (tgt := 10) dX12_requireRange_2 (by decide) (fun c2 => ?_) (fun c2 => ?_)
  · have n2 := i_nle c2
    exact absurd hx.1 n2
  · have n2 := i_nlt c2
    refine R.iload_n dX12_requireRange_5 rfl ?_
    refine R.iload_n dX12_requireRange_6 rfl ?_
    refine R.icmp_le (tgt := 21) dX12_requireRange_7 (by decide) (fun c7 => ?_) (fun c7 => ?_)
    · have n7 := i_nl2 c7
      refine WP.ret (ov := none) dX12_requireRange_21 ⟨rfl, rfl⟩ ?_
      exact hq
    · have n7 := i_lt c7
      exact absurd hx.2 c7
set_option maxHeartbeats 1000000 in
set_option maxRecDepth 4000 in
theorem s_qN {d : Nat} {M : Mem} {Q : Out → Mem → Prop} (hq : Q (.inr eS) (ax M)) : WPc (d + 6) mX12_requireState [.int 0] M Q := by
  refine WPc.of (by decide +kernel) (Nat.le_of_ble_eq_true rfl) rfl ?_
  refine R.iload_n dX12_requireState_0 rfl ?_
  refine R.if_ne (tgt := 15) dX12_requireState_1 (by decide) (fun c => absurd rfl c) (fun _ => ?_)
  refine R.throwW th_391 rfl (by omega) (by first | exact Nat.le_of_ble_eq_true rfl | simp [rf_cat, Value.category]) dX12_requireState_4 dX12_requireState_7 dX12_requireState_8 dX12_requireState_11 dX12_requireState_14 ?_
  exact hq
set_option maxHeartbeats 1000000 in
set_option maxRecDepth 4000 in
theorem s_qS {d : Nat} {x : Int32} {M : Mem} {Q : Out → Mem → Prop} (hx : ¬ x = 0) (hq : Q (.inl none) M) : WPc d mX12_requireState [.int x] M Q := by
  refine WPc.of (by decide +kernel) (Nat.le_of_ble_eq_true rfl) rfl ?_
  refine R.iload_n dX12_requireState_0 rfl ?_
  refine R.if_ne (tgt := 15) dX12_requireState_1 (by decide) (fun _ => ?_) (fun c => absurd c hx)
  refine WP.ret (ov := none) dX12_requireState_15 ⟨rfl, rfl⟩ ?_
  exact hq
/-- the letter of a packed name -/
def ltF (nm x : Int32) : Int32 := if x < 0 ∨ 6 ≤ x then -1 else if (nm >>> ((5 * x) &&& 31)) &&& 31 = 0 then -1 else 97 + ((nm >>> ((5 * x) &&& 31)) &&& 31) - 1
theorem i_nlt2 {a b : Int32} (h : b ≤ a) : ¬ a < b := i_nl2 h