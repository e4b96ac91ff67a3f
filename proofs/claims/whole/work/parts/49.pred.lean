/-! predictions, means as doubles and floats, states saved, crates written -/
def NF : Prop := (∀ (a : Int64) (b : Int32), ¬ b = 0 → vf_n64 (FP.ddiv (FP.l2d a) (FP.i2d b))) ∧ (∀ (a b : Int32), ¬ b = 0 → vf_n64 (FP.ddiv (FP.i2d a) (FP.i2d b))) ∧ ∀ (a b : Int32), ¬ b = 0 → vf_n32 (FP.fdiv (FP.i2f a) (FP.i2f b))
/-- the crate and the scale of a prediction -/
def TV (M : Mem) (Y : Yd) (i : Nat) : Prop := (∀ f, f = 4 ∨ f = 8 ∨ f = 11 ∨ f = 12 → mI M 1 176 f = yC Y i f) ∧ (∀ f, f = 9 ∨ f = 10 → mL M 1 176 f = yL Y i f) ∧ ∀ f, f < 4 → mI M 3 11 f = yS Y f
def inTr (k i : Nat) : Prop := (k = 1 ∧ i = 176) ∨ (k = 3 ∧ i = 11)
theorem TV.c {M : Mem} {Y : Yd} {i f : Nat} {v : Int32} (h : TV M Y i) : TV (sI M 1 176 f v) (uC Y i f v) i := by
  refine ⟨fun g hg => ?_, h.2.1, fun g hg => ?_⟩
  · rw [mI_sI, yC_uC]
    by_cases z : g = f
    · rw [if_pos ⟨rfl, rfl, z⟩, if_pos ⟨rfl, z⟩]
    · rw [if_neg (fun w => z w.2.2), if_neg (fun w => z w.2)]; exact h.1 g hg
  · rw [mI_sI, if_neg (by omega)]; exact h.2.2 g hg
theorem TV.l {M : Mem} {Y : Yd} {i f : Nat} {v : Int64} (h : TV M Y i) : TV (sL M 1 176 f v) (uL Y i f v) i := by
  refine ⟨h.1, fun g hg => ?_, h.2.2⟩
  rw [mL_sL, yL_uL]
  by_cases z : g = f
  · rw [if_pos ⟨rfl, rfl, z⟩, if_pos ⟨rfl, z⟩]
  · rw [if_neg (fun w => z w.2.2), if_neg (fun w => z w.2)]; exact h.2.1 g hg
theorem TV.s {M : Mem} {Y : Yd} {i f : Nat} {v : Int32} (h : TV M Y i) : TV (sI M 3 11 f v) (uS Y f v) i := by
  refine ⟨fun g hg => ?_, h.2.1, fun g hg => ?_⟩
  · rw [mI_sI, if_neg (by omega)]; exact h.1 g hg
  · rw [mI_sI, yS_uS]
    by_cases z : g = f
    · rw [if_pos ⟨rfl, rfl, z⟩, if_pos z]
    · rw [if_neg (fun w => z w.2.2), if_neg z]; exact h.2.2 g hg
theorem TV.fin {M : Mem} {Y : Yd} {i : Nat} {e : Int32} (h : TV M Y i) : (rdFin M 11 176 e).1 = (rdYF Y i e).1 ∧ TV (rdFin M 11 176 e).2 (rdYF Y i e).2 i := by
  have e4 := h.1 4 (by omega)
  have e8 := h.1 8 (by omega)
  have e9 := h.2.1 9 (by omega)
  have e10 := h.2.1 10 (by omega)
  have s2 := h.2.2 2 (by omega)
  have s3 := h.2.2 3 (by omega)
  have e0 : (rdFin M 11 176 e).1 = (rdYF Y i e).1 := by simp only [rdFin, rdYF, e4, s2, s3]
  refine ⟨e0, ?_⟩
  simp only [rdFin, rdYF, cStore, stoY, e4, s2, s3]
  have k3 : ∀ (a b : Int64) (c d : Int32), mI (sI (sL (sL (sI M 1 176 8 c) 1 176 9 a) 1 176 10 b) 1 176 11 d) 3 11 3 = yS Y 3 := fun a b c d => by
    rw [mI_sI, if_neg (by omega), mI_sL, mI_sL, mI_sI, if_neg (by omega)]; exact s3
  have k9 : ∀ c : Int32, mL (sI M 1 176 8 c) 1 176 9 = yL Y i 9 := fun c => e9
  have k10 : ∀ (a : Int64) (c : Int32), mL (sL (sI M 1 176 8 c) 1 176 9 a) 1 176 10 = yL Y i 10 := fun a c => by
    rw [mL_sL, if_neg (by omega)]; exact e10
  rw [k3, k9, k10, e8]
  exact (((h.c).l).l).c.s
theorem TV.rd {M : Mem} {Y : Yd} {i : Nat} (h : TV M Y i) : (rdM M 11 176).1 = (tkY Y i).1 ∧ TV (rdM M 11 176).2 (tkY Y i).2 i := by
  have h : TV M (uT Y 0 (yT Y 0 + 1)) i := h
  unfold tkY
  generalize uT Y 0 (yT Y 0 + 1) = Z at h ⊢
  unfold rdM rdY
  rw [h.1 8 (by omega), h.1 12 (by omega)]
  by_cases c : rem (yC Z i 8) 2 = 0
  · rw [if_pos c, if_pos c]
    unfold rdNew rdYN
    rw [h.2.2 0 (by omega), h.2.2 1 (by omega)]
    exact (h.s.c).fin
  · rw [if_neg c, if_neg c]
    exact h.fin
theorem np1 {z : Int32} (h : 1 ≤ z) : ¬ z < 0 := by
  rw [Int32.le_iff_toInt_le] at h
  rw [Int32.lt_iff_toInt_lt]
  have e1 : (1 : Int32).toInt = 1 := by decide
  have e0 : (0 : Int32).toInt = 0 := by decide
  omega
theorem Fr.trd {M : Mem} {S : Nat → Nat → Prop} {M0 : Mem} (h : Fr S M0 M) (h1 : S 1 176) (h3 : S 3 11) : Fr S M0 (rdM M 11 176).2 := by
  unfold rdM
  split
  · unfold rdNew rdFin cStore
    exact Fr.sI (Fr.sI (Fr.sL (Fr.sL (Fr.sI (Fr.sI (Fr.sI h h3) h1) h1) h1) h1) h1) h3
  · unfold rdFin cStore
    exact Fr.sI (Fr.sI (Fr.sL (Fr.sL (Fr.sI h h1) h1) h1) h1) h3
theorem Tr1 : inTr 1 176 := Or.inl ⟨rfl, rfl⟩
theorem Tr3 : inTr 3 11 := Or.inr ⟨rfl, rfl⟩
theorem nKTr : ∀ k i, inK k → ¬ inTr k i := by intro k i h z; unfold inK at h; unfold inTr at z; omega
theorem CSt.trl {M M' : Mem} {S : KS} {p : Nat} (h : CSt M S p) (hF : Fr inTr M M') : CSt M' S p :=
  h.fr hF (by unfold inTr; omega) (fun y hy k i z w => by unfold inY at z; unfold inTr at w; omega) (by unfold inTr; omega) (by unfold inTr; omega) (by unfold inTr; omega) (by unfold inTr; omega) (by unfold inTr; omega) (by unfold inTr; omega) (by unfold inTr; omega) (fun v => by unfold inTr; omega)
theorem Yv.trl {M M' : Mem} {Y : Yd} (h : Yv M 0 Y) (hF : Fr inTr M M') : Yv M' 0 Y := h.fr hF fun k i z w => by unfold inY at z; unfold inTr at w; omega
theorem TV.start {M : Mem} {Y : Yd} {i : Nat} (h : Yv M 0 Y) (hi : i < 16) : TV (sCopy (cCopy M 176 (16 * 0 + i)) 11 0) Y i ∧ Fr inTr M (sCopy (cCopy M 176 (16 * 0 + i)) 11 0) := by
  have hne : ¬ 16 * 0 + i = 176 := by omega
  have hF1 : Fr inTr M (cCopy M 176 (16 * 0 + i)) := by
    unfold cCopy
    exact Fr.sI (Fr.sI (Fr.sL (Fr.sL (Fr.sI (Fr.sI (Fr.sI (Fr.sI (Fr.sI (Fr.sI (Fr.sI (Fr.rf _ _) Tr1) Tr1) Tr1) Tr1) Tr1) Tr1) Tr1) Tr1) Tr1) Tr1) Tr1
  have hF : Fr inTr M (sCopy (cCopy M 176 (16 * 0 + i)) 11 0) := by
    unfold sCopy
    exact Fr.sI (Fr.sI (Fr.sI (Fr.sI hF1 Tr3) Tr3) Tr3) Tr3
  have e1 : ∀ f, mI M 1 i f = yC Y i f := fun f => by have := h.rC hi f; rwa [show 16 * 0 + i = i by omega] at this
  have e2 : ∀ f, mL M 1 i f = yL Y i f := fun f => by have := h.rL hi f; rwa [show 16 * 0 + i = i by omega] at this
  have hne' : ¬ i = 176 := by omega
  refine ⟨⟨fun f hf => ?_, fun f hf => ?_, fun f hf => ?_⟩, hF⟩
  · rcases hf with rfl | rfl | rfl | rfl <;> (unfold sCopy cCopy; simp [mI_sI, mI_sL, hne', e1])
  · rcases hf with rfl | rfl <;> (unfold sCopy cCopy; simp [mL_sI, mL_sL, hne', e2])
  · rcases (show f = 0 ∨ f = 1 ∨ f = 2 ∨ f = 3 by omega) with rfl | rfl | rfl | rfl <;> (unfold sCopy cCopy; simp [mI_sI, mI_sL, h.rS])
def TFr (M M' : Mem) : Prop := Fr inTr M M'
set_option maxHeartbeats 1000000 in
set_option maxRecDepth 4000 in
theorem s_tri {d : Nat} {S : KS} {p : Nat} {i : Nat} {M : Mem} {Q : Out → Mem → Prop} (h : CSt M S p) (hG : KG (kY S)) (hi : i < 16) (hq : ∀ M', TV M' (kY S) i → Fr inTr M M' → Q (.inl none) M') : WPc (d + 1) mX12_startTrial [.ref (rf 10 0), .ref (rf 1 (16 * 0 + i))] M Q := by
  refine WPc.of (by decide +kernel) (Nat.le_of_ble_eq_true rfl) rfl ?_
  refine R.aload_n dX12_startTrial_0 rfl (by first | rfl | exact rfv_rf _) ?_
  refine R.getS (h.l.2.2.2.2.2.2.2.2.1) dX12_startTrial_1 fl_X12_64 (by decide) rfl ?_
  refine R.aload_n dX12_startTrial_4 rfl (by first | rfl | exact rfv_rf _) ?_
  refine cl_X12_393 rfl rfl (by first | exact Nat.le_of_ble_eq_true rfl | simp [rf_cat, Value.category]) dX12_startTrial_5 ?_
  refine s_cCopy (by rw [h.y.rC hi]; exact hG.1 i hi) ?_
  have F1 : Fr inTr M (cCopy M 176 (16 * 0 + i)) := by
    unfold cCopy
    exact Fr.sI (Fr.sI (Fr.sL (Fr.sL (Fr.sI (Fr.sI (Fr.sI (Fr.sI (Fr.sI (Fr.sI (Fr.sI (Fr.rf _ _) Tr1) Tr1) Tr1) Tr1) Tr1) Tr1) Tr1) Tr1) Tr1) Tr1) Tr1
  refine R.aload_n dX12_startTrial_8 rfl (by first | rfl | exact rfv_rf _) ?_
  refine R.getS ((h.trl F1).l.2.2.2.2.2.2.2.2.2) dX12_startTrial_9 fl_X12_71 (by decide) rfl ?_
  refine R.aload_n dX12_startTrial_12 rfl (by first | rfl | exact rfv_rf _) ?_
  refine R.getS ((h.trl F1).l.1) dX12_startTrial_13 fl_X12_10 (by decide) rfl ?_
  refine R.getS (lay2 (Lay.fr h.y.lay (F1 : Fr inTr M (cCopy M 176 (16 * 0 + i))) (fun k j z w => by unfold inY at z; unfold inTr at w; omega))) dX12_startTrial_16 fl_X12_185 (by decide) rfl ?_
  refine cl_X12_395 rfl rfl (by first | exact Nat.le_of_ble_eq_true rfl | simp [rf_cat, Value.category]) dX12_startTrial_19 ?_
  refine s_sCopy ?_
  refine WP.ret (ov := none) dX12_startTrial_22 ⟨rfl, rfl⟩ ?_
  obtain ⟨t1, t2⟩ := TV.start h.y hi
  exact hq _ t1 t2
/-- a prediction's loops -/
def ruF (Y : Yd) (i : Nat) (z : Int32) : Nat → Nat → Int32
  | 0, _ => -1
  | f + 1, a => if fabs (yErr (tkN i (a + 1) Y) i) ≤ z then nI (a + 1) else ruF Y i z f (a + 1)
def woF (Y : Yd) (i : Nat) : Nat → Nat → Int32 → Int32
  | 0, _, x => x
  | f + 1, a, x => woF Y i f (a + 1) (fmax x (fabs (yErr (tkN i (a + 1) Y) i)))
theorem tkN_s (i : Nat) : ∀ (a : Nat) (Y : Yd), tkN i (a + 1) Y = (tkY (tkN i a Y) i).2 := by
  intro a
  induction a with
  | zero => intro Y; rfl
  | succ a ih =>
    intro Y
    rw [tkN, ih]
    rfl
theorem TV.err {M : Mem} {Y : Yd} {i : Nat} (h : TV M Y i) : cMean (mI M 1 176 8) (mL M 1 176 9) - mI M 1 176 4 = yErr Y i := by
  rw [h.1 8 (by omega), h.2.1 9 (by omega), h.1 4 (by omega)]; rfl
set_option maxHeartbeats 1000000 in
set_option maxRecDepth 4000 in
theorem c_predictReading {d : Nat} {S : KS} {p : Nat} {x : Int32} {M : Mem} {Q : Out → Mem → Prop} (h : CSt M S p) (hG : KG (kY S)) (hq : QR9 Q M (rC S x fun i => if yC (kY S) i 7 = 0 then .inl eS else .inr ((tkY (kY S) i).1, S, p))) : WPc (d + 20) mX12_predictReading [.ref (rf 10 0), .int x] M Q := by
  refine WPc.of (by decide +kernel) (Nat.le_of_ble_eq_true rfl) rfl ?_
  cases hx : kC (kY S) x with
  | none =>
    rw [rC_n hx] at hq
    refine R.aload_n dX12_predictReading_0 rfl (by first | rfl | exact rfv_rf _) ?_
    refine R.iload_n dX12_predictReading_1 rfl ?_
    refine cl_X12_119 rfl rfl (by first | exact Nat.le_of_ble_eq_true rfl | simp [rf_cat, Value.category]) dX12_predictReading_2 ?_
    refine s_kN h hx ?_
    exact hq
  | some i =>
    obtain ⟨ex, hi, hc⟩ := kC_s hx
    rw [rC_s hx] at hq
    refine R.aload_n dX12_predictReading_0 rfl (by first | rfl | exact rfv_rf _) ?_
    refine R.iload_n dX12_predictReading_1 rfl ?_
    refine cl_X12_119 rfl rfl (by first | exact Nat.le_of_ble_eq_true rfl | simp [rf_cat, Value.category]) dX12_predictReading_2 ?_
    refine s_kS h hx ?_
    refine R.astore_n dX12_predictReading_5 (by first | rfl | exact rfv_rf _) (Nat.le_of_ble_eq_true rfl) (by decide) (by first | rfl | simp [lft, rf_cat]) rfl ?_
    refine R.aload_n dX12_predictReading_6 rfl (by first | rfl | exact rfv_rf _) ?_
    refine R.getI dX12_predictReading_7 fl_X12_162 (by decide) rfl ?_
    rw [h.y.rC hi]
    by_cases zs : yC (kY S) i 7 = 0
    · rw [zs]
      refine cl_X12_206 rfl rfl (by first | exact Nat.le_of_ble_eq_true rfl | simp [rf_cat, Value.category]) dX12_predictReading_10 ?_
      refine s_qN ?_
      rw [if_pos zs] at hq
      exact hq
    refine cl_X12_206 rfl rfl (by first | exact Nat.le_of_ble_eq_true rfl | simp [rf_cat, Value.category]) dX12_predictReading_10 ?_
    refine s_qS zs ?_
    rw [if_neg zs] at hq
    refine R.aload_n dX12_predictReading_13 rfl (by first | rfl | exact rfv_rf _) ?_
    refine R.aload_n dX12_predictReading_14 rfl (by first | rfl | exact rfv_rf _) ?_
    refine cl_X12_210 rfl rfl (by first | exact Nat.le_of_ble_eq_true rfl | simp [rf_cat, Value.category]) dX12_predictReading_15 ?_
    refine s_tri h hG hi (fun M1 t1 F1 => ?_)
    have h1 := h.trl F1
    refine R.aload_n dX12_predictReading_18 rfl (by first | rfl | exact rfv_rf _) ?_
    refine R.getS (h1.l.2.2.2.2.2.2.2.2.2) dX12_predictReading_19 fl_X12_71 (by decide) rfl ?_
    refine R.aload_n dX12_predictReading_22 rfl (by first | rfl | exact rfv_rf _) ?_
    refine R.getS (h1.l.2.2.2.2.2.2.2.2.1) dX12_predictReading_23 fl_X12_64 (by decide) rfl ?_
    refine cl_X12_214 rfl rfl (by first | exact Nat.le_of_ble_eq_true rfl | simp [rf_cat, Value.category]) dX12_predictReading_26 ?_
    refine s_sRead ?_
    obtain ⟨e26, t26⟩ := t1.rd
    rw [e26]
    refine WP.ret (ov := some (.int _)) dX12_predictReading_29 ⟨rfl, _, rfl, by first | rfl | assumption | exact nar_b01 (by assumption)⟩ ?_
    have F2 := F1.trd Tr1 Tr3
    exact hq _ (h.trl F2) (FrK.of F2 nKTr)
set_option maxHeartbeats 1000000 in
set_option maxRecDepth 4000 in
theorem c_predictMean {d : Nat} {S : KS} {p : Nat} {x z : Int32} {M : Mem} {Q : Out → Mem → Prop} (h : CSt M S p) (hG : KG (kY S)) (hq : QR9 Q M (rC S x fun i => if 1 ≤ z ∧ z ≤ 100 then (if yC (kY S) i 7 = 0 then .inl eS else .inr (yMean (tkN i z.toNatClampNeg (kY S)) i, S, p)) else .inl eA)) : WPc (d + 20) mX12_predictMean [.ref (rf 10 0), .int x, .int z] M Q := by
  refine WPc.of (by decide +kernel) (Nat.le_of_ble_eq_true rfl) rfl ?_
  cases hx : kC (kY S) x with
  | none =>
    rw [rC_n hx] at hq
    refine R.aload_n dX12_predictMean_0 rfl (by first | rfl | exact rfv_rf _) ?_
    refine R.iload_n dX12_predictMean_1 rfl ?_
    refine cl_X12_119 rfl rfl (by first | exact Nat.le_of_ble_eq_true rfl | simp [rf_cat, Value.category]) dX12_predictMean_2 ?_
    refine s_kN h hx ?_
    exact hq
  | some i =>
    obtain ⟨ex, hi, hc⟩ := kC_s hx
    rw [rC_s hx] at hq
    refine R.aload_n dX12_predictMean_0 rfl (by first | rfl | exact rfv_rf _) ?_
    refine R.iload_n dX12_predictMean_1 rfl ?_
    refine cl_X12_119 rfl rfl (by first | exact Nat.le_of_ble_eq_true rfl | simp [rf_cat, Value.category]) dX12_predictMean_2 ?_
    refine s_kS h hx ?_
    refine R.astore_n dX12_predictMean_5 (by first | rfl | exact rfv_rf _) (Nat.le_of_ble_eq_true rfl) (by decide) (by first | rfl | simp [lft, rf_cat]) rfl ?_
    refine R.iload_n dX12_predictMean_6 rfl ?_
    refine R.iconst (v := 1) dX12_predictMean_7 rfl ?_
    refine R.bipush (v := 100) dX12_predictMean_8 (by decide) ?_
    by_cases zr : 1 ≤ z ∧ z ≤ 100
    rotate_left
    · skip
      refine cl_X12_218 rfl rfl (by first | exact Nat.le_of_ble_eq_true rfl | simp [rf_cat, Value.category]) dX12_predictMean_10 ?_
      refine s_rN zr ?_
      rw [if_neg zr] at hq
      exact hq
    refine cl_X12_218 rfl rfl (by first | exact Nat.le_of_ble_eq_true rfl | simp [rf_cat, Value.category]) dX12_predictMean_10 ?_
    refine s_rS zr ?_
    rw [if_pos zr] at hq
    refine R.aload_n dX12_predictMean_13 rfl (by first | rfl | exact rfv_rf _) ?_
    refine R.getI dX12_predictMean_14 fl_X12_162 (by decide) rfl ?_
    rw [h.y.rC hi]
    by_cases zs : yC (kY S) i 7 = 0
    · rw [zs]
      refine cl_X12_206 rfl rfl (by first | exact Nat.le_of_ble_eq_true rfl | simp [rf_cat, Value.category]) dX12_predictMean_17 ?_
      refine s_qN ?_
      rw [if_pos zs] at hq
      exact hq
    refine cl_X12_206 rfl rfl (by first | exact Nat.le_of_ble_eq_true rfl | simp [rf_cat, Value.category]) dX12_predictMean_17 ?_
    refine s_qS zs ?_
    rw [if_neg zs] at hq
    obtain ⟨r9, hr9, rfl⟩ := nI_of (x := z) (np1 zr.1)
    rw [nI_clamp hr9] at hq
    have hr100 : r9 ≤ 100 := (nI_leI (b := 100) hr9 (by decide)).mp zr.2
    subst ex
    have key : ∀ (f a : Nat) (M1 : Mem), a + f = r9 → CSt M1 S p → TV M1 (tkN i a (kY S)) i → Fr inTr M M1 → (∀ M9, Fr inTr M M9 → Q (.inl (some (.int (yMean (tkN i r9 (kY S)) i)))) M9) → WP mX12_predictMean (d + 20) 28 [.ref (rf 10 0), .int (nI i), .int (nI r9), .ref (rf 1 (16 * 0 + i)), .int (nI a)] [] M1 Q := by
      intro f
      induction f with
      | zero =>
        intro a M1 ha h1 t1 F1 kq
        have ea : a = r9 := by omega
        subst ea
        refine R.iload dX12_predictMean_28 rfl ?_
        refine R.iload_n dX12_predictMean_30 rfl ?_
        refine R.geT (tgt := 52) (Int32.le_refl _) dX12_predictMean_31 (by decide) ?_
        refine R.aload_n dX12_predictMean_52 rfl (by first | rfl | exact rfv_rf _) ?_
        refine R.getS (h1.l.2.2.2.2.2.2.2.2.1) dX12_predictMean_53 fl_X12_64 (by decide) rfl ?_
        refine cl_X12_175 rfl rfl (by first | exact Nat.le_of_ble_eq_true rfl | simp [rf_cat, Value.category]) dX12_predictMean_56 ?_
        refine s_cMean ?_
        rw [t1.1 8 (by omega), t1.2.1 9 (by omega)]
        refine WP.ret (ov := some (.int _)) dX12_predictMean_59 ⟨rfl, _, rfl, by first | rfl | assumption | exact nar_b01 (by assumption)⟩ ?_
        exact kq M1 F1
      | succ f ih =>
        intro a M1 ha h1 t1 F1 kq
        refine R.iload dX12_predictMean_28 rfl ?_
        refine R.iload_n dX12_predictMean_30 rfl ?_
        refine R.geF (tgt := 52) (nI_ge (show a < r9 by omega) (by omega)) dX12_predictMean_31 (by decide) ?_
        refine R.aload_n dX12_predictMean_34 rfl (by first | rfl | exact rfv_rf _) ?_
        refine R.getS (h1.l.2.2.2.2.2.2.2.2.2) dX12_predictMean_35 fl_X12_71 (by decide) rfl ?_
        refine R.aload_n dX12_predictMean_38 rfl (by first | rfl | exact rfv_rf _) ?_
        refine R.getS (h1.l.2.2.2.2.2.2.2.2.1) dX12_predictMean_39 fl_X12_64 (by decide) rfl ?_
        refine cl_X12_214 rfl rfl (by first | exact Nat.le_of_ble_eq_true rfl | simp [rf_cat, Value.category]) dX12_predictMean_42 ?_
        refine s_sRead ?_
        obtain ⟨e42, t42⟩ := t1.rd
        rw [e42]
        refine R.pop dX12_predictMean_45 (by first | rfl | exact rf_cat _) ?_
        refine R.iinc dX12_predictMean_46 (Nat.le_of_ble_eq_true rfl) (by decide) (by first | rfl | simp [lft, rf_cat]) rfl (inc_nI _) rfl ?_
        refine R.goto (tgt := 28) dX12_predictMean_49 (by decide) ?_
        rw [← tkN_s] at t42
        have F2 := F1.trd Tr1 Tr3
        exact ih (a + 1) _ (by omega) (h.trl F2) t42 F2 kq
    refine R.aload_n dX12_predictMean_20 rfl (by first | rfl | exact rfv_rf _) ?_
    refine R.aload_n dX12_predictMean_21 rfl (by first | rfl | exact rfv_rf _) ?_
    refine cl_X12_210 rfl rfl (by first | exact Nat.le_of_ble_eq_true rfl | simp [rf_cat, Value.category]) dX12_predictMean_22 ?_
    refine s_tri h hG hi (fun M1 t1 F1 => ?_)
    have h1 := h.trl F1
    refine R.iconst (v := 0) dX12_predictMean_25 rfl ?_
    refine R.istore dX12_predictMean_26 (Nat.le_of_ble_eq_true rfl) (by decide) (by first | rfl | simp [lft, rf_cat]) rfl ?_
    exact key r9 0 M1 (by omega) h1 t1 F1 (fun M9 F9 => hq _ (h.trl F9) (FrK.of F9 nKTr))
set_option maxHeartbeats 1000000 in
set_option maxRecDepth 4000 in
theorem c_worstErrorWithin {d : Nat} {S : KS} {p : Nat} {x z : Int32} {M : Mem} {Q : Out → Mem → Prop} (h : CSt M S p) (hG : KG (kY S)) (hq : QR9 Q M (rC S x fun i => if 1 ≤ z ∧ z ≤ 100 then (if yC (kY S) i 7 = 0 then .inl eS else .inr (woF (kY S) i z.toNatClampNeg 0 0, S, p)) else .inl eA)) : WPc (d + 20) mX12_worstErrorWithin [.ref (rf 10 0), .int x, .int z] M Q := by
  refine WPc.of (by decide +kernel) (Nat.le_of_ble_eq_true rfl) rfl ?_
  cases hx : kC (kY S) x with
  | none =>
    rw [rC_n hx] at hq
    refine R.aload_n dX12_worstErrorWithin_0 rfl (by first | rfl | exact rfv_rf _) ?_
    refine R.iload_n dX12_worstErrorWithin_1 rfl ?_
    refine cl_X12_119 rfl rfl (by first | exact Nat.le_of_ble_eq_true rfl | simp [rf_cat, Value.category]) dX12_worstErrorWithin_2 ?_
    refine s_kN h hx ?_
    exact hq
  | some i =>
    obtain ⟨ex, hi, hc⟩ := kC_s hx
    rw [rC_s hx] at hq
    refine R.aload_n dX12_worstErrorWithin_0 rfl (by first | rfl | exact rfv_rf _) ?_
    refine R.iload_n dX12_worstErrorWithin_1 rfl ?_
    refine cl_X12_119 rfl rfl (by first | exact Nat.le_of_ble_eq_true rfl | simp [rf_cat, Value.category]) dX12_worstErrorWithin_2 ?_
    refine s_kS h hx ?_
    refine R.astore_n dX12_worstErrorWithin_5 (by first | rfl | exact rfv_rf _) (Nat.le_of_ble_eq_true rfl) (by decide) (by first | rfl | simp [lft, rf_cat]) rfl ?_
    refine R.iload_n dX12_worstErrorWithin_6 rfl ?_
    refine R.iconst (v := 1) dX12_worstErrorWithin_7 rfl ?_
    refine R.bipush (v := 100) dX12_worstErrorWithin_8 (by decide) ?_
    by_cases zr : 1 ≤ z ∧ z ≤ 100
    rotate_left
    · skip
      refine cl_X12_218 rfl rfl (by first | exact Nat.le_of_ble_eq_true rfl | simp [rf_cat, Value.category]) dX12_worstErrorWithin_10 ?_
      refine s_rN zr ?_
      rw [if_neg zr] at hq
      exact hq
    refine cl_X12_218 rfl rfl (by first | exact Nat.le_of_ble_eq_true rfl | simp [rf_cat, Value.category]) dX12_worstErrorWithin_10 ?_
    refine s_rS zr ?_
    rw [if_pos zr] at hq
    refine R.aload_n dX12_worstErrorWithin_13 rfl (by first | rfl | exact rfv_rf _) ?_
    refine R.getI dX12_worstErrorWithin_14 fl_X12_162 (by decide) rfl ?_
    rw [h.y.rC hi]
    by_cases zs : yC (kY S) i 7 = 0
    · rw [zs]
      refine cl_X12_206 rfl rfl (by first | exact Nat.le_of_ble_eq_true rfl | simp [rf_cat, Value.category]) dX12_worstErrorWithin_17 ?_
      refine s_qN ?_
      rw [if_pos zs] at hq
      exact hq
    refine cl_X12_206 rfl rfl (by first | exact Nat.le_of_ble_eq_true rfl | simp [rf_cat, Value.category]) dX12_worstErrorWithin_17 ?_
    refine s_qS zs ?_
    rw [if_neg zs] at hq
    obtain ⟨r9, hr9, rfl⟩ := nI_of (x := z) (np1 zr.1)
    rw [nI_clamp hr9] at hq
    have hr100 : r9 ≤ 100 := (nI_leI (b := 100) hr9 (by decide)).mp zr.2
    subst ex
    have key : ∀ (f a : Nat) (M1 : Mem) (wo : Int32), a + f = r9 → CSt M1 S p → TV M1 (tkN i a (kY S)) i → Fr inTr M M1 → (∀ M9, Fr inTr M M9 → Q (.inl (some (.int (woF (kY S) i f a wo)))) M9) → WP mX12_worstErrorWithin (d + 20) 31 [.ref (rf 10 0), .int (nI i), .int (nI r9), .ref (rf 1 (16 * 0 + i)), .int wo, .int (nI a)] [] M1 Q := by
      intro f
      induction f with
      | zero =>
        intro a M1 wo ha h1 t1 F1 kq
        have ea : a = r9 := by omega
        subst ea
        refine R.iload dX12_worstErrorWithin_31 rfl ?_
        refine R.iload_n dX12_worstErrorWithin_33 rfl ?_
        refine R.geT (tgt := 69) (Int32.le_refl _) dX12_worstErrorWithin_34 (by decide) ?_
        refine R.iload dX12_worstErrorWithin_69 rfl ?_
        refine WP.ret (ov := some (.int _)) dX12_worstErrorWithin_71 ⟨rfl, _, rfl, by first | rfl | assumption | exact nar_b01 (by assumption)⟩ ?_
        exact kq M1 F1
      | succ f ih =>
        intro a M1 wo ha h1 t1 F1 kq
        refine R.iload dX12_worstErrorWithin_31 rfl ?_
        refine R.iload_n dX12_worstErrorWithin_33 rfl ?_
        refine R.geF (tgt := 69) (nI_ge (show a < r9 by omega) (by omega)) dX12_worstErrorWithin_34 (by decide) ?_
        refine R.aload_n dX12_worstErrorWithin_37 rfl (by first | rfl | exact rfv_rf _) ?_
        refine R.getS (h1.l.2.2.2.2.2.2.2.2.2) dX12_worstErrorWithin_38 fl_X12_71 (by decide) rfl ?_
        refine R.aload_n dX12_worstErrorWithin_41 rfl (by first | rfl | exact rfv_rf _) ?_
        refine R.getS (h1.l.2.2.2.2.2.2.2.2.1) dX12_worstErrorWithin_42 fl_X12_64 (by decide) rfl ?_
        refine cl_X12_214 rfl rfl (by first | exact Nat.le_of_ble_eq_true rfl | simp [rf_cat, Value.category]) dX12_worstErrorWithin_45 ?_
        refine s_sRead ?_
        obtain ⟨e45, t45⟩ := t1.rd
        rw [e45, ← tkN_s] at *
        have F2 := F1.trd Tr1 Tr3
        have h2 := h.trl F2
        refine R.pop dX12_worstErrorWithin_48 (by first | rfl | exact rf_cat _) ?_
        refine R.iload dX12_worstErrorWithin_49 rfl ?_
        refine R.aload_n dX12_worstErrorWithin_51 rfl (by first | rfl | exact rfv_rf _) ?_
        refine R.getS (h2.l.2.2.2.2.2.2.2.2.1) dX12_worstErrorWithin_52 fl_X12_64 (by decide) rfl ?_
        refine cl_X12_222 rfl rfl (by first | exact Nat.le_of_ble_eq_true rfl | simp [rf_cat, Value.category]) dX12_worstErrorWithin_55 ?_
        refine s_cDev ?_
        rw [t45.err]
        refine cl_X12_225 rfl rfl (by first | exact Nat.le_of_ble_eq_true rfl | simp [rf_cat, Value.category]) dX12_worstErrorWithin_58 ?_
        refine s_max ?_
        refine R.istore dX12_worstErrorWithin_61 (Nat.le_of_ble_eq_true rfl) (by decide) (by first | rfl | simp [lft, rf_cat]) rfl ?_
        refine R.iinc dX12_worstErrorWithin_63 (Nat.le_of_ble_eq_true rfl) (by decide) (by first | rfl | simp [lft, rf_cat]) rfl (inc_nI _) rfl ?_
        refine R.goto (tgt := 31) dX12_worstErrorWithin_66 (by decide) ?_
        exact ih (a + 1) _ _ (by omega) h2 t45 F2 kq
    refine R.aload_n dX12_worstErrorWithin_20 rfl (by first | rfl | exact rfv_rf _) ?_
    refine R.aload_n dX12_worstErrorWithin_21 rfl (by first | rfl | exact rfv_rf _) ?_
    refine cl_X12_210 rfl rfl (by first | exact Nat.le_of_ble_eq_true rfl | simp [rf_cat, Value.category]) dX12_worstErrorWithin_22 ?_
    refine s_tri h hG hi (fun M1 t1 F1 => ?_)
    have h1 := h.trl F1
    refine R.iconst (v := 0) dX12_worstErrorWithin_25 rfl ?_
    refine R.istore dX12_worstErrorWithin_26 (Nat.le_of_ble_eq_true rfl) (by decide) (by first | rfl | simp [lft, rf_cat]) rfl ?_
    refine R.iconst (v := 0) dX12_worstErrorWithin_28 rfl ?_
    refine R.istore dX12_worstErrorWithin_29 (Nat.le_of_ble_eq_true rfl) (by decide) (by first | rfl | simp [lft, rf_cat]) rfl ?_
    exact key r9 0 M1 0 (by omega) h1 t1 F1 (fun M9 F9 => hq _ (h.trl F9) (FrK.of F9 nKTr))
set_option maxHeartbeats 1000000 in
set_option maxRecDepth 4000 in
theorem c_readingsUntilWithin {d : Nat} {S : KS} {p : Nat} {x z : Int32} {M : Mem} {Q : Out → Mem → Prop} (h : CSt M S p) (hG : KG (kY S)) (hq : QR9 Q M (rC S x fun i => if 0 ≤ z ∧ z ≤ 50 then (if yC (kY S) i 7 = 0 then .inl eS else if 0 < yC (kY S) i 8 ∧ fabs (yErr (kY S) i) ≤ z then .inr (0, S, p) else .inr (ruF (kY S) i z 100 0, S, p)) else .inl eA)) : WPc (d + 20) mX12_readingsUntilWithin [.ref (rf 10 0), .int x, .int z] M Q := by
  refine WPc.of (by decide +kernel) (Nat.le_of_ble_eq_true rfl) rfl ?_
  cases hx : kC (kY S) x with
  | none =>
    rw [rC_n hx] at hq
    refine R.aload_n dX12_readingsUntilWithin_0 rfl (by first | rfl | exact rfv_rf _) ?_
    refine R.iload_n dX12_readingsUntilWithin_1 rfl ?_
    refine cl_X12_119 rfl rfl (by first | exact Nat.le_of_ble_eq_true rfl | simp [rf_cat, Value.category]) dX12_readingsUntilWithin_2 ?_
    refine s_kN h hx ?_
    exact hq
  | some i =>
    obtain ⟨ex, hi, hc⟩ := kC_s hx
    rw [rC_s hx] at hq
    refine R.aload_n dX12_readingsUntilWithin_0 rfl (by first | rfl | exact rfv_rf _) ?_
    refine R.iload_n dX12_readingsUntilWithin_1 rfl ?_
    refine cl_X12_119 rfl rfl (by first | exact Nat.le_of_ble_eq_true rfl | simp [rf_cat, Value.category]) dX12_readingsUntilWithin_2 ?_
    refine s_kS h hx ?_
    refine R.astore_n dX12_readingsUntilWithin_5 (by first | rfl | exact rfv_rf _) (Nat.le_of_ble_eq_true rfl) (by decide) (by first | rfl | simp [lft, rf_cat]) rfl ?_
    refine R.iload_n dX12_readingsUntilWithin_6 rfl ?_
    refine R.iconst (v := 0) dX12_readingsUntilWithin_7 rfl ?_
    refine R.bipush (v := 50) dX12_readingsUntilWithin_8 (by decide) ?_
    by_cases zr : 0 ≤ z ∧ z ≤ 50
    rotate_left
    · skip
      refine cl_X12_218 rfl rfl (by first | exact Nat.le_of_ble_eq_true rfl | simp [rf_cat, Value.category]) dX12_readingsUntilWithin_10 ?_
      refine s_rN zr ?_
      rw [if_neg zr] at hq
      exact hq
    refine cl_X12_218 rfl rfl (by first | exact Nat.le_of_ble_eq_true rfl | simp [rf_cat, Value.category]) dX12_readingsUntilWithin_10 ?_
    refine s_rS zr ?_
    rw [if_pos zr] at hq
    refine R.aload_n dX12_readingsUntilWithin_13 rfl (by first | rfl | exact rfv_rf _) ?_
    refine R.getI dX12_readingsUntilWithin_14 fl_X12_162 (by decide) rfl ?_
    rw [h.y.rC hi]
    by_cases zs : yC (kY S) i 7 = 0
    · rw [zs]
      refine cl_X12_206 rfl rfl (by first | exact Nat.le_of_ble_eq_true rfl | simp [rf_cat, Value.category]) dX12_readingsUntilWithin_17 ?_
      refine s_qN ?_
      rw [if_pos zs] at hq
      exact hq
    refine cl_X12_206 rfl rfl (by first | exact Nat.le_of_ble_eq_true rfl | simp [rf_cat, Value.category]) dX12_readingsUntilWithin_17 ?_
    refine s_qS zs ?_
    rw [if_neg zs] at hq
    have key : ∀ (f a : Nat) (M1 : Mem), a + f = 100 → CSt M1 S p → TV M1 (tkN i a (kY S)) i → Fr inTr M M1 → (∀ M9, Fr inTr M M9 → Q (.inl (some (.int (ruF (kY S) i z f a)))) M9) → WP mX12_readingsUntilWithin (d + 20) 45 [.ref (rf 10 0), .int x, .int z, .ref (rf 1 (16 * 0 + i)), .int (nI (a + 1))] [] M1 Q := by
      intro f
      induction f with
      | zero =>
        intro a M1 ha h1 t1 F1 kq
        have ea : a = 100 := by omega
        subst ea
        refine R.iload dX12_readingsUntilWithin_45 rfl ?_
        refine R.bipush (v := nI 100) dX12_readingsUntilWithin_47 (by decide) ?_
        refine R.icmp_gt (tgt := 84) dX12_readingsUntilWithin_49 (by decide) (fun _ => ?_) (fun c => absurd (nI_lt (by omega) (by omega)) c)
        refine R.iconst (v := (-1)) dX12_readingsUntilWithin_84 rfl ?_
        refine WP.ret (ov := some (.int _)) dX12_readingsUntilWithin_85 ⟨rfl, _, rfl, by first | rfl | assumption | exact nar_b01 (by assumption)⟩ ?_
        exact kq M1 F1
      | succ f ih =>
        intro a M1 ha h1 t1 F1 kq
        refine R.iload dX12_readingsUntilWithin_45 rfl ?_
        refine R.bipush (v := nI 100) dX12_readingsUntilWithin_47 (by decide) ?_
        refine R.icmp_gt (tgt := 84) dX12_readingsUntilWithin_49 (by decide) (fun c => absurd c (nI_nlt (by omega) (by omega))) (fun _ => ?_)
        refine R.aload_n dX12_readingsUntilWithin_52 rfl (by first | rfl | exact rfv_rf _) ?_
        refine R.getS (h1.l.2.2.2.2.2.2.2.2.2) dX12_readingsUntilWithin_53 fl_X12_71 (by decide) rfl ?_
        refine R.aload_n dX12_readingsUntilWithin_56 rfl (by first | rfl | exact rfv_rf _) ?_
        refine R.getS (h1.l.2.2.2.2.2.2.2.2.1) dX12_readingsUntilWithin_57 fl_X12_64 (by decide) rfl ?_
        refine cl_X12_214 rfl rfl (by first | exact Nat.le_of_ble_eq_true rfl | simp [rf_cat, Value.category]) dX12_readingsUntilWithin_60 ?_
        refine s_sRead ?_
        obtain ⟨e60, t60⟩ := t1.rd
        rw [e60, ← tkN_s] at *
        have F2 := F1.trd Tr1 Tr3
        have h2 := h.trl F2
        refine R.pop dX12_readingsUntilWithin_63 (by first | rfl | exact rf_cat _) ?_
        refine R.aload_n dX12_readingsUntilWithin_64 rfl (by first | rfl | exact rfv_rf _) ?_
        refine R.getS (h2.l.2.2.2.2.2.2.2.2.1) dX12_readingsUntilWithin_65 fl_X12_64 (by decide) rfl ?_
        refine cl_X12_222 rfl rfl (by first | exact Nat.le_of_ble_eq_true rfl | simp [rf_cat, Value.category]) dX12_readingsUntilWithin_68 ?_
        refine s_cDev ?_
        rw [t60.err]
        refine R.iload_n dX12_readingsUntilWithin_71 rfl ?_
        refine R.icmp_gt (tgt := 78) dX12_readingsUntilWithin_72 (by decide) (fun c72 => ?_) (fun c72 => ?_)
        · have n72 := i_nle c72
          refine R.iinc dX12_readingsUntilWithin_78 (Nat.le_of_ble_eq_true rfl) (by decide) (by first | rfl | simp [lft, rf_cat]) rfl (inc_nI _) rfl ?_
          refine R.goto (tgt := 45) dX12_readingsUntilWithin_81 (by decide) ?_
          rw [ruF, if_neg (i_nle c72)] at kq
          exact ih (a + 1) _ (by omega) h2 t60 F2 kq
        · have n72 := i_nlt c72
          refine R.iload dX12_readingsUntilWithin_75 rfl ?_
          refine WP.ret (ov := some (.int _)) dX12_readingsUntilWithin_77 ⟨rfl, _, rfl, by first | rfl | assumption | exact nar_b01 (by assumption)⟩ ?_
          rw [ruF, if_pos (i_nlt c72)] at kq
          exact kq _ F2
    refine R.aload_n dX12_readingsUntilWithin_20 rfl (by first | rfl | exact rfv_rf _) ?_
    refine R.aload_n dX12_readingsUntilWithin_21 rfl (by first | rfl | exact rfv_rf _) ?_
    refine cl_X12_210 rfl rfl (by first | exact Nat.le_of_ble_eq_true rfl | simp [rf_cat, Value.category]) dX12_readingsUntilWithin_22 ?_
    refine s_tri h hG hi (fun M1 t1 F1 => ?_)
    have h1 := h.trl F1
    refine R.aload_n dX12_readingsUntilWithin_25 rfl (by first | rfl | exact rfv_rf _) ?_
    refine R.getI dX12_readingsUntilWithin_26 fl_X12_166 (by decide) rfl ?_
    rw [h1.y.rC hi]
    refine R.if_le (tgt := 42) dX12_readingsUntilWithin_29 (by decide) (fun c29 => ?_) (fun c29 => ?_)
    · have n29 := i_nl2 c29
      refine R.iconst (v := nI 1) dX12_readingsUntilWithin_42 rfl ?_
      refine R.istore dX12_readingsUntilWithin_43 (Nat.le_of_ble_eq_true rfl) (by decide) (by first | rfl | simp [lft, rf_cat]) rfl ?_
      rw [if_neg (fun w => absurd w.1 (i_nl2 c29))] at hq
      exact key 100 0 M1 rfl h1 t1 F1 (fun M9 F9 => hq _ (h.trl F9) (FrK.of F9 nKTr))
    · have n29 := i_lt c29
      refine R.aload_n dX12_readingsUntilWithin_32 rfl (by first | rfl | exact rfv_rf _) ?_
      refine cl_X12_222 rfl rfl (by first | exact Nat.le_of_ble_eq_true rfl | simp [rf_cat, Value.category]) dX12_readingsUntilWithin_33 ?_
      refine s_cDev ?_
      rw [show cMean (mI M1 1 (16 * 0 + i) 8) (mL M1 1 (16 * 0 + i) 9) - mI M1 1 (16 * 0 + i) 4 = yErr (kY S) i by rw [h1.y.rC hi, h1.y.rL hi, h1.y.rC hi]; rfl]
      refine R.iload_n dX12_readingsUntilWithin_36 rfl ?_
      refine R.icmp_gt (tgt := 42) dX12_readingsUntilWithin_37 (by decide) (fun c37 => ?_) (fun c37 => ?_)
      · have n37 := i_nle c37
        refine R.iconst (v := nI 1) dX12_readingsUntilWithin_42 rfl ?_
        refine R.istore dX12_readingsUntilWithin_43 (Nat.le_of_ble_eq_true rfl) (by decide) (by first | rfl | simp [lft, rf_cat]) rfl ?_
        rw [if_neg (fun w => absurd w.2 (i_nle c37))] at hq
        exact key 100 0 M1 rfl h1 t1 F1 (fun M9 F9 => hq _ (h.trl F9) (FrK.of F9 nKTr))
      · have n37 := i_nlt c37
        refine R.iconst (v := 0) dX12_readingsUntilWithin_40 rfl ?_
        refine WP.ret (ov := some (.int _)) dX12_readingsUntilWithin_41 ⟨rfl, _, rfl, by first | rfl | assumption | exact nar_b01 (by assumption)⟩ ?_
        rw [if_pos ⟨i_lt c29, i_nlt c37⟩] at hq
        exact hq _ (h.trl F1) (FrK.of F1 nKTr)
def QD (Q : Out → Mem → Prop) (M : Mem) (a : UInt64 ⊕ String) : Prop := match a with
  | .inl v => Q (.inl (some (.double v))) M
  | .inr E => Q (.inr E) (ax M)
def aDm (S : KS) (x : Int32) : UInt64 ⊕ String := match kC (kY S) x with
  | none => .inr eI
  | some i => if yC (kY S) i 8 = 0 then .inr eN else .inl (FP.ddiv (FP.l2d (yL (kY S) i 9)) (FP.i2d (yC (kY S) i 8)))
def avT (Y : Yd) : UInt32 := if yF Y 5 = 0 then 0 else FP.fdiv (FP.i2f (trF Y 6 0 0)) (FP.i2f (yF Y 5))
set_option maxHeartbeats 1000000 in
set_option maxRecDepth 4000 in
theorem c_exactMean {d : Nat} {S : KS} {p : Nat} {x : Int32} {M : Mem} {Q : Out → Mem → Prop} (h : CSt M S p) (hNF : NF) (hq : QD Q M (aDm S x)) : WPc (d + 20) mX12_exactMean [.ref (rf 10 0), .int x] M Q := by
  refine WPc.of (by decide +kernel) (Nat.le_of_ble_eq_true rfl) rfl ?_
  unfold aDm at hq
  cases hx : kC (kY S) x with
  | none =>
    rw [hx] at hq
    refine R.aload_n dX12_exactMean_0 rfl (by first | rfl | exact rfv_rf _) ?_
    refine R.iload_n dX12_exactMean_1 rfl ?_
    refine cl_X12_169 rfl rfl (by first | exact Nat.le_of_ble_eq_true rfl | simp [rf_cat, Value.category]) dX12_exactMean_2 ?_
    refine s_wN h hx ?_
    exact hq
  | some i =>
    obtain ⟨ex, hi, hc⟩ := kC_s hx
    rw [hx] at hq
    dsimp only at hq
    by_cases h0 : yC (kY S) i 8 = 0
    · skip
      refine R.aload_n dX12_exactMean_0 rfl (by first | rfl | exact rfv_rf _) ?_
      refine R.iload_n dX12_exactMean_1 rfl ?_
      refine cl_X12_169 rfl rfl (by first | exact Nat.le_of_ble_eq_true rfl | simp [rf_cat, Value.category]) dX12_exactMean_2 ?_
      refine s_w0 h hx h0 ?_
      rw [if_pos h0] at hq
      exact hq
    · skip
      refine R.aload_n dX12_exactMean_0 rfl (by first | rfl | exact rfv_rf _) ?_
      refine R.iload_n dX12_exactMean_1 rfl ?_
      refine cl_X12_169 rfl rfl (by first | exact Nat.le_of_ble_eq_true rfl | simp [rf_cat, Value.category]) dX12_exactMean_2 ?_
      refine s_wS h hx h0 ?_
      refine R.astore_n dX12_exactMean_5 (by first | rfl | exact rfv_rf _) (Nat.le_of_ble_eq_true rfl) (by decide) (by first | rfl | simp [lft, rf_cat]) rfl ?_
      refine R.aload_n dX12_exactMean_6 rfl (by first | rfl | exact rfv_rf _) ?_
      refine R.getL dX12_exactMean_7 fl_X12_181 (by decide) rfl ?_
      rw [h.y.rL hi]
      refine R.l2d dX12_exactMean_10 ?_
      refine R.aload_n dX12_exactMean_11 rfl (by first | rfl | exact rfv_rf _) ?_
      refine R.getI dX12_exactMean_12 fl_X12_166 (by decide) rfl ?_
      rw [h.y.rC hi]
      refine R.i2d dX12_exactMean_15 ?_
      refine R.ddiv dX12_exactMean_16 (hNF.1 _ _ h0) ?_
      refine WP.ret (ov := some (.double _)) dX12_exactMean_17 ⟨rfl, rfl⟩ ?_
      rw [if_neg h0] at hq
      exact hq
set_option maxHeartbeats 1000000 in
set_option maxRecDepth 4000 in
theorem c_averageTrust {d : Nat} {S : KS} {p : Nat} {M : Mem} {Q : Out → Mem → Prop} (h : CSt M S p) (hNF : NF) (hq : Q (.inl (some (.float (avT (kY S))))) M) : WPc (d + 20) mX12_averageTrust [.ref (rf 10 0)] M Q := by
  refine WPc.of (by decide +kernel) (Nat.le_of_ble_eq_true rfl) rfl ?_
  refine R.aload_n dX12_averageTrust_0 rfl (by first | rfl | exact rfv_rf _) ?_
  refine R.getS (h.l.1) dX12_averageTrust_1 fl_X12_10 (by decide) rfl ?_
  refine R.getI dX12_averageTrust_4 fl_X12_116 (by decide) rfl ?_
  rw [h.y.rF]
  refine R.if_ne (tgt := 12) dX12_averageTrust_7 (by decide) (fun c7 => ?_) (fun c7 => ?_)
  · refine R.aload_n dX12_averageTrust_12 rfl (by first | rfl | exact rfv_rf _) ?_
    refine R.getS (h.l.1) dX12_averageTrust_13 fl_X12_10 (by decide) rfl ?_
    refine cl_X12_289 rfl rfl (by first | exact Nat.le_of_ble_eq_true rfl | simp [rf_cat, Value.category]) dX12_averageTrust_16 ?_
    refine s_yTrust h.y ?_
    refine R.i2f dX12_averageTrust_19 ?_
    refine R.aload_n dX12_averageTrust_20 rfl (by first | rfl | exact rfv_rf _) ?_
    refine R.getS (h.l.1) dX12_averageTrust_21 fl_X12_10 (by decide) rfl ?_
    refine R.getI dX12_averageTrust_24 fl_X12_116 (by decide) rfl ?_
    rw [h.y.rF]
    refine R.i2f dX12_averageTrust_27 ?_
    refine R.fdiv dX12_averageTrust_28 (hNF.2.2 _ _ c7) ?_
    refine WP.ret (ov := some (.float _)) dX12_averageTrust_29 ⟨rfl, rfl⟩ ?_
    rw [avT, if_neg c7] at hq
    exact hq
  · refine R.fconst0 dX12_averageTrust_10 ?_
    refine WP.ret (ov := some (.float _)) dX12_averageTrust_11 ⟨rfl, rfl⟩ ?_
    rw [avT, if_pos c7] at hq
    exact hq
def rSav (S : KS) (p : Nat) : Rr := .inr (stF (kY S) 16 0 0, kSv S (some (kY S)), p)
def rRes (S : KS) (p : Nat) : Rr := match kV S with
  | none => .inl eN
  | some Z => .inr (stF Z 16 0 0, kSh (kSy S Z) [], p)
def rTre (S : KS) (p : Nat) (x : Int32) : Rr := rC S x fun i => .inr (nI (wrF (kY S) 5 i).length, (kY S, kV S, kH S, kB S, kN S, kE S, kQ S, wrF (kY S) 5 i), p)
def aOut (S : KS) (x : Int32) : Int32 := if x < 0 then -1 else match (kO S)[x.toNatClampNeg]? with
  | none => -1
  | some c => c
set_option maxHeartbeats 1000000 in
set_option maxRecDepth 4000 in
theorem c_saveState {d : Nat} {S : KS} {p : Nat} {M : Mem} {Q : Out → Mem → Prop} (h : CSt M S p) (hG : KG (kY S)) (hq : QR9 Q M (rSav S p)) : WPc (d + 20) mX12_saveState [.ref (rf 10 0)] M Q := by
  refine WPc.of (by decide +kernel) (Nat.le_of_ble_eq_true rfl) rfl ?_
  obtain ⟨Z, hZ, -⟩ := h.v
  refine R.aload_n dX12_saveState_0 rfl (by first | rfl | exact rfv_rf _) ?_
  refine R.getS (h.l.2.1) dX12_saveState_1 fl_X12_16 (by decide) rfl ?_
  refine R.aload_n dX12_saveState_4 rfl (by first | rfl | exact rfv_rf _) ?_
  refine R.getS (h.l.1) dX12_saveState_5 fl_X12_10 (by decide) rfl ?_
  refine cl_X12_356 rfl rfl (by first | exact Nat.le_of_ble_eq_true rfl | simp [rf_cat, Value.category]) dX12_saveState_8 ?_
  refine s_yCopy hZ h.y (by decide) hG.g.1 hG.g.2 (fun M1 h1 F1 => ?_)
  have hy1 : Yv M1 0 (kY S) := h.y.other F1 (by omega)
  have F2 : Fr (fun k i => k = 10 ∧ i = 0) M1 (sI M1 10 0 10 1) := Fr.sI (Fr.rf _ _) ⟨rfl, rfl⟩
  have nY : ∀ y k i, inY y k i → ¬ (k = 10 ∧ i = 0) := fun y k i z z2 => by unfold inY at z; omega
  have hy2 := hy1.fr F2 (nY 0)
  refine R.aload_n dX12_saveState_11 rfl (by first | rfl | exact rfv_rf _) ?_
  refine R.iconst (v := 1) dX12_saveState_12 rfl ?_
  refine R.putI dX12_saveState_13 fl_X12_359 (fun q hq => by cases hq; exact Or.inl rfl) (by decide) rfl (by first | rfl | assumption) (by first | rfl | assumption) ?_
  refine R.aload_n dX12_saveState_16 rfl (by first | rfl | exact rfv_rf _) ?_
  refine R.getS (by show mR M1 10 0 0 = _; rw [(F1.2.2.2.2 10 0 (by unfold inY; omega)).2.2.1]; exact h.l.1) dX12_saveState_17 fl_X12_10 (by decide) rfl ?_
  refine cl_X12_362 rfl rfl (by first | exact Nat.le_of_ble_eq_true rfl | simp [rf_cat, Value.category]) dX12_saveState_20 ?_
  refine s_yStored hy2 ?_
  refine WP.ret (ov := some (.int _)) dX12_saveState_23 ⟨rfl, _, rfl, by first | rfl | assumption | exact nar_b01 (by assumption)⟩ ?_
  have F3 : Fr (fun k i => inY 1 k i ∨ (k = 10 ∧ i = 0)) M (sI M1 10 0 10 1) := (F1.mo fun k i z => Or.inl z).tr (F2.mo fun k i z => Or.inr z)
  refine hq _ ?_ (FrK.of F3 fun k i hk z => z.elim (nKY k i hk) fun z => by unfold inK at hk; omega)
  obtain ⟨b1, b2, b3, ⟨Z2, b4⟩, b5, b6, b7, b8, cap, b9⟩ := h
  have q1 : ∀ k i, ¬ inY 1 k i → ¬ (k = 10 ∧ i = 0) → ¬ (inY 1 k i ∨ (k = 10 ∧ i = 0)) := fun k i z1 z2 z => z.elim z1 z2
  refine ⟨?_, hy2, ⟨kY S, h1.fr F2 (nY 1), rfl, rfl⟩, ⟨Z2, b4.fr F3 fun k i z => q1 k i (fun z2 => by have := inY_u z z2; omega) (nY 2 k i z)⟩, b5.fr F3 ?_ (q1 _ _ (by unfold inY; omega) (by omega)), b6.fr F3 (q1 _ _ nY5 (by omega)), b7.fr F3 (q1 _ _ (by unfold inY; omega) (by omega)) (q1 _ _ (by unfold inY; omega) (by omega)), b8.fr F3 (q1 _ _ nY7 (by omega)) (q1 _ _ nY13 (by omega)), cap, b9.fr F3 (q1 _ _ (by unfold inY; omega) (by omega)) (fun v _ => q1 _ _ (by unfold inY; omega) (by omega))⟩
  · show CLay M1
    exact b1.fr F1 (by unfold inY; omega)
  · rintro k i (⟨rfl, rfl⟩ | ⟨j, -, z⟩)
    · exact q1 _ _ (by unfold inY; omega) (by omega)
    · exact q1 _ _ (fun z2 => by have := inY_u z z2; omega) (nY _ k i z)
set_option maxHeartbeats 1000000 in
set_option maxRecDepth 4000 in
theorem c_restoreState {d : Nat} {S : KS} {p : Nat} {M : Mem} {Q : Out → Mem → Prop} (h : CSt M S p) (hVg : ∀ Z, kV S = some Z → KG Z) (hq : QR9 Q M (rRes S p)) : WPc (d + 20) mX12_restoreState [.ref (rf 10 0)] M Q := by
  refine WPc.of (by decide +kernel) (Nat.le_of_ble_eq_true rfl) rfl ?_
  have hvv := h.v
  cases hV : kV S with
  | none =>
    rw [hV] at hvv
    obtain ⟨Z, hZ, hv⟩ := hvv
    rw [rRes, hV] at hq
    refine R.aload_n dX12_restoreState_0 rfl (by first | rfl | exact rfv_rf _) ?_
    refine R.getI dX12_restoreState_1 fl_X12_359 (by decide) rfl ?_
    rw [hv]
    refine R.if_ne (tgt := 18) dX12_restoreState_4 (by decide) (fun c => absurd rfl c) (fun _ => ?_)
    refine R.throwN th_365 rfl (by omega) (by first | exact Nat.le_of_ble_eq_true rfl | simp [rf_cat, Value.category]) dX12_restoreState_7 dX12_restoreState_10 dX12_restoreState_11 dX12_restoreState_14 dX12_restoreState_17 ?_
    exact hq
  | some Z =>
    rw [hV] at hvv
    obtain ⟨Z', hZ, hv, eZ⟩ := hvv
    subst eZ
    rw [hV] at hVg
    rw [rRes, hV] at hq
    refine R.aload_n dX12_restoreState_0 rfl (by first | rfl | exact rfv_rf _) ?_
    refine R.getI dX12_restoreState_1 fl_X12_359 (by decide) rfl ?_
    rw [hv]
    refine R.if_ne (tgt := 18) dX12_restoreState_4 (by decide) (fun _ => ?_) (fun c => absurd c (by decide))
    refine R.aload_n dX12_restoreState_18 rfl (by first | rfl | exact rfv_rf _) ?_
    refine R.getS (h.l.1) dX12_restoreState_19 fl_X12_10 (by decide) rfl ?_
    refine R.aload_n dX12_restoreState_22 rfl (by first | rfl | exact rfv_rf _) ?_
    refine R.getS (h.l.2.1) dX12_restoreState_23 fl_X12_16 (by decide) rfl ?_
    refine cl_X12_356 rfl rfl (by first | exact Nat.le_of_ble_eq_true rfl | simp [rf_cat, Value.category]) dX12_restoreState_26 ?_
    refine s_yCopy h.y hZ (by decide) (hVg _ rfl).g.1 (hVg _ rfl).g.2 (fun M1 hy1 F1 => ?_)
    have h1 := h.yd hy1 F1
    refine R.aload_n dX12_restoreState_29 rfl (by first | rfl | exact rfv_rf _) ?_
    refine R.getS (h1.l.2.2.2.1) dX12_restoreState_30 fl_X12_25 (by decide) rfl ?_
    refine cl_X12_367 rfl rfl (by first | exact Nat.le_of_ble_eq_true rfl | simp [rf_cat, Value.category]) dX12_restoreState_33 ?_
    refine s_hForget h1.h (fun M2 hf2 F2 => ?_)
    have h2 := h1.hi hf2 F2
    refine R.aload_n dX12_restoreState_36 rfl (by first | rfl | exact rfv_rf _) ?_
    refine R.getS (h2.l.1) dX12_restoreState_37 fl_X12_10 (by decide) rfl ?_
    refine cl_X12_362 rfl rfl (by first | exact Nat.le_of_ble_eq_true rfl | simp [rf_cat, Value.category]) dX12_restoreState_40 ?_
    refine s_yStored h2.y ?_
    refine WP.ret (ov := some (.int _)) dX12_restoreState_43 ⟨rfl, _, rfl, by first | rfl | assumption | exact nar_b01 (by assumption)⟩ ?_
    exact hq _ h2 ((FrK.of F1 nKY).tr1 F2 nKH)
set_option maxHeartbeats 1000000 in
set_option maxRecDepth 4000 in
theorem c_writeTree {d : Nat} {S : KS} {p : Nat} {x : Int32} {M : Mem} {Q : Out → Mem → Prop} (h : CSt M S p) (hGr : GrO (kY S)) (hE : ChE (kY S)) (hL : ∀ i, i < 16 → (wrF (kY S) 5 i).length ≤ 290) (hq : QR9 Q M (rTre S p x)) : WPc (d + 20) mX12_writeTree [.ref (rf 10 0), .int x] M Q := by
  refine WPc.of (by decide +kernel) (Nat.le_of_ble_eq_true rfl) rfl ?_
  obtain ⟨cap, hs⟩ := h.s
  unfold rTre at hq
  cases hx : kC (kY S) x with
  | none =>
    rw [rC_n hx] at hq
    refine R.aload_n dX12_writeTree_0 rfl (by first | rfl | exact rfv_rf _) ?_
    refine R.iload_n dX12_writeTree_1 rfl ?_
    refine cl_X12_119 rfl rfl (by first | exact Nat.le_of_ble_eq_true rfl | simp [rf_cat, Value.category]) dX12_writeTree_2 ?_
    refine s_kN h hx ?_
    exact hq
  | some i =>
    obtain ⟨ex, hi, hc⟩ := kC_s hx
    rw [rC_s hx] at hq
    refine R.aload_n dX12_writeTree_0 rfl (by first | rfl | exact rfv_rf _) ?_
    refine R.iload_n dX12_writeTree_1 rfl ?_
    refine cl_X12_119 rfl rfl (by first | exact Nat.le_of_ble_eq_true rfl | simp [rf_cat, Value.category]) dX12_writeTree_2 ?_
    refine s_kS h hx ?_
    refine R.astore_n dX12_writeTree_5 (by first | rfl | exact rfv_rf _) (Nat.le_of_ble_eq_true rfl) (by decide) (by first | rfl | simp [lft, rf_cat]) rfl ?_
    refine R.aload_n dX12_writeTree_6 rfl (by first | rfl | exact rfv_rf _) ?_
    refine R.getS (h.l.2.2.2.2.2.2.2.1) dX12_writeTree_7 fl_X12_55 (by decide) rfl ?_
    refine R.iconst (v := 0) dX12_writeTree_10 rfl ?_
    refine cl_X12_343 rfl rfl (by first | exact Nat.le_of_ble_eq_true rfl | simp [rf_cat, Value.category]) dX12_writeTree_11 ?_
    refine s_sbZ hs (fun M1 c1 s1 F1 G1 => ?_)
    have h1 := h.sb F1 s1
    refine R.aload_n dX12_writeTree_14 rfl (by first | rfl | exact rfv_rf _) ?_
    refine R.getS (h1.l.1) dX12_writeTree_15 fl_X12_10 (by decide) rfl ?_
    refine R.aload_n dX12_writeTree_18 rfl (by first | rfl | exact rfv_rf _) ?_
    refine R.aload_n dX12_writeTree_19 rfl (by first | rfl | exact rfv_rf _) ?_
    refine R.getS (h1.l.2.2.2.2.2.2.2.1) dX12_writeTree_20 fl_X12_55 (by decide) rfl ?_
    refine R.iconst (v := 0) dX12_writeTree_23 rfl ?_
    refine cl_X12_346 rfl rfl (by first | exact Nat.le_of_ble_eq_true rfl | simp [rf_cat, Value.category]) dX12_writeTree_24 ?_
    refine s_wr (d := d + 6) hGr hE 5 0 i rfl hi h1.y s1 (by simpa using hL i hi) (fun M2 c2 s2 F2 G2 => ?_)
    have h2 := h.sb (F1.tr F2) s2
    refine R.aload_n dX12_writeTree_27 rfl (by first | rfl | exact rfv_rf _) ?_
    refine R.getS (h2.l.2.2.2.2.2.2.2.1) dX12_writeTree_28 fl_X12_55 (by decide) rfl ?_
    refine cl_X12_350 rfl rfl (by first | exact Nat.le_of_ble_eq_true rfl | simp [rf_cat, Value.category]) dX12_writeTree_31 ?_
    refine s_sbLen s2 ?_
    refine WP.ret (ov := some (.int _)) dX12_writeTree_34 ⟨rfl, _, rfl, by first | rfl | assumption | exact nar_b01 (by assumption)⟩ ?_
    exact hq _ h2 (FrK.sb (F1.tr F2) (G1.tr G2) s2.2.2.2.2)
set_option maxHeartbeats 1000000 in
set_option maxRecDepth 4000 in
theorem c_outputByte {d : Nat} {S : KS} {p : Nat} {x : Int32} {M : Mem} {Q : Out → Mem → Prop} (h : CSt M S p) (hB : ∀ c ∈ kO S, ∃ k, c = nI k ∧ k < 128) (hq : Q (.inl (some (.int (aOut S x)))) M) : WPc (d + 20) mX12_outputByte [.ref (rf 10 0), .int x] M Q := by
  refine WPc.of (by decide +kernel) (Nat.le_of_ble_eq_true rfl) rfl ?_
  obtain ⟨cap, hs⟩ := h.s
  refine R.iload_n dX12_outputByte_0 rfl ?_
  refine R.if_lt (tgt := 15) dX12_outputByte_1 (by decide) (fun c1 => ?_) (fun c1 => ?_)
  · have n1 := i_nle c1
    refine R.iconst (v := (-1)) dX12_outputByte_15 rfl ?_
    refine WP.ret (ov := some (.int _)) dX12_outputByte_16 ⟨rfl, _, rfl, by first | rfl | assumption | exact nar_b01 (by assumption)⟩ ?_
    rw [aOut, if_pos c1] at hq
    exact hq
  · have n1 := i_nlt c1
    refine R.iload_n dX12_outputByte_4 rfl ?_
    refine R.aload_n dX12_outputByte_5 rfl (by first | rfl | exact rfv_rf _) ?_
    refine R.getS (h.l.2.2.2.2.2.2.2.1) dX12_outputByte_6 fl_X12_55 (by decide) rfl ?_
    refine cl_X12_350 rfl rfl (by first | exact Nat.le_of_ble_eq_true rfl | simp [rf_cat, Value.category]) dX12_outputByte_9 ?_
    refine s_sbLen hs ?_
    refine R.icmp_lt (tgt := 17) dX12_outputByte_12 (by decide) (fun c12 => ?_) (fun c12 => ?_)
    · have n12 := i_nle c12
      refine R.aload_n dX12_outputByte_17 rfl (by first | rfl | exact rfv_rf _) ?_
      refine R.getS (h.l.2.2.2.2.2.2.2.1) dX12_outputByte_18 fl_X12_55 (by decide) rfl ?_
      refine R.iload_n dX12_outputByte_21 rfl ?_
      obtain ⟨j, hj, rfl⟩ := nI_of c1
      have hjl : j < (kO S).length := (nI_ltI hj (by have := hs.2.2.2.1; have := hs.2.2.2.2; omega)).mp c12
      obtain ⟨k, hk, hkl⟩ := hB _ (List.getElem_mem hjl)
      have hx9 : (kO S)[j]? = some (nI k) := by rw [List.getElem?_eq_getElem hjl, hk]
      rw [aOut, if_neg c1, nI_clamp hj, hx9] at hq
      refine cl_X12_352 rfl rfl (by first | exact Nat.le_of_ble_eq_true rfl | simp [rf_cat, Value.category]) dX12_outputByte_22 ?_
      refine s_sbAt hs hjl hx9 hkl ?_
      refine WP.ret (ov := some (.int _)) dX12_outputByte_25 ⟨rfl, _, rfl, by first | rfl | assumption | exact nar_b01 (by assumption)⟩ ?_
      exact hq
    · have n12 := i_nlt c12
      refine R.iconst (v := (-1)) dX12_outputByte_15 rfl ?_
      refine WP.ret (ov := some (.int _)) dX12_outputByte_16 ⟨rfl, _, rfl, by first | rfl | assumption | exact nar_b01 (by assumption)⟩ ?_
      rw [aOut, if_neg c1, show (kO S)[x.toNatClampNeg]? = none from List.getElem?_eq_none (by obtain ⟨j, hj, rfl⟩ := nI_of c1; rw [nI_clamp hj]; exact Decidable.byContradiction fun z => c12 (nI_lt (by omega) (by have := hs.2.2.2.1; have := hs.2.2.2.2; omega)))] at hq
      exact hq
