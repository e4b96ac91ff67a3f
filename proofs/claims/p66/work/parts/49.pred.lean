/-! predictions, means as doubles and floats, states saved, crates written -/
def NF : Prop := (∀ (a : Int64) (b : Int32), ¬ b = 0 → vf_n64 (FP.ddiv (FP.l2d a) (FP.i2d b))) ∧ (∀ (a b : Int32), ¬ b = 0 → vf_n64 (FP.ddiv (FP.i2d a) (FP.i2d b))) ∧ ∀ (a b : Int32), ¬ b = 0 → vf_n32 (FP.fdiv (FP.i2f a) (FP.i2f b))
/-- the crate and the scale of a prediction -/
def TV (M : Mem) (Y : Yd) (i : Nat) : Prop := (∀ f, f = 4 ∨ f = 8 ∨ f = 11 ∨ f = 12 → mI M 1 176 f = yC Y i f) ∧ (∀ f, f = 9 ∨ f = 10 → mL M 1 176 f = yL Y i f) ∧ ∀ f, f < 4 → mI M 3 11 f = yS Y f
def inTr (k i : Nat) : Prop := (k = 1 ∧ i = 176) ∨ (k = 3 ∧ i = 11)
theorem TV.c {M : Mem} {Y : Yd} {i f : Nat} {v : Int32} (h : TV M Y i) : TV (sI M 1 176 f v) (uC Y i f v) i := by
  refine ⟨fun g hg => ?_, h.2.1, fun g hg => ?_⟩
  · rw [mI_sI, yC_uC]
    by_cases z : g = f
    · rw [if_pos ⟨rfl, rfl, z⟩, if_pos ⟨rfl, z⟩]
    · rw [if_neg (fun w => z w.2.2), if_neg (fun w => z w.2)]; exact h.1 g hg
  · rw [mI_sI, if_neg (by omega)]; exact h.2.2 g hg
theorem TV.l {M : Mem} {Y : Yd} {i f : Nat} {v : Int64} (h : TV M Y i) : TV (sL M 1 176 f v) (uL Y i f v) i := by
  refine ⟨h.1, fun g hg => ?_, h.2.2⟩
  rw [mL_sL, yL_uL]
  by_cases z : g = f
  · rw [if_pos ⟨rfl, rfl, z⟩, if_pos ⟨rfl, z⟩]
  · rw [if_neg (fun w => z w.2.2), if_neg (fun w => z w.2)]; exact h.2.1 g hg
theorem TV.s {M : Mem} {Y : Yd} {i f : Nat} {v : Int32} (h : TV M Y i) : TV (sI M 3 11 f v) (uS Y f v) i := by
  refine ⟨fun g hg => ?_, h.2.1, fun g hg => ?_⟩
  · rw [mI_sI, if_neg (by omega)]; exact h.1 g hg
  · rw [mI_sI, yS_uS]
    by_cases z : g = f
    · rw [if_pos ⟨rfl, rfl, z⟩, if_pos z]
    · rw [if_neg (fun w => z w.2.2), if_neg z]; exact h.2.2 g hg
theorem TV.fin {M : Mem} {Y : Yd} {i : Nat} {e : Int32} (h : TV M Y i) : (rdFin M 11 176 e).1 = (rdYF Y i e).1 ∧ TV (rdFin M 11 176 e).2 (rdYF Y i e).2 i := by
  have e4 := h.1 4 (by omega)
  have e8 := h.1 8 (by omega)
  have e9 := h.2.1 9 (by omega)
  have e10 := h.2.1 10 (by omega)
  have s2 := h.2.2 2 (by omega)
  have s3 := h.2.2 3 (by omega)
  have e0 : (rdFin M 11 176 e).1 = (rdYF Y i e).1 := by simp only [rdFin, rdYF, e4, s2, s3]
  refine ⟨e0, ?_⟩
  simp only [rdFin, rdYF, cStore, stoY, e4, s2, s3]
  have k3 : ∀ (a b : Int64) (c d : Int32), mI (sI (sL (sL (sI M 1 176 8 c) 1 176 9 a) 1 176 10 b) 1 176 11 d) 3 11 3 = yS Y 3 := fun a b c d => by
    rw [mI_sI, if_neg (by omega), mI_sL, mI_sL, mI_sI, if_neg (by omega)]; exact s3
  have k9 : ∀ c : Int32, mL (sI M 1 176 8 c) 1 176 9 = yL Y i 9 := fun c => e9
  have k10 : ∀ (a : Int64) (c : Int32), mL (sL (sI M 1 176 8 c) 1 176 9 a) 1 176 10 = yL Y i 10 := fun a c => by
    rw [mL_sL, if_neg (by omega)]; exact e10
  rw [k3, k9, k10, e8]
  exact (((h.c).l).l).c.s
theorem TV.rd {M : Mem} {Y : Yd} {i : Nat} (h : TV M Y i) : (rdM M 11 176).1 = (tkY Y i).1 ∧ TV (rdM M 11 176).2 (tkY Y i).2 i := by
  have h : TV M (uT Y 0 (yT Y 0 + 1)) i := h
  unfold tkY
  generalize uT Y 0 (yT Y 0 + 1) = Z at h ⊢
  unfold rdM rdY
  rw [h.1 8 (by omega), h.1 12 (by omega)]
  by_cases c : rem (yC Z i 8) 2 = 0
  · rw [if_pos c, if_pos c]
    unfold rdNew rdYN
    rw [h.2.2 0 (by omega), h.2.2 1 (by omega)]
    exact (h.s.c).fin
  · rw [if_neg c, if_neg c]
    exact h.fin
theorem np1 {z : Int32} (h : 1 ≤ z) : ¬ z < 0 := by
  rw [Int32.le_iff_toInt_le] at h
  rw [Int32.lt_iff_toInt_lt]
  have e1 : (1 : Int32).toInt = 1 := by decide
  have e0 : (0 : Int32).toInt = 0 := by decide
  omega
theorem Fr.trd {M : Mem} {S : Nat → Nat → Prop} {M0 : Mem} (h : Fr S M0 M) (h1 : S 1 176) (h3 : S 3 11) : Fr S M0 (rdM M 11 176).2 := by
  unfold rdM
  split
  · unfold rdNew rdFin cStore
    exact Fr.sI (Fr.sI (Fr.sL (Fr.sL (Fr.sI (Fr.sI (Fr.sI h h3) h1) h1) h1) h1) h1) h3
  · unfold rdFin cStore
    exact Fr.sI (Fr.sI (Fr.sL (Fr.sL (Fr.sI h h1) h1) h1) h1) h3
theorem Tr1 : inTr 1 176 := Or.inl ⟨rfl, rfl⟩
theorem Tr3 : inTr 3 11 := Or.inr ⟨rfl, rfl⟩
theorem nKTr : ∀ k i, inK k → ¬ inTr k i := by intro k i h z; unfold inK at h; unfold inTr at z; omega
theorem CSt.trl {M M' : Mem} {S : KS} {p : Nat} (h : CSt M S p) (hF : Fr inTr M M') : CSt M' S p :=
  h.fr hF (by unfold inTr; omega) (fun y hy k i z w => by unfold inY at z; unfold inTr at w; omega) (by unfold inTr; omega) (by unfold inTr; omega) (by unfold inTr; omega) (by unfold inTr; omega) (by unfold inTr; omega) (by unfold inTr; omega) (by unfold inTr; omega) (fun v => by unfold inTr; omega)
theorem Yv.trl {M M' : Mem} {Y : Yd} (h : Yv M 0 Y) (hF : Fr inTr M M') : Yv M' 0 Y := h.fr hF fun k i z w => by unfold inY at z; unfold inTr at w; omega
theorem TV.start {M : Mem} {Y : Yd} {i : Nat} (h : Yv M 0 Y) (hi : i < 16) : TV (sCopy (cCopy M 176 (16 * 0 + i)) 11 0) Y i ∧ Fr inTr M (sCopy (cCopy M 176 (16 * 0 + i)) 11 0) := by
  have hne : ¬ 16 * 0 + i = 176 := by omega
  have hF1 : Fr inTr M (cCopy M 176 (16 * 0 + i)) := by
    unfold cCopy
    exact Fr.sI (Fr.sI (Fr.sL (Fr.sL (Fr.sI (Fr.sI (Fr.sI (Fr.sI (Fr.sI (Fr.sI (Fr.sI (Fr.rf _ _) Tr1) Tr1) Tr1) Tr1) Tr1) Tr1) Tr1) Tr1) Tr1) Tr1) Tr1
  have hF : Fr inTr M (sCopy (cCopy M 176 (16 * 0 + i)) 11 0) := by
    unfold sCopy
    exact Fr.sI (Fr.sI (Fr.sI (Fr.sI hF1 Tr3) Tr3) Tr3) Tr3
  have e1 : ∀ f, mI M 1 i f = yC Y i f := fun f => by have := h.rC hi f; rwa [show 16 * 0 + i = i by omega] at this
  have e2 : ∀ f, mL M 1 i f = yL Y i f := fun f => by have := h.rL hi f; rwa [show 16 * 0 + i = i by omega] at this
  have hne' : ¬ i = 176 := by omega
  refine ⟨⟨fun f hf => ?_, fun f hf => ?_, fun f hf => ?_⟩, hF⟩
  · rcases hf with rfl | rfl | rfl | rfl <;> (unfold sCopy cCopy; simp [mI_sI, mI_sL, hne', e1])
  · rcases hf with rfl | rfl <;> (unfold sCopy cCopy; simp [mL_sI, mL_sL, hne', e2])
  · rcases (show f = 0 ∨ f = 1 ∨ f = 2 ∨ f = 3 by omega) with rfl | rfl | rfl | rfl <;> (unfold sCopy cCopy; simp [mI_sI, mI_sL, h.rS])
def TFr (M M' : Mem) : Prop := Fr inTr M M'
/-- a prediction's loops -/
def ruF (Y : Yd) (i : Nat) (z : Int32) : Nat → Nat → Int32
  | 0, _ => -1
  | f + 1, a => if fabs (yErr (tkN i (a + 1) Y) i) ≤ z then nI (a + 1) else ruF Y i z f (a + 1)
def woF (Y : Yd) (i : Nat) : Nat → Nat → Int32 → Int32
  | 0, _, x => x
  | f + 1, a, x => woF Y i f (a + 1) (fmax x (fabs (yErr (tkN i (a + 1) Y) i)))
theorem tkN_s (i : Nat) : ∀ (a : Nat) (Y : Yd), tkN i (a + 1) Y = (tkY (tkN i a Y) i).2 := by
  intro a
  induction a with
  | zero => intro Y; rfl
  | succ a ih =>
    intro Y
    rw [tkN, ih]
    rfl
theorem TV.err {M : Mem} {Y : Yd} {i : Nat} (h : TV M Y i) : cMean (mI M 1 176 8) (mL M 1 176 9) - mI M 1 176 4 = yErr Y i := by
  rw [h.1 8 (by omega), h.2.1 9 (by omega), h.1 4 (by omega)]; rfl
def QD (Q : Out → Mem → Prop) (M : Mem) (a : UInt64 ⊕ String) : Prop := match a with
  | .inl v => Q (.inl (some (.double v))) M
  | .inr E => Q (.inr E) (ax M)
def aDm (S : KS) (x : Int32) : UInt64 ⊕ String := match kC (kY S) x with
  | none => .inr eI
  | some i => if yC (kY S) i 8 = 0 then .inr eN else .inl (FP.ddiv (FP.l2d (yL (kY S) i 9)) (FP.i2d (yC (kY S) i 8)))
def avT (Y : Yd) : UInt32 := if yF Y 5 = 0 then 0 else FP.fdiv (FP.i2f (trF Y 6 0 0)) (FP.i2f (yF Y 5))
def rSav (S : KS) (p : Nat) : Rr := .inr (stF (kY S) 16 0 0, kSv S (some (kY S)), p)
def rRes (S : KS) (p : Nat) : Rr := match kV S with
  | none => .inl eN
  | some Z => .inr (stF Z 16 0 0, kSh (kSy S Z) [], p)
def rTre (S : KS) (p : Nat) (x : Int32) : Rr := rC S x fun i => .inr (nI (wrF (kY S) 5 i).length, (kY S, kV S, kH S, kB S, kN S, kE S, kQ S, wrF (kY S) 5 i), p)
def aOut (S : KS) (x : Int32) : Int32 := if x < 0 then -1 else match (kO S)[x.toNatClampNeg]? with
  | none => -1
  | some c => c