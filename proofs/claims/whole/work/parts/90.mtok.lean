/-! the model's tokens -/
/-- arrays A and fields P alone are changed -/
def FQ (A P : Nat → Prop) (M M' : Mem) : Prop := (mC M' = mC M ∧ mN M' = mN M ∧ mK M' = mK M ∧ mS M' = mS M ∧ mR M' = mR M ∧ mL M' = mL M ∧ mD M' = mD M) ∧ (∀ i, ¬ A i → mI M' 14 i = mI M 14 i) ∧ (∀ f, ¬ P f → mI M' 11 0 f = mI M 11 0 f) ∧ ∀ k i, k ≠ 11 → k ≠ 14 → mI M' k i = mI M k i
theorem FQ.rf (A P : Nat → Prop) (M : Mem) : FQ A P M M := ⟨⟨rfl, rfl, rfl, rfl, rfl, rfl, rfl⟩, fun _ _ => rfl, fun _ _ => rfl, fun _ _ _ _ => rfl⟩
theorem FQ.tr {A P : Nat → Prop} {M M' M'' : Mem} (h : FQ A P M M') (g : FQ A P M' M'') : FQ A P M M'' := by
  obtain ⟨⟨a1, a2, a3, a4, a5, a6, a7⟩, a8, a9, a0⟩ := h
  obtain ⟨⟨b1, b2, b3, b4, b5, b6, b7⟩, b8, b9, b0⟩ := g
  exact ⟨⟨b1.trans a1, b2.trans a2, b3.trans a3, b4.trans a4, b5.trans a5, b6.trans a6, b7.trans a7⟩, fun i hi => (b8 i hi).trans (a8 i hi), fun f hf => (b9 f hf).trans (a9 f hf), fun k i h1 h2 => (b0 k i h1 h2).trans (a0 k i h1 h2)⟩
theorem FQ.mo {A P A' P' : Nat → Prop} {M M' : Mem} (h : FQ A P M M') (hA : ∀ i, A i → A' i) (hP : ∀ f, P f → P' f) : FQ A' P' M M' := ⟨h.1, fun i hi => h.2.1 i (fun z => hi (hA i z)), fun f hf => h.2.2.1 f (fun z => hf (hP f z)), h.2.2.2⟩
theorem FQ.f {A P : Nat → Prop} {M M' : Mem} (h : FQ A P M M') {f : Nat} (v : Int32) (hf : P f) : FQ A P M (sI M' 11 0 f v) := by
  obtain ⟨a, b, c, d⟩ := h
  refine ⟨a, fun i hi => ?_, fun g hg => ?_, fun k i h1 h2 => ?_⟩
  · rw [mI_sI9]; exact b i hi
  · rw [mI_sI, if_neg (fun z => hg (by rw [z.2.2]; exact hf))]; exact c g hg
  · rw [← d k i h1 h2]; funext x; rw [mI_sI, if_neg (fun z => h1 z.1)]
theorem FQ.c {A P : Nat → Prop} {M M' : Mem} (h : FQ A P M M') {a : Nat} (x : Nat) (v : Int32) (ha : A a) : FQ A P M (sI M' 14 a x v) := by
  obtain ⟨q, b, c, d⟩ := h
  refine ⟨q, fun i hi => ?_, fun g hg => ?_, fun k i h1 h2 => ?_⟩
  · rw [← b i hi]; funext y; rw [mI_sI, if_neg (fun z => hi (by rw [z.2.1]; exact ha))]
  · rw [mI_sI, if_neg (by omega)]; exact c g hg
  · rw [← d k i h1 h2]; funext y; rw [mI_sI, if_neg (fun z => h2 z.1)]
theorem FQ.l {A P : Nat → Prop} {M M' : Mem} (h : FQ A P M M') (hL : ML M) : ML M' := hL.fr (by rw [h.1.2.2.2.2.1]) (by rw [h.1.2.1])
theorem FQ.fr {A P : Nat → Prop} {M M' : Mem} (h : FQ A P M M') : Fr inM M M' := by
  obtain ⟨⟨a1, a2, a3, a4, a5, a6, a7⟩, -, -, a8⟩ := h
  exact ⟨a1, a2, a3, a4, fun k i hn => ⟨a8 k i (fun z => hn (Or.inl z)) (fun z => hn (Or.inr z)), by rw [a6], by rw [a5], by rw [a7]⟩⟩
/-- the model's byte -/
def ub (M : Mem) (n k : Nat) : Int32 := if k < n then mI M 14 5 k else -1
theorem ck_by {u b : Int32} (h : BY u b) : ck u = ck b ∧ ¬ u = -1 ∧ (ck b = 2 ∨ ck b = 3 → u = b) := by
  rcases h with ⟨rfl, h1, h2⟩ | ⟨h1, h2, h3⟩
  · refine ⟨rfl, fun z => ?_, fun _ => rfl⟩
    rw [z, show (-1 : Int32).toInt = -1 by decide] at h1; omega
  · have e1 : ck u = 5 := by
      unfold ck
      rw [if_neg (fun q => by have := Int32.le_iff_toInt_le.mp q.2; rw [show (122 : Int32).toInt = 122 by decide] at this; omega), if_neg (fun q => by have := Int32.le_iff_toInt_le.mp q.2; rw [show (57 : Int32).toInt = 57 by decide] at this; omega), if_neg (fun q => by rw [q, show (59 : Int32).toInt = 59 by decide] at h1; omega), if_neg (fun q => by rcases q with q | q <;> rw [q] at h1 <;> exact absurd h1 (by decide))]
    have e2 : ck b = 5 := by
      unfold ck
      rw [if_neg (fun q => by have := Int32.le_iff_toInt_le.mp q.1; rw [show (97 : Int32).toInt = 97 by decide] at this; omega), if_neg (fun q => by have := Int32.le_iff_toInt_le.mp q.1; rw [show (48 : Int32).toInt = 48 by decide] at this; omega), if_neg (fun q => by rw [q] at h3; exact absurd h3 (by decide)), if_neg (fun q => by rcases q with q | q <;> rw [q] at h3 <;> exact absurd h3 (by decide))]
    refine ⟨e1.trans e2.symm, fun z => ?_, fun z => ?_⟩
    · rw [z] at h1; exact absurd h1 (by decide)
    · rw [e2] at z; exact absurd z (by decide)
theorem ck_2i (v : Int32) : (97 ≤ v ∧ v ≤ 122) ↔ ck v = 2 := by
  unfold ck
  constructor
  · intro h; rw [if_pos h]
  · intro h; exact ck_2 h
theorem ck_3i (v : Int32) : (48 ≤ v ∧ v ≤ 57) ↔ ck v = 3 := by
  unfold ck
  constructor
  · intro h
    rw [if_neg (fun q => by have h1 := Int32.le_iff_toInt_le.mp q.1; have h2 := Int32.le_iff_toInt_le.mp h.2; rw [show (97 : Int32).toInt = 97 by decide] at h1; rw [show (57 : Int32).toInt = 57 by decide] at h2; omega), if_pos h]
  · intro h
    split at h
    · exact absurd h (by decide)
    · split at h
      next z => exact z
      next =>
        split at h
        · exact absurd h (by decide)
        · split at h <;> exact absurd h (by decide)
theorem ck_1i (v : Int32) : (v = 32 ∨ v = 10) ↔ ck v = 1 := by
  constructor
  · rintro (rfl | rfl) <;> decide
  · intro h
    unfold ck at h
    split at h
    · exact absurd h (by decide)
    · split at h
      · exact absurd h (by decide)
      · split at h
        · exact absurd h (by decide)
        · split at h
          next z => exact z
          next => exact absurd h (by decide)
theorem ck_4i (v : Int32) : v = 59 ↔ ck v = 4 := by
  constructor
  · rintro rfl; decide
  · intro h
    unfold ck at h
    split at h
    · exact absurd h (by decide)
    · split at h
      · exact absurd h (by decide)
      · split at h
        next z => exact z
        next => split at h <;> exact absurd h (by decide)
section KPS
variable {M : Mem} {b : Nat → Int32} {n k : Nat}
theorem kp_ub (h : MI M b n) : kp b n k = if k < n then ck (ub M n k) else 0 := by
  unfold kp ub
  by_cases z : k < n
  · rw [if_neg (by omega), if_pos z, if_pos z, (ck_by (h.2.2 k z)).1]
  · rw [if_pos (by omega), if_neg z]
theorem kp_2i (h : MI M b n) : (97 ≤ ub M n k ∧ ub M n k ≤ 122) ↔ kp b n k = 2 := by
  rw [kp_ub h]
  by_cases z : k < n
  · rw [if_pos z]; exact ck_2i _
  · rw [if_neg z]; unfold ub; rw [if_neg z]; exact ⟨fun q => absurd q (by decide), fun q => absurd q (by decide)⟩
theorem kp_3i (h : MI M b n) : (48 ≤ ub M n k ∧ ub M n k ≤ 57) ↔ kp b n k = 3 := by
  rw [kp_ub h]
  by_cases z : k < n
  · rw [if_pos z]; exact ck_3i _
  · rw [if_neg z]; unfold ub; rw [if_neg z]; exact ⟨fun q => absurd q (by decide), fun q => absurd q (by decide)⟩
theorem kp_1i (h : MI M b n) : (ub M n k = 32 ∨ ub M n k = 10) ↔ kp b n k = 1 := by
  rw [kp_ub h]
  by_cases z : k < n
  · rw [if_pos z]; exact ck_1i _
  · rw [if_neg z]; unfold ub; rw [if_neg z]; exact ⟨fun q => absurd q (by decide), fun q => absurd q (by decide)⟩
theorem kp_4i (h : MI M b n) : ub M n k = 59 ↔ kp b n k = 4 := by
  rw [kp_ub h]
  by_cases z : k < n
  · rw [if_pos z]; exact ck_4i _
  · rw [if_neg z]; unfold ub; rw [if_neg z]; exact ⟨fun q => absurd q (by decide), fun q => absurd q (by decide)⟩
theorem kp_0i (h : MI M b n) : ub M n k = -1 ↔ kp b n k = 0 := by
  rw [kp_ub h]
  by_cases z : k < n
  · rw [if_pos z]
    have e : ub M n k = mI M 14 5 k := if_pos z
    rw [e]
    exact ⟨fun q => absurd q (ck_by (h.2.2 k z)).2.1, fun q => absurd q (ck_ne0 _)⟩
  · rw [if_neg z]; unfold ub; rw [if_neg z]; exact ⟨fun _ => rfl, fun _ => rfl⟩
/-- letters and digits are the class's own -/
theorem ub_b (h : MI M b n) (hk : kp b n k = 2 ∨ kp b n k = 3) : k < n ∧ mI M 14 5 k = b k := by
  unfold kp at hk
  split at hk
  · rcases hk with q | q <;> exact absurd q (by decide)
  next z => exact ⟨by omega, (ck_by (h.2.2 k (by omega))).2.2 hk⟩
end KPS
def tkM (k : Int32) : Int32 := if k = 0 then 0 else if k = 2 then 1 else if k = 3 then 2 else if k = 4 then 3 else 4
/-- the token that stands behind e -/
def TK (M : Mem) (b : Nat → Int32) (n e : Nat) : Prop := mI M 11 0 15 = nI (tS b n e) ∧ mI M 11 0 14 = nI (tE b n e) ∧ mI M 11 0 17 = tkM (tK b n e) ∧ (tK b n e = 3 → mI M 11 0 16 = nbV b n e)
def tkP (f : Nat) : Prop := f = 14 ∨ f = 15 ∨ f = 16 ∨ f = 17
theorem MI.fq {A P : Nat → Prop} {M M' : Mem} {b : Nat → Int32} {n : Nat} (h : MI M b n) (F : FQ A P M M') (hA : ¬ A 5) (hP : ¬ P 9) : MI M' b n := h.fr (F.2.2.1 9 hP) (F.2.1 5 hA)
theorem nuG_s (b : Nat → Int32) : ∀ k s a, nuG b (k + 1) s a = nuG b k s a * 10 + b (s + k) - 48 := by
  intro k
  induction k with
  | zero => intro s a; rfl
  | succ k ih =>
    intro s a
    rw [nuG, ih (s + 1), nuG, show s + 1 + k = s + (k + 1) by omega]
set_option maxHeartbeats 1000000 in
theorem m_byte {d n k : Nat} {b : Nat → Int32} {M : Mem} {Q : Out → Mem → Prop} (hL : ML M) (hI : MI M b n) (hk : k < 2 ^ 31) (hq : Q (.inl (some (.int (ub M n k)))) M) : WPc d mX13_byteAt [.ref (rf 11 0), .int (nI k)] M Q := by
  refine WPc.of (by decide +kernel) (Nat.le_of_ble_eq_true rfl) rfl ?_
  have hn := hI.2.1
  unfold ub at hq
  by_cases z : k < n
  · rw [if_pos z] at hq
    refine R.iload_n dX13_byteAt_0 rfl ?_
    refine R.aload_n dX13_byteAt_1 rfl (by first | rfl | exact rfv_rf _) ?_
    refine R.getI dX13_byteAt_2 fl_X13_185 (by decide) rfl ?_
    rw [hI.1]
    refine R.icmp_ge (tgt := 17) dX13_byteAt_5 (by decide) (fun c9 => absurd c9 (nI_ge z (by omega))) (fun _ => ?_)
    refine R.aload_n dX13_byteAt_8 rfl (by first | rfl | exact rfv_rf _) ?_
    refine R.getS (hL.1.2.2.2.2.2.1) dX13_byteAt_9 fl_X13_25 (by decide) rfl ?_
    refine R.iload_n dX13_byteAt_12 rfl ?_
    refine R.ialdN (k := k) dX13_byteAt_13 (by omega) (by rw [hL.2.2.2.2.2.2.1]; omega) ?_
    refine R.goto (tgt := 18) dX13_byteAt_14 (by decide) ?_
    refine WP.ret (ov := some (.int _)) dX13_byteAt_18 ⟨rfl, _, rfl, by first | rfl | assumption | exact nar_b01 (by assumption)⟩ ?_
    exact hq
  · rw [if_neg z] at hq
    refine R.iload_n dX13_byteAt_0 rfl ?_
    refine R.aload_n dX13_byteAt_1 rfl (by first | rfl | exact rfv_rf _) ?_
    refine R.getI dX13_byteAt_2 fl_X13_185 (by decide) rfl ?_
    rw [hI.1]
    refine R.icmp_ge (tgt := 17) dX13_byteAt_5 (by decide) (fun _ => ?_) (fun c9 => absurd (nI_le (by omega) (by omega)) c9)
    refine R.iconst (v := (-1)) dX13_byteAt_17 rfl ?_
    refine WP.ret (ov := some (.int _)) dX13_byteAt_18 ⟨rfl, _, rfl, by first | rfl | assumption | exact nar_b01 (by assumption)⟩ ?_
    exact hq
theorem m_isL {d n k : Nat} {b : Nat → Int32} {M : Mem} {Q : Out → Mem → Prop} (hL : ML M) (hI : MI M b n) (hk : k < 2 ^ 31) (hq : Q (.inl (some (.int (if kp b n k = 2 then 1 else 0)))) M) : WPc (d + 1) mX13_isLetter [.ref (rf 11 0), .int (nI k)] M Q := by
  have hb01 := b01_if (P := kp b n k = 2)
  refine WPc.of (by decide +kernel) (Nat.le_of_ble_eq_true rfl) rfl ?_
  refine R.aload_n dX13_isLetter_0 rfl (by first | rfl | exact rfv_rf _) ?_
  refine R.iload_n dX13_isLetter_1 rfl ?_
  refine cl_X13_191 rfl rfl (by first | exact Nat.le_of_ble_eq_true rfl | simp [rf_cat, Value.category]) dX13_isLetter_2 ?_
  refine m_byte hL hI hk ?_
  refine R.bipush (v := 97) dX13_isLetter_5 (by decide) ?_
  refine R.bipush (v := 122) dX13_isLetter_7 (by decide) ?_
  refine cl_X13_140 rfl rfl (by first | exact Nat.le_of_ble_eq_true rfl | simp [rf_cat, Value.category]) dX13_isLetter_9 ?_
  refine m_inR ?_
  simp only [kp_2i hI]
  refine WP.ret (ov := some (.int _)) dX13_isLetter_12 ⟨rfl, _, rfl, by first | rfl | assumption | exact nar_b01 (by assumption)⟩ ?_
  exact hq
set_option maxHeartbeats 2000000 in
set_option maxRecDepth 4000 in
theorem m_adv1 {d n : Nat} {b : Nat → Int32} {M : Mem} {v : Value} {Q : Out → Mem → Prop} (hL : ML M) (hI : MI M b n) : ∀ (f i : Nat) (M1 : Mem), n < i + f → FQ (fun _ => False) tkP M M1 → mI M1 11 0 14 = nI i → i ≤ n → (∀ M2, FQ (fun _ => False) tkP M M2 → mI M2 11 0 14 = nI (runF (kp b n) 1 f i) → WP mX13_advanceToken (d + 2) 39 [.ref (rf 11 0), v] [] M2 Q) → WP mX13_advanceToken (d + 2) 0 [.ref (rf 11 0), v] [] M1 Q := by
  have hn := hI.2.1
  intro f
  induction f with
  | zero => intro i M1 h; omega
  | succ f ih =>
    intro i M1 hf F h14 hin kq
    have hL1 := F.l hL
    have hI1 := hI.fq F (by simp) (by unfold tkP; omega)
    rw [runF] at kq
    by_cases c1 : kp b n i = 1
    · rw [if_pos c1] at kq
      have hi2 := kp_0 (show ¬ kp b n i = 0 by rw [c1]; decide)
      rcases (kp_1i hI1).mpr c1 with c1 | c1
      · have c0 := c1
        refine R.aload_n dX13_advanceToken_0 rfl (by first | rfl | exact rfv_rf _) ?_
        refine R.aload_n dX13_advanceToken_1 rfl (by first | rfl | exact rfv_rf _) ?_
        refine R.getI dX13_advanceToken_2 fl_X13_194 (by decide) rfl ?_
        rw [h14]
        refine cl_X13_191 rfl rfl (by first | exact Nat.le_of_ble_eq_true rfl | simp [rf_cat, Value.category]) dX13_advanceToken_5 ?_
        refine m_byte hL1 hI1 (by omega) ?_
        refine R.bipush (v := 32) dX13_advanceToken_8 (by decide) ?_
        refine R.icmp_eq (tgt := 26) dX13_advanceToken_10 (by decide) (fun _ => ?_) (fun c9 => absurd (c1) c9)
        refine R.aload_n dX13_advanceToken_26 rfl (by first | rfl | exact rfv_rf _) ?_
        refine R.dup dX13_advanceToken_27 (by first | rfl | exact rf_cat _) ?_
        refine R.getI dX13_advanceToken_28 fl_X13_194 (by decide) rfl ?_
        rw [h14]
        refine R.iconst (v := 1) dX13_advanceToken_31 rfl ?_
        refine R.iadd dX13_advanceToken_32 ?_
        rw [nI_s1]
        refine R.putI dX13_advanceToken_33 fl_X13_194 (fun q hq => by cases hq; exact Or.inl rfl) (by decide) rfl rfl rfl ?_
        refine R.goto (tgt := 0) dX13_advanceToken_36 (by decide) ?_
        exact ih (i + 1) _ (by omega) (F.f _ (Or.inl rfl)) (by rw [mI_sI, if_pos ⟨rfl, rfl, rfl⟩]) (by omega) kq
      · have c0 : ¬ ub M1 n i = 32 := by rw [c1]; decide
        refine R.aload_n dX13_advanceToken_0 rfl (by first | rfl | exact rfv_rf _) ?_
        refine R.aload_n dX13_advanceToken_1 rfl (by first | rfl | exact rfv_rf _) ?_
        refine R.getI dX13_advanceToken_2 fl_X13_194 (by decide) rfl ?_
        rw [h14]
        refine cl_X13_191 rfl rfl (by first | exact Nat.le_of_ble_eq_true rfl | simp [rf_cat, Value.category]) dX13_advanceToken_5 ?_
        refine m_byte hL1 hI1 (by omega) ?_
        refine R.bipush (v := 32) dX13_advanceToken_8 (by decide) ?_
        refine R.icmp_eq (tgt := 26) dX13_advanceToken_10 (by decide) (fun c9 => absurd c9 (c0)) (fun _ => ?_)
        refine R.aload_n dX13_advanceToken_13 rfl (by first | rfl | exact rfv_rf _) ?_
        refine R.aload_n dX13_advanceToken_14 rfl (by first | rfl | exact rfv_rf _) ?_
        refine R.getI dX13_advanceToken_15 fl_X13_194 (by decide) rfl ?_
        rw [h14]
        refine cl_X13_191 rfl rfl (by first | exact Nat.le_of_ble_eq_true rfl | simp [rf_cat, Value.category]) dX13_advanceToken_18 ?_
        refine m_byte hL1 hI1 (by omega) ?_
        refine R.bipush (v := 10) dX13_advanceToken_21 (by decide) ?_
        refine R.icmp_ne (tgt := 39) dX13_advanceToken_23 (by decide) (fun c9 => absurd (c1) c9) (fun _ => ?_)
        refine R.aload_n dX13_advanceToken_26 rfl (by first | rfl | exact rfv_rf _) ?_
        refine R.dup dX13_advanceToken_27 (by first | rfl | exact rf_cat _) ?_
        refine R.getI dX13_advanceToken_28 fl_X13_194 (by decide) rfl ?_
        rw [h14]
        refine R.iconst (v := 1) dX13_advanceToken_31 rfl ?_
        refine R.iadd dX13_advanceToken_32 ?_
        rw [nI_s1]
        refine R.putI dX13_advanceToken_33 fl_X13_194 (fun q hq => by cases hq; exact Or.inl rfl) (by decide) rfl rfl rfl ?_
        refine R.goto (tgt := 0) dX13_advanceToken_36 (by decide) ?_
        exact ih (i + 1) _ (by omega) (F.f _ (Or.inl rfl)) (by rw [mI_sI, if_pos ⟨rfl, rfl, rfl⟩]) (by omega) kq
    · rw [if_neg c1] at kq
      refine R.aload_n dX13_advanceToken_0 rfl (by first | rfl | exact rfv_rf _) ?_
      refine R.aload_n dX13_advanceToken_1 rfl (by first | rfl | exact rfv_rf _) ?_
      refine R.getI dX13_advanceToken_2 fl_X13_194 (by decide) rfl ?_
      rw [h14]
      refine cl_X13_191 rfl rfl (by first | exact Nat.le_of_ble_eq_true rfl | simp [rf_cat, Value.category]) dX13_advanceToken_5 ?_
      refine m_byte hL1 hI1 (by omega) ?_
      refine R.bipush (v := 32) dX13_advanceToken_8 (by decide) ?_
      refine R.icmp_eq (tgt := 26) dX13_advanceToken_10 (by decide) (fun c9 => absurd c9 (fun q => c1 ((kp_1i hI1).mp (Or.inl q)))) (fun _ => ?_)
      refine R.aload_n dX13_advanceToken_13 rfl (by first | rfl | exact rfv_rf _) ?_
      refine R.aload_n dX13_advanceToken_14 rfl (by first | rfl | exact rfv_rf _) ?_
      refine R.getI dX13_advanceToken_15 fl_X13_194 (by decide) rfl ?_
      rw [h14]
      refine cl_X13_191 rfl rfl (by first | exact Nat.le_of_ble_eq_true rfl | simp [rf_cat, Value.category]) dX13_advanceToken_18 ?_
      refine m_byte hL1 hI1 (by omega) ?_
      refine R.bipush (v := 10) dX13_advanceToken_21 (by decide) ?_
      refine R.icmp_ne (tgt := 39) dX13_advanceToken_23 (by decide) (fun _ => ?_) (fun c9 => absurd c9 (fun q => c1 ((kp_1i hI1).mp (Or.inr q))))
      exact kq M1 F h14
set_option maxHeartbeats 2000000 in
set_option maxRecDepth 4000 in
theorem m_adv2 {d n s : Nat} {b : Nat → Int32} {M : Mem} {v : Value} {Q : Out → Mem → Prop} (hL : ML M) (hI : MI M b n) : ∀ (f i : Nat) (M1 : Mem), n < i + f → FQ (fun _ => False) tkP M M1 → mI M1 11 0 14 = nI i → i ≤ n → mI M1 11 0 15 = nI s → (∀ M2, FQ (fun _ => False) tkP M M2 → mI M2 11 0 14 = nI (runF (kp b n) 2 f i) → mI M2 11 0 15 = nI s → WP mX13_advanceToken (d + 2) 109 [.ref (rf 11 0), v] [] M2 Q) → WP mX13_advanceToken (d + 2) 85 [.ref (rf 11 0), v] [] M1 Q := by
  have hn := hI.2.1
  intro f
  induction f with
  | zero => intro i M1 h; omega
  | succ f ih =>
    intro i M1 hf F h14 hin h15 kq
    have hL1 := F.l hL
    have hI1 := hI.fq F (by simp) (by unfold tkP; omega)
    rw [runF] at kq
    by_cases c2 : kp b n i = 2
    · rw [if_pos c2] at kq
      have hi2 := kp_0 (show ¬ kp b n i = 0 by rw [c2]; decide)
      refine R.aload_n dX13_advanceToken_85 rfl (by first | rfl | exact rfv_rf _) ?_
      refine R.aload_n dX13_advanceToken_86 rfl (by first | rfl | exact rfv_rf _) ?_
      refine R.getI dX13_advanceToken_87 fl_X13_194 (by decide) rfl ?_
      rw [h14]
      refine cl_X13_206 rfl rfl (by first | exact Nat.le_of_ble_eq_true rfl | simp [rf_cat, Value.category]) dX13_advanceToken_90 ?_
      refine m_isL hL1 hI1 (by omega) ?_
      rw [if_pos c2]
      refine R.if_eq (tgt := 109) dX13_advanceToken_93 (by decide) (fun c9 => absurd c9 (by decide)) (fun _ => ?_)
      refine R.aload_n dX13_advanceToken_96 rfl (by first | rfl | exact rfv_rf _) ?_
      refine R.dup dX13_advanceToken_97 (by first | rfl | exact rf_cat _) ?_
      refine R.getI dX13_advanceToken_98 fl_X13_194 (by decide) rfl ?_
      rw [h14]
      refine R.iconst (v := 1) dX13_advanceToken_101 rfl ?_
      refine R.iadd dX13_advanceToken_102 ?_
      rw [nI_s1]
      refine R.putI dX13_advanceToken_103 fl_X13_194 (fun q hq => by cases hq; exact Or.inl rfl) (by decide) rfl rfl rfl ?_
      refine R.goto (tgt := 85) dX13_advanceToken_106 (by decide) ?_
      exact ih (i + 1) _ (by omega) (F.f _ (Or.inl rfl)) (by rw [mI_sI, if_pos ⟨rfl, rfl, rfl⟩]) (by omega) (by rw [mI_sI, if_neg (by omega)]; exact h15) kq
    · rw [if_neg c2] at kq
      refine R.aload_n dX13_advanceToken_85 rfl (by first | rfl | exact rfv_rf _) ?_
      refine R.aload_n dX13_advanceToken_86 rfl (by first | rfl | exact rfv_rf _) ?_
      refine R.getI dX13_advanceToken_87 fl_X13_194 (by decide) rfl ?_
      rw [h14]
      refine cl_X13_206 rfl rfl (by first | exact Nat.le_of_ble_eq_true rfl | simp [rf_cat, Value.category]) dX13_advanceToken_90 ?_
      refine m_isL hL1 hI1 (by omega) ?_
      rw [if_neg c2]
      refine R.if_eq (tgt := 109) dX13_advanceToken_93 (by decide) (fun _ => ?_) (fun c9 => absurd (rfl) c9)
      exact kq M1 F h14 h15
set_option maxHeartbeats 2000000 in
set_option maxRecDepth 4000 in
theorem m_adv3 {d n s : Nat} {b : Nat → Int32} {M : Mem} {v : Value} {Q : Out → Mem → Prop} (hL : ML M) (hI : MI M b n) : ∀ (f i : Nat) (M1 : Mem), n < i + f → FQ (fun _ => False) tkP M M1 → mI M1 11 0 14 = nI i → i ≤ n → s ≤ i → mI M1 11 0 15 = nI s → (i - s ≤ 4 → mI M1 11 0 16 = nuG b (i - s) s 0) → (∀ M2, FQ (fun _ => False) tkP M M2 → mI M2 11 0 14 = nI (runF (kp b n) 3 f i) → mI M2 11 0 15 = nI s → (runF (kp b n) 3 f i - s ≤ 4 → mI M2 11 0 16 = nuG b (runF (kp b n) 3 f i - s) s 0) → WP mX13_advanceToken (d + 2) 220 [.ref (rf 11 0), v] [] M2 Q) → WP mX13_advanceToken (d + 2) 146 [.ref (rf 11 0), v] [] M1 Q := by
  have hn := hI.2.1
  intro f
  induction f with
  | zero => intro i M1 h; omega
  | succ f ih =>
    intro i M1 hf F h14 hin hsi h15 h16 kq
    have hL1 := F.l hL
    have hI1 := hI.fq F (by simp) (by unfold tkP; omega)
    rw [runF] at kq
    by_cases c3 : kp b n i = 3
    · rw [if_pos c3] at kq
      have hi2 := kp_0 (show ¬ kp b n i = 0 by rw [c3]; decide)
      by_cases c4 : i - s < 4
      · have : s ≤ i := hsi
        refine R.aload_n dX13_advanceToken_146 rfl (by first | rfl | exact rfv_rf _) ?_
        refine R.aload_n dX13_advanceToken_147 rfl (by first | rfl | exact rfv_rf _) ?_
        refine R.getI dX13_advanceToken_148 fl_X13_194 (by decide) rfl ?_
        rw [h14]
        refine cl_X13_191 rfl rfl (by first | exact Nat.le_of_ble_eq_true rfl | simp [rf_cat, Value.category]) dX13_advanceToken_151 ?_
        refine m_byte hL1 hI1 (by omega) ?_
        refine R.bipush (v := 48) dX13_advanceToken_154 (by decide) ?_
        refine R.bipush (v := 57) dX13_advanceToken_156 (by decide) ?_
        refine cl_X13_140 rfl rfl (by first | exact Nat.le_of_ble_eq_true rfl | simp [rf_cat, Value.category]) dX13_advanceToken_158 ?_
        refine m_inR ?_
        rw [if_pos ((kp_3i hI1).mpr c3)]
        refine R.if_eq (tgt := 220) dX13_advanceToken_161 (by decide) (fun c9 => absurd c9 (by decide)) (fun _ => ?_)
        refine R.aload_n dX13_advanceToken_164 rfl (by first | rfl | exact rfv_rf _) ?_
        refine R.aload_n dX13_advanceToken_165 rfl (by first | rfl | exact rfv_rf _) ?_
        refine R.getI dX13_advanceToken_166 fl_X13_194 (by decide) rfl ?_
        rw [h14]
        refine R.aload_n dX13_advanceToken_169 rfl (by first | rfl | exact rfv_rf _) ?_
        refine R.getI dX13_advanceToken_170 fl_X13_197 (by decide) rfl ?_
        rw [h15]
        refine R.isub dX13_advanceToken_173 ?_
        rw [nI_sub hsi]
        refine R.iconst (v := nI 4) dX13_advanceToken_174 rfl ?_
        refine R.icmp_ge (tgt := 200) dX13_advanceToken_175 (by decide) (fun c9 => absurd c9 (nI_ge c4 (by omega))) (fun _ => ?_)
        refine R.bipush (v := 10) dX13_advanceToken_178 (by decide) ?_
        refine R.aload_n dX13_advanceToken_180 rfl (by first | rfl | exact rfv_rf _) ?_
        refine R.getI dX13_advanceToken_181 fl_X13_200 (by decide) rfl ?_
        refine R.imul dX13_advanceToken_184 ?_
        refine R.aload_n dX13_advanceToken_185 rfl (by first | rfl | exact rfv_rf _) ?_
        refine R.aload_n dX13_advanceToken_186 rfl (by first | rfl | exact rfv_rf _) ?_
        refine R.getI dX13_advanceToken_187 fl_X13_194 (by decide) rfl ?_
        rw [h14]
        refine cl_X13_191 rfl rfl (by first | exact Nat.le_of_ble_eq_true rfl | simp [rf_cat, Value.category]) dX13_advanceToken_190 ?_
        refine m_byte hL1 hI1 (by omega) ?_
        refine R.iadd dX13_advanceToken_193 ?_
        refine R.bipush (v := 48) dX13_advanceToken_194 (by decide) ?_
        refine R.isub dX13_advanceToken_196 ?_
        refine R.goto (tgt := 204) dX13_advanceToken_197 (by decide) ?_
        refine R.putI dX13_advanceToken_204 fl_X13_200 (fun q hq => by cases hq; exact Or.inl rfl) (by decide) rfl rfl rfl ?_
        refine R.aload_n dX13_advanceToken_207 rfl (by first | rfl | exact rfv_rf _) ?_
        refine R.dup dX13_advanceToken_208 (by first | rfl | exact rf_cat _) ?_
        refine R.getI dX13_advanceToken_209 fl_X13_194 (by decide) rfl ?_
        rw [mI_sI, if_neg (by omega), h14]
        refine R.iconst (v := 1) dX13_advanceToken_212 rfl ?_
        refine R.iadd dX13_advanceToken_213 ?_
        rw [nI_s1]
        refine R.putI dX13_advanceToken_214 fl_X13_194 (fun q hq => by cases hq; exact Or.inl rfl) (by decide) rfl rfl rfl ?_
        refine R.goto (tgt := 146) dX13_advanceToken_217 (by decide) ?_
        refine ih (i + 1) _ (by omega) ((F.f _ (Or.inr (Or.inr (Or.inl rfl)))).f _ (Or.inl rfl)) (by rw [mI_sI, if_pos ⟨rfl, rfl, rfl⟩]) (by omega) (by omega) (by rw [mI_sI, if_neg (by omega), mI_sI, if_neg (by omega)]; exact h15) (fun h4 => ?_) kq
        rw [mI_sI, if_neg (by omega), mI_sI, if_pos ⟨rfl, rfl, rfl⟩, show i + 1 - s = (i - s) + 1 by omega, nuG_s, ← h16 (by omega), show s + (i - s) = i by omega, show ub M1 n i = b i from (if_pos hi2).trans (ub_b hI1 (Or.inr c3)).2, Int32.mul_comm]
      · have : s ≤ i := hsi
        refine R.aload_n dX13_advanceToken_146 rfl (by first | rfl | exact rfv_rf _) ?_
        refine R.aload_n dX13_advanceToken_147 rfl (by first | rfl | exact rfv_rf _) ?_
        refine R.getI dX13_advanceToken_148 fl_X13_194 (by decide) rfl ?_
        rw [h14]
        refine cl_X13_191 rfl rfl (by first | exact Nat.le_of_ble_eq_true rfl | simp [rf_cat, Value.category]) dX13_advanceToken_151 ?_
        refine m_byte hL1 hI1 (by omega) ?_
        refine R.bipush (v := 48) dX13_advanceToken_154 (by decide) ?_
        refine R.bipush (v := 57) dX13_advanceToken_156 (by decide) ?_
        refine cl_X13_140 rfl rfl (by first | exact Nat.le_of_ble_eq_true rfl | simp [rf_cat, Value.category]) dX13_advanceToken_158 ?_
        refine m_inR ?_
        rw [if_pos ((kp_3i hI1).mpr c3)]
        refine R.if_eq (tgt := 220) dX13_advanceToken_161 (by decide) (fun c9 => absurd c9 (by decide)) (fun _ => ?_)
        refine R.aload_n dX13_advanceToken_164 rfl (by first | rfl | exact rfv_rf _) ?_
        refine R.aload_n dX13_advanceToken_165 rfl (by first | rfl | exact rfv_rf _) ?_
        refine R.getI dX13_advanceToken_166 fl_X13_194 (by decide) rfl ?_
        rw [h14]
        refine R.aload_n dX13_advanceToken_169 rfl (by first | rfl | exact rfv_rf _) ?_
        refine R.getI dX13_advanceToken_170 fl_X13_197 (by decide) rfl ?_
        rw [h15]
        refine R.isub dX13_advanceToken_173 ?_
        rw [nI_sub hsi]
        refine R.iconst (v := nI 4) dX13_advanceToken_174 rfl ?_
        refine R.icmp_ge (tgt := 200) dX13_advanceToken_175 (by decide) (fun _ => ?_) (fun c9 => absurd (nI_le (by omega) (by omega)) c9)
        refine R.aload_n dX13_advanceToken_200 rfl (by first | rfl | exact rfv_rf _) ?_
        refine R.getI dX13_advanceToken_201 fl_X13_200 (by decide) rfl ?_
        refine R.putI dX13_advanceToken_204 fl_X13_200 (fun q hq => by cases hq; exact Or.inl rfl) (by decide) rfl rfl rfl ?_
        refine R.aload_n dX13_advanceToken_207 rfl (by first | rfl | exact rfv_rf _) ?_
        refine R.dup dX13_advanceToken_208 (by first | rfl | exact rf_cat _) ?_
        refine R.getI dX13_advanceToken_209 fl_X13_194 (by decide) rfl ?_
        rw [mI_sI, if_neg (by omega), h14]
        refine R.iconst (v := 1) dX13_advanceToken_212 rfl ?_
        refine R.iadd dX13_advanceToken_213 ?_
        rw [nI_s1]
        refine R.putI dX13_advanceToken_214 fl_X13_194 (fun q hq => by cases hq; exact Or.inl rfl) (by decide) rfl rfl rfl ?_
        refine R.goto (tgt := 146) dX13_advanceToken_217 (by decide) ?_
        refine ih (i + 1) _ (by omega) ((F.f _ (Or.inr (Or.inr (Or.inl rfl)))).f _ (Or.inl rfl)) (by rw [mI_sI, if_pos ⟨rfl, rfl, rfl⟩]) (by omega) (by omega) (by rw [mI_sI, if_neg (by omega), mI_sI, if_neg (by omega)]; exact h15) (fun h4 => ?_) kq
        omega
    · rw [if_neg c3] at kq
      refine R.aload_n dX13_advanceToken_146 rfl (by first | rfl | exact rfv_rf _) ?_
      refine R.aload_n dX13_advanceToken_147 rfl (by first | rfl | exact rfv_rf _) ?_
      refine R.getI dX13_advanceToken_148 fl_X13_194 (by decide) rfl ?_
      rw [h14]
      refine cl_X13_191 rfl rfl (by first | exact Nat.le_of_ble_eq_true rfl | simp [rf_cat, Value.category]) dX13_advanceToken_151 ?_
      refine m_byte hL1 hI1 (by omega) ?_
      refine R.bipush (v := 48) dX13_advanceToken_154 (by decide) ?_
      refine R.bipush (v := 57) dX13_advanceToken_156 (by decide) ?_
      refine cl_X13_140 rfl rfl (by first | exact Nat.le_of_ble_eq_true rfl | simp [rf_cat, Value.category]) dX13_advanceToken_158 ?_
      refine m_inR ?_
      rw [if_neg (fun q => c3 ((kp_3i hI1).mp q))]
      refine R.if_eq (tgt := 220) dX13_advanceToken_161 (by decide) (fun _ => ?_) (fun c9 => absurd (rfl) c9)
      exact kq M1 F h14 h15 h16
set_option maxHeartbeats 4000000 in
set_option maxRecDepth 8000 in
theorem m_adv {d n e : Nat} {b : Nat → Int32} {M : Mem} {Q : Out → Mem → Prop} (hL : ML M) (hI : MI M b n) (h14 : mI M 11 0 14 = nI e) (he : e ≤ n) (hq : ∀ M', TK M' b n e → FQ (fun _ => False) tkP M M' → Q (.inl none) M') : WPc (d + 2) mX13_advanceToken [.ref (rf 11 0)] M Q := by
  refine WPc.of (by decide +kernel) (Nat.le_of_ble_eq_true rfl) rfl ?_
  have hn := hI.2.1
  refine m_adv1 hL hI 601 e M (by omega) (FQ.rf _ _ _) h14 he (fun M2 F h14 => ?_)
  change mI M2 11 0 14 = nI (tS b n e) at h14
  have hL3 : ML (sI M2 11 0 15 (nI (tS b n e))) := (F.l hL).fr rfl rfl
  have hI3 : MI (sI M2 11 0 15 (nI (tS b n e))) b n := (hI.fq F (by simp) (by unfold tkP; omega)).fr (by rw [mI_sI, if_neg (by omega)]) (by rw [mI_sI9])
  have F3 : FQ (fun _ => False) tkP M (sI (sI M2 11 0 15 (nI (tS b n e))) 11 0 16 0) := (F.f _ (Or.inr (Or.inl rfl))).f _ (Or.inr (Or.inr (Or.inl rfl)))
  have hL4 := F3.l hL
  have hI4 := hI.fq F3 (by simp) (by unfold tkP; omega)
  have g14 : mI (sI (sI M2 11 0 15 (nI (tS b n e))) 11 0 16 0) 11 0 14 = nI (tS b n e) := by rw [mI_sI, if_neg (by omega), mI_sI, if_neg (by omega)]; exact h14
  have g15 : mI (sI (sI M2 11 0 15 (nI (tS b n e))) 11 0 16 0) 11 0 15 = nI (tS b n e) := by rw [mI_sI, if_neg (by omega), mI_sI, if_pos ⟨rfl, rfl, rfl⟩]
  have g16 : mI (sI (sI M2 11 0 15 (nI (tS b n e))) 11 0 16 0) 11 0 16 = 0 := by rw [mI_sI, if_pos ⟨rfl, rfl, rfl⟩]
  have hsn := tS_le (b := b) he
  by_cases c0 : kp b n (tS b n e) = 0
  · skip
    refine R.aload_n dX13_advanceToken_39 rfl (by first | rfl | exact rfv_rf _) ?_
    refine R.aload_n dX13_advanceToken_40 rfl (by first | rfl | exact rfv_rf _) ?_
    refine R.getI dX13_advanceToken_41 fl_X13_194 (by decide) rfl ?_
    rw [h14]
    refine R.putI dX13_advanceToken_44 fl_X13_197 (fun q hq => by cases hq; exact Or.inl rfl) (by decide) rfl rfl rfl ?_
    refine R.aload_n dX13_advanceToken_47 rfl (by first | rfl | exact rfv_rf _) ?_
    refine R.aload_n dX13_advanceToken_48 rfl (by first | rfl | exact rfv_rf _) ?_
    refine R.getI dX13_advanceToken_49 fl_X13_194 (by decide) rfl ?_
    rw [mI_sI, if_neg (by omega), h14]
    refine cl_X13_191 rfl rfl (by first | exact Nat.le_of_ble_eq_true rfl | simp [rf_cat, Value.category]) dX13_advanceToken_52 ?_
    refine m_byte hL3 hI3 (by omega) ?_
    refine R.istore_n dX13_advanceToken_55 (Nat.le_of_ble_eq_true rfl) (by decide) (by first | rfl | simp [lft, rf_cat]) rfl ?_
    refine R.aload_n dX13_advanceToken_56 rfl (by first | rfl | exact rfv_rf _) ?_
    refine R.iconst (v := 0) dX13_advanceToken_57 rfl ?_
    refine R.putI dX13_advanceToken_58 fl_X13_200 (fun q hq => by cases hq; exact Or.inl rfl) (by decide) rfl rfl rfl ?_
    refine R.iload_n dX13_advanceToken_61 rfl ?_
    refine R.iconst (v := -1) dX13_advanceToken_62 rfl ?_
    refine R.icmp_ne (tgt := 74) dX13_advanceToken_63 (by decide) (fun c9 => absurd ((kp_0i hI3).mpr c0) c9) (fun _ => ?_)
    refine R.aload_n dX13_advanceToken_66 rfl (by first | rfl | exact rfv_rf _) ?_
    refine R.iconst (v := 0) dX13_advanceToken_67 rfl ?_
    refine R.putI dX13_advanceToken_68 fl_X13_203 (fun q hq => by cases hq; exact Or.inl rfl) (by decide) rfl rfl rfl ?_
    refine R.goto (tgt := 270) dX13_advanceToken_71 (by decide) ?_
    refine WP.ret (ov := none) dX13_advanceToken_270 ⟨rfl, rfl⟩ ?_
    have eE : tE b n e = tS b n e := by unfold tE; rw [if_pos c0]
    have eK : tK b n e = 0 := by unfold tK; rw [if_neg (by rw [c0]; exact fun q => q.elim (fun q => absurd q.1 (by decide)) (fun q => absurd q.1 (by decide)))]; exact c0
    refine hq _ ⟨?_, ?_, ?_, fun z => ?_⟩ (F3.f _ (Or.inr (Or.inr (Or.inr rfl))))
    · rw [mI_sI, if_neg (by omega)]; exact g15
    · rw [mI_sI, if_neg (by omega), eE]; exact g14
    · rw [mI_sI, if_pos ⟨rfl, rfl, rfl⟩, eK]; rfl
    · rw [eK] at z; exact absurd z (by decide)
  by_cases c2 : kp b n (tS b n e) = 2
  · skip
    refine R.aload_n dX13_advanceToken_39 rfl (by first | rfl | exact rfv_rf _) ?_
    refine R.aload_n dX13_advanceToken_40 rfl (by first | rfl | exact rfv_rf _) ?_
    refine R.getI dX13_advanceToken_41 fl_X13_194 (by decide) rfl ?_
    rw [h14]
    refine R.putI dX13_advanceToken_44 fl_X13_197 (fun q hq => by cases hq; exact Or.inl rfl) (by decide) rfl rfl rfl ?_
    refine R.aload_n dX13_advanceToken_47 rfl (by first | rfl | exact rfv_rf _) ?_
    refine R.aload_n dX13_advanceToken_48 rfl (by first | rfl | exact rfv_rf _) ?_
    refine R.getI dX13_advanceToken_49 fl_X13_194 (by decide) rfl ?_
    rw [mI_sI, if_neg (by omega), h14]
    refine cl_X13_191 rfl rfl (by first | exact Nat.le_of_ble_eq_true rfl | simp [rf_cat, Value.category]) dX13_advanceToken_52 ?_
    refine m_byte hL3 hI3 (by omega) ?_
    refine R.istore_n dX13_advanceToken_55 (Nat.le_of_ble_eq_true rfl) (by decide) (by first | rfl | simp [lft, rf_cat]) rfl ?_
    refine R.aload_n dX13_advanceToken_56 rfl (by first | rfl | exact rfv_rf _) ?_
    refine R.iconst (v := 0) dX13_advanceToken_57 rfl ?_
    refine R.putI dX13_advanceToken_58 fl_X13_200 (fun q hq => by cases hq; exact Or.inl rfl) (by decide) rfl rfl rfl ?_
    refine R.iload_n dX13_advanceToken_61 rfl ?_
    refine R.iconst (v := -1) dX13_advanceToken_62 rfl ?_
    refine R.icmp_ne (tgt := 74) dX13_advanceToken_63 (by decide) (fun _ => ?_) (fun c9 => absurd c9 (fun q => c0 ((kp_0i hI3).mp q)))
    refine R.aload_n dX13_advanceToken_74 rfl (by first | rfl | exact rfv_rf _) ?_
    refine R.aload_n dX13_advanceToken_75 rfl (by first | rfl | exact rfv_rf _) ?_
    refine R.getI dX13_advanceToken_76 fl_X13_194 (by decide) rfl ?_
    rw [g14]
    refine cl_X13_206 rfl rfl (by first | exact Nat.le_of_ble_eq_true rfl | simp [rf_cat, Value.category]) dX13_advanceToken_79 ?_
    refine m_isL hL4 hI4 (by omega) ?_
    rw [if_pos c2]
    refine R.if_eq (tgt := 135) dX13_advanceToken_82 (by decide) (fun c9 => absurd c9 (by decide)) (fun _ => ?_)
    refine m_adv2 hL4 hI4 602 (tS b n e) _ (by omega) (FQ.rf _ _ _) g14 hsn g15 (fun M5 F5 q14 q15 => ?_)
    have eE : tE b n e = runF (kp b n) 2 602 (tS b n e) := by
      unfold tE
      rw [if_neg (by rw [c2]; decide), if_pos (Or.inl c2), c2]
      show _ = if kp b n (tS b n e) = 2 then runF (kp b n) 2 601 (tS b n e + 1) else tS b n e
      rw [if_pos c2]
    rw [← eE] at q14
    have hse := tS_tE (b := b) (n := n) (e := e)
    have hen := tE_le (b := b) he
    by_cases c8 : 8 < tE b n e - tS b n e
    · have eK : tK b n e = 5 := by unfold tK; rw [if_pos (Or.inl ⟨c2, c8⟩)]
      refine R.aload_n dX13_advanceToken_109 rfl (by first | rfl | exact rfv_rf _) ?_
      refine R.aload_n dX13_advanceToken_110 rfl (by first | rfl | exact rfv_rf _) ?_
      refine R.getI dX13_advanceToken_111 fl_X13_194 (by decide) rfl ?_
      rw [q14]
      refine R.aload_n dX13_advanceToken_114 rfl (by first | rfl | exact rfv_rf _) ?_
      refine R.getI dX13_advanceToken_115 fl_X13_197 (by decide) rfl ?_
      rw [q15]
      refine R.isub dX13_advanceToken_118 ?_
      rw [nI_sub hse]
      refine R.bipush (v := nI 8) dX13_advanceToken_119 (by decide) ?_
      refine R.icmp_le (tgt := 128) dX13_advanceToken_121 (by decide) (fun c9 => absurd c9 (nI_ge c8 (by omega))) (fun _ => ?_)
      refine R.iconst (v := 4) dX13_advanceToken_124 rfl ?_
      refine R.goto (tgt := 129) dX13_advanceToken_125 (by decide) ?_
      refine R.putI dX13_advanceToken_129 fl_X13_203 (fun q hq => by cases hq; exact Or.inl rfl) (by decide) rfl rfl rfl ?_
      refine R.goto (tgt := 270) dX13_advanceToken_132 (by decide) ?_
      refine WP.ret (ov := none) dX13_advanceToken_270 ⟨rfl, rfl⟩ ?_
      refine hq _ ⟨?_, ?_, ?_, fun z => ?_⟩ (F3.tr (F5.f _ (Or.inr (Or.inr (Or.inr rfl)))))
      · rw [mI_sI, if_neg (by omega)]; exact q15
      · rw [mI_sI, if_neg (by omega)]; exact q14
      · rw [mI_sI, if_pos ⟨rfl, rfl, rfl⟩, eK]; rfl
      · rw [eK] at z; exact absurd z (by decide)
    · have eK : tK b n e = 2 := by unfold tK; rw [if_neg (by rw [c2]; exact fun q => q.elim (fun q => c8 q.2) (fun q => absurd q.1 (by decide)))]; exact c2
      refine R.aload_n dX13_advanceToken_109 rfl (by first | rfl | exact rfv_rf _) ?_
      refine R.aload_n dX13_advanceToken_110 rfl (by first | rfl | exact rfv_rf _) ?_
      refine R.getI dX13_advanceToken_111 fl_X13_194 (by decide) rfl ?_
      rw [q14]
      refine R.aload_n dX13_advanceToken_114 rfl (by first | rfl | exact rfv_rf _) ?_
      refine R.getI dX13_advanceToken_115 fl_X13_197 (by decide) rfl ?_
      rw [q15]
      refine R.isub dX13_advanceToken_118 ?_
      rw [nI_sub hse]
      refine R.bipush (v := nI 8) dX13_advanceToken_119 (by decide) ?_
      refine R.icmp_le (tgt := 128) dX13_advanceToken_121 (by decide) (fun _ => ?_) (fun c9 => absurd (nI_le (by omega) (by omega)) c9)
      refine R.iconst (v := 1) dX13_advanceToken_128 rfl ?_
      refine R.putI dX13_advanceToken_129 fl_X13_203 (fun q hq => by cases hq; exact Or.inl rfl) (by decide) rfl rfl rfl ?_
      refine R.goto (tgt := 270) dX13_advanceToken_132 (by decide) ?_
      refine WP.ret (ov := none) dX13_advanceToken_270 ⟨rfl, rfl⟩ ?_
      refine hq _ ⟨?_, ?_, ?_, fun z => ?_⟩ (F3.tr (F5.f _ (Or.inr (Or.inr (Or.inr rfl)))))
      · rw [mI_sI, if_neg (by omega)]; exact q15
      · rw [mI_sI, if_neg (by omega)]; exact q14
      · rw [mI_sI, if_pos ⟨rfl, rfl, rfl⟩, eK]; rfl
      · rw [eK] at z; exact absurd z (by decide)
  by_cases c3 : kp b n (tS b n e) = 3
  · skip
    refine R.aload_n dX13_advanceToken_39 rfl (by first | rfl | exact rfv_rf _) ?_
    refine R.aload_n dX13_advanceToken_40 rfl (by first | rfl | exact rfv_rf _) ?_
    refine R.getI dX13_advanceToken_41 fl_X13_194 (by decide) rfl ?_
    rw [h14]
    refine R.putI dX13_advanceToken_44 fl_X13_197 (fun q hq => by cases hq; exact Or.inl rfl) (by decide) rfl rfl rfl ?_
    refine R.aload_n dX13_advanceToken_47 rfl (by first | rfl | exact rfv_rf _) ?_
    refine R.aload_n dX13_advanceToken_48 rfl (by first | rfl | exact rfv_rf _) ?_
    refine R.getI dX13_advanceToken_49 fl_X13_194 (by decide) rfl ?_
    rw [mI_sI, if_neg (by omega), h14]
    refine cl_X13_191 rfl rfl (by first | exact Nat.le_of_ble_eq_true rfl | simp [rf_cat, Value.category]) dX13_advanceToken_52 ?_
    refine m_byte hL3 hI3 (by omega) ?_
    refine R.istore_n dX13_advanceToken_55 (Nat.le_of_ble_eq_true rfl) (by decide) (by first | rfl | simp [lft, rf_cat]) rfl ?_
    refine R.aload_n dX13_advanceToken_56 rfl (by first | rfl | exact rfv_rf _) ?_
    refine R.iconst (v := 0) dX13_advanceToken_57 rfl ?_
    refine R.putI dX13_advanceToken_58 fl_X13_200 (fun q hq => by cases hq; exact Or.inl rfl) (by decide) rfl rfl rfl ?_
    refine R.iload_n dX13_advanceToken_61 rfl ?_
    refine R.iconst (v := -1) dX13_advanceToken_62 rfl ?_
    refine R.icmp_ne (tgt := 74) dX13_advanceToken_63 (by decide) (fun _ => ?_) (fun c9 => absurd c9 (fun q => c0 ((kp_0i hI3).mp q)))
    refine R.aload_n dX13_advanceToken_74 rfl (by first | rfl | exact rfv_rf _) ?_
    refine R.aload_n dX13_advanceToken_75 rfl (by first | rfl | exact rfv_rf _) ?_
    refine R.getI dX13_advanceToken_76 fl_X13_194 (by decide) rfl ?_
    rw [g14]
    refine cl_X13_206 rfl rfl (by first | exact Nat.le_of_ble_eq_true rfl | simp [rf_cat, Value.category]) dX13_advanceToken_79 ?_
    refine m_isL hL4 hI4 (by omega) ?_
    rw [if_neg c2]
    refine R.if_eq (tgt := 135) dX13_advanceToken_82 (by decide) (fun _ => ?_) (fun c9 => absurd (rfl) c9)
    refine R.iload_n dX13_advanceToken_135 rfl ?_
    refine R.bipush (v := 48) dX13_advanceToken_136 (by decide) ?_
    refine R.bipush (v := 57) dX13_advanceToken_138 (by decide) ?_
    refine cl_X13_140 rfl rfl (by first | exact Nat.le_of_ble_eq_true rfl | simp [rf_cat, Value.category]) dX13_advanceToken_140 ?_
    refine m_inR ?_
    rw [if_pos ((kp_3i hI3).mpr c3)]
    refine R.if_eq (tgt := 245) dX13_advanceToken_143 (by decide) (fun c9 => absurd c9 (by decide)) (fun _ => ?_)
    refine m_adv3 hL4 hI4 602 (tS b n e) _ (by omega) (FQ.rf _ _ _) g14 hsn (Nat.le_refl _) g15 (fun _ => by rw [Nat.sub_self]; exact g16) (fun M5 F5 q14 q15 q16 => ?_)
    have eE : tE b n e = runF (kp b n) 3 602 (tS b n e) := by
      unfold tE
      rw [if_neg (by rw [c3]; decide), if_pos (Or.inr c3), c3]
      show _ = if kp b n (tS b n e) = 3 then runF (kp b n) 3 601 (tS b n e + 1) else tS b n e
      rw [if_pos c3]
    rw [← eE] at q14 q16
    have hse := tS_tE (b := b) (n := n) (e := e)
    have hen := tE_le (b := b) he
    by_cases c8 : 4 < tE b n e - tS b n e
    · have eK : tK b n e = 5 := by unfold tK; rw [if_pos (Or.inr ⟨c3, c8⟩)]
      refine R.aload_n dX13_advanceToken_220 rfl (by first | rfl | exact rfv_rf _) ?_
      refine R.aload_n dX13_advanceToken_221 rfl (by first | rfl | exact rfv_rf _) ?_
      refine R.getI dX13_advanceToken_222 fl_X13_194 (by decide) rfl ?_
      rw [q14]
      refine R.aload_n dX13_advanceToken_225 rfl (by first | rfl | exact rfv_rf _) ?_
      refine R.getI dX13_advanceToken_226 fl_X13_197 (by decide) rfl ?_
      rw [q15]
      refine R.isub dX13_advanceToken_229 ?_
      rw [nI_sub hse]
      refine R.iconst (v := nI 4) dX13_advanceToken_230 rfl ?_
      refine R.icmp_le (tgt := 238) dX13_advanceToken_231 (by decide) (fun c9 => absurd c9 (nI_ge c8 (by omega))) (fun _ => ?_)
      refine R.iconst (v := 4) dX13_advanceToken_234 rfl ?_
      refine R.goto (tgt := 239) dX13_advanceToken_235 (by decide) ?_
      refine R.putI dX13_advanceToken_239 fl_X13_203 (fun q hq => by cases hq; exact Or.inl rfl) (by decide) rfl rfl rfl ?_
      refine R.goto (tgt := 270) dX13_advanceToken_242 (by decide) ?_
      refine WP.ret (ov := none) dX13_advanceToken_270 ⟨rfl, rfl⟩ ?_
      refine hq _ ⟨?_, ?_, ?_, fun z => ?_⟩ (F3.tr (F5.f _ (Or.inr (Or.inr (Or.inr rfl)))))
      · rw [mI_sI, if_neg (by omega)]; exact q15
      · rw [mI_sI, if_neg (by omega)]; exact q14
      · rw [mI_sI, if_pos ⟨rfl, rfl, rfl⟩, eK]; rfl
      · rw [eK] at z; exact absurd z (by decide)
    · have eK : tK b n e = 3 := by unfold tK; rw [if_neg (by rw [c3]; exact fun q => q.elim (fun q => absurd q.1 (by decide)) (fun q => c8 q.2))]; exact c3
      refine R.aload_n dX13_advanceToken_220 rfl (by first | rfl | exact rfv_rf _) ?_
      refine R.aload_n dX13_advanceToken_221 rfl (by first | rfl | exact rfv_rf _) ?_
      refine R.getI dX13_advanceToken_222 fl_X13_194 (by decide) rfl ?_
      rw [q14]
      refine R.aload_n dX13_advanceToken_225 rfl (by first | rfl | exact rfv_rf _) ?_
      refine R.getI dX13_advanceToken_226 fl_X13_197 (by decide) rfl ?_
      rw [q15]
      refine R.isub dX13_advanceToken_229 ?_
      rw [nI_sub hse]
      refine R.iconst (v := nI 4) dX13_advanceToken_230 rfl ?_
      refine R.icmp_le (tgt := 238) dX13_advanceToken_231 (by decide) (fun _ => ?_) (fun c9 => absurd (nI_le (by omega) (by omega)) c9)
      refine R.iconst (v := 2) dX13_advanceToken_238 rfl ?_
      refine R.putI dX13_advanceToken_239 fl_X13_203 (fun q hq => by cases hq; exact Or.inl rfl) (by decide) rfl rfl rfl ?_
      refine R.goto (tgt := 270) dX13_advanceToken_242 (by decide) ?_
      refine WP.ret (ov := none) dX13_advanceToken_270 ⟨rfl, rfl⟩ ?_
      refine hq _ ⟨?_, ?_, ?_, fun z => ?_⟩ (F3.tr (F5.f _ (Or.inr (Or.inr (Or.inr rfl)))))
      · rw [mI_sI, if_neg (by omega)]; exact q15
      · rw [mI_sI, if_neg (by omega)]; exact q14
      · rw [mI_sI, if_pos ⟨rfl, rfl, rfl⟩, eK]; rfl
      · rw [mI_sI, if_neg (by omega)]; exact q16 (by omega)
  by_cases c4 : kp b n (tS b n e) = 4
  · skip
    refine R.aload_n dX13_advanceToken_39 rfl (by first | rfl | exact rfv_rf _) ?_
    refine R.aload_n dX13_advanceToken_40 rfl (by first | rfl | exact rfv_rf _) ?_
    refine R.getI dX13_advanceToken_41 fl_X13_194 (by decide) rfl ?_
    rw [h14]
    refine R.putI dX13_advanceToken_44 fl_X13_197 (fun q hq => by cases hq; exact Or.inl rfl) (by decide) rfl rfl rfl ?_
    refine R.aload_n dX13_advanceToken_47 rfl (by first | rfl | exact rfv_rf _) ?_
    refine R.aload_n dX13_advanceToken_48 rfl (by first | rfl | exact rfv_rf _) ?_
    refine R.getI dX13_advanceToken_49 fl_X13_194 (by decide) rfl ?_
    rw [mI_sI, if_neg (by omega), h14]
    refine cl_X13_191 rfl rfl (by first | exact Nat.le_of_ble_eq_true rfl | simp [rf_cat, Value.category]) dX13_advanceToken_52 ?_
    refine m_byte hL3 hI3 (by omega) ?_
    refine R.istore_n dX13_advanceToken_55 (Nat.le_of_ble_eq_true rfl) (by decide) (by first | rfl | simp [lft, rf_cat]) rfl ?_
    refine R.aload_n dX13_advanceToken_56 rfl (by first | rfl | exact rfv_rf _) ?_
    refine R.iconst (v := 0) dX13_advanceToken_57 rfl ?_
    refine R.putI dX13_advanceToken_58 fl_X13_200 (fun q hq => by cases hq; exact Or.inl rfl) (by decide) rfl rfl rfl ?_
    refine R.iload_n dX13_advanceToken_61 rfl ?_
    refine R.iconst (v := -1) dX13_advanceToken_62 rfl ?_
    refine R.icmp_ne (tgt := 74) dX13_advanceToken_63 (by decide) (fun _ => ?_) (fun c9 => absurd c9 (fun q => c0 ((kp_0i hI3).mp q)))
    refine R.aload_n dX13_advanceToken_74 rfl (by first | rfl | exact rfv_rf _) ?_
    refine R.aload_n dX13_advanceToken_75 rfl (by first | rfl | exact rfv_rf _) ?_
    refine R.getI dX13_advanceToken_76 fl_X13_194 (by decide) rfl ?_
    rw [g14]
    refine cl_X13_206 rfl rfl (by first | exact Nat.le_of_ble_eq_true rfl | simp [rf_cat, Value.category]) dX13_advanceToken_79 ?_
    refine m_isL hL4 hI4 (by omega) ?_
    rw [if_neg c2]
    refine R.if_eq (tgt := 135) dX13_advanceToken_82 (by decide) (fun _ => ?_) (fun c9 => absurd (rfl) c9)
    refine R.iload_n dX13_advanceToken_135 rfl ?_
    refine R.bipush (v := 48) dX13_advanceToken_136 (by decide) ?_
    refine R.bipush (v := 57) dX13_advanceToken_138 (by decide) ?_
    refine cl_X13_140 rfl rfl (by first | exact Nat.le_of_ble_eq_true rfl | simp [rf_cat, Value.category]) dX13_advanceToken_140 ?_
    refine m_inR ?_
    rw [if_neg (fun q => c3 ((kp_3i hI3).mp q))]
    refine R.if_eq (tgt := 245) dX13_advanceToken_143 (by decide) (fun _ => ?_) (fun c9 => absurd (rfl) c9)
    refine R.aload_n dX13_advanceToken_245 rfl (by first | rfl | exact rfv_rf _) ?_
    refine R.iload_n dX13_advanceToken_246 rfl ?_
    refine R.bipush (v := 59) dX13_advanceToken_247 (by decide) ?_
    refine R.icmp_ne (tgt := 256) dX13_advanceToken_249 (by decide) (fun c9 => absurd ((kp_4i hI3).mpr c4) c9) (fun _ => ?_)
    refine R.iconst (v := 3) dX13_advanceToken_252 rfl ?_
    refine R.goto (tgt := 257) dX13_advanceToken_253 (by decide) ?_
    refine R.putI dX13_advanceToken_257 fl_X13_203 (fun q hq => by cases hq; exact Or.inl rfl) (by decide) rfl rfl rfl ?_
    refine R.aload_n dX13_advanceToken_260 rfl (by first | rfl | exact rfv_rf _) ?_
    refine R.dup dX13_advanceToken_261 (by first | rfl | exact rf_cat _) ?_
    refine R.getI dX13_advanceToken_262 fl_X13_194 (by decide) rfl ?_
    rw [mI_sI, if_neg (by omega), g14]
    refine R.iconst (v := 1) dX13_advanceToken_265 rfl ?_
    refine R.iadd dX13_advanceToken_266 ?_
    rw [nI_s1]
    refine R.putI dX13_advanceToken_267 fl_X13_194 (fun q hq => by cases hq; exact Or.inl rfl) (by decide) rfl rfl rfl ?_
    refine WP.ret (ov := none) dX13_advanceToken_270 ⟨rfl, rfl⟩ ?_
    have eE : tE b n e = tS b n e + 1 := by unfold tE; rw [if_neg c0, if_neg (fun q => q.elim c2 c3)]
    have eK : tK b n e = kp b n (tS b n e) := by unfold tK; rw [if_neg (fun q => q.elim (fun q => c2 q.1) (fun q => c3 q.1))]
    refine hq _ ⟨?_, ?_, ?_, fun z => ?_⟩ ((F3.f _ (Or.inr (Or.inr (Or.inr rfl)))).f _ (Or.inl rfl))
    · rw [mI_sI, if_neg (by omega), mI_sI, if_neg (by omega)]; exact g15
    · rw [mI_sI, if_pos ⟨rfl, rfl, rfl⟩, eE]
    · rw [mI_sI, if_neg (by omega), mI_sI, if_pos ⟨rfl, rfl, rfl⟩, eK]
      unfold tkM
      rw [if_neg c0, if_neg c2, if_neg c3, if_pos c4]
    · rw [eK] at z; exact absurd z c3
  · skip
    refine R.aload_n dX13_advanceToken_39 rfl (by first | rfl | exact rfv_rf _) ?_
    refine R.aload_n dX13_advanceToken_40 rfl (by first | rfl | exact rfv_rf _) ?_
    refine R.getI dX13_advanceToken_41 fl_X13_194 (by decide) rfl ?_
    rw [h14]
    refine R.putI dX13_advanceToken_44 fl_X13_197 (fun q hq => by cases hq; exact Or.inl rfl) (by decide) rfl rfl rfl ?_
    refine R.aload_n dX13_advanceToken_47 rfl (by first | rfl | exact rfv_rf _) ?_
    refine R.aload_n dX13_advanceToken_48 rfl (by first | rfl | exact rfv_rf _) ?_
    refine R.getI dX13_advanceToken_49 fl_X13_194 (by decide) rfl ?_
    rw [mI_sI, if_neg (by omega), h14]
    refine cl_X13_191 rfl rfl (by first | exact Nat.le_of_ble_eq_true rfl | simp [rf_cat, Value.category]) dX13_advanceToken_52 ?_
    refine m_byte hL3 hI3 (by omega) ?_
    refine R.istore_n dX13_advanceToken_55 (Nat.le_of_ble_eq_true rfl) (by decide) (by first | rfl | simp [lft, rf_cat]) rfl ?_
    refine R.aload_n dX13_advanceToken_56 rfl (by first | rfl | exact rfv_rf _) ?_
    refine R.iconst (v := 0) dX13_advanceToken_57 rfl ?_
    refine R.putI dX13_advanceToken_58 fl_X13_200 (fun q hq => by cases hq; exact Or.inl rfl) (by decide) rfl rfl rfl ?_
    refine R.iload_n dX13_advanceToken_61 rfl ?_
    refine R.iconst (v := -1) dX13_advanceToken_62 rfl ?_
    refine R.icmp_ne (tgt := 74) dX13_advanceToken_63 (by decide) (fun _ => ?_) (fun c9 => absurd c9 (fun q => c0 ((kp_0i hI3).mp q)))
    refine R.aload_n dX13_advanceToken_74 rfl (by first | rfl | exact rfv_rf _) ?_
    refine R.aload_n dX13_advanceToken_75 rfl (by first | rfl | exact rfv_rf _) ?_
    refine R.getI dX13_advanceToken_76 fl_X13_194 (by decide) rfl ?_
    rw [g14]
    refine cl_X13_206 rfl rfl (by first | exact Nat.le_of_ble_eq_true rfl | simp [rf_cat, Value.category]) dX13_advanceToken_79 ?_
    refine m_isL hL4 hI4 (by omega) ?_
    rw [if_neg c2]
    refine R.if_eq (tgt := 135) dX13_advanceToken_82 (by decide) (fun _ => ?_) (fun c9 => absurd (rfl) c9)
    refine R.iload_n dX13_advanceToken_135 rfl ?_
    refine R.bipush (v := 48) dX13_advanceToken_136 (by decide) ?_
    refine R.bipush (v := 57) dX13_advanceToken_138 (by decide) ?_
    refine cl_X13_140 rfl rfl (by first | exact Nat.le_of_ble_eq_true rfl | simp [rf_cat, Value.category]) dX13_advanceToken_140 ?_
    refine m_inR ?_
    rw [if_neg (fun q => c3 ((kp_3i hI3).mp q))]
    refine R.if_eq (tgt := 245) dX13_advanceToken_143 (by decide) (fun _ => ?_) (fun c9 => absurd (rfl) c9)
    refine R.aload_n dX13_advanceToken_245 rfl (by first | rfl | exact rfv_rf _) ?_
    refine R.iload_n dX13_advanceToken_246 rfl ?_
    refine R.bipush (v := 59) dX13_advanceToken_247 (by decide) ?_
    refine R.icmp_ne (tgt := 256) dX13_advanceToken_249 (by decide) (fun _ => ?_) (fun c9 => absurd c9 (fun q => c4 ((kp_4i hI3).mp q)))
    refine R.iconst (v := 4) dX13_advanceToken_256 rfl ?_
    refine R.putI dX13_advanceToken_257 fl_X13_203 (fun q hq => by cases hq; exact Or.inl rfl) (by decide) rfl rfl rfl ?_
    refine R.aload_n dX13_advanceToken_260 rfl (by first | rfl | exact rfv_rf _) ?_
    refine R.dup dX13_advanceToken_261 (by first | rfl | exact rf_cat _) ?_
    refine R.getI dX13_advanceToken_262 fl_X13_194 (by decide) rfl ?_
    rw [mI_sI, if_neg (by omega), g14]
    refine R.iconst (v := 1) dX13_advanceToken_265 rfl ?_
    refine R.iadd dX13_advanceToken_266 ?_
    rw [nI_s1]
    refine R.putI dX13_advanceToken_267 fl_X13_194 (fun q hq => by cases hq; exact Or.inl rfl) (by decide) rfl rfl rfl ?_
    refine WP.ret (ov := none) dX13_advanceToken_270 ⟨rfl, rfl⟩ ?_
    have eE : tE b n e = tS b n e + 1 := by unfold tE; rw [if_neg c0, if_neg (fun q => q.elim c2 c3)]
    have eK : tK b n e = kp b n (tS b n e) := by unfold tK; rw [if_neg (fun q => q.elim (fun q => c2 q.1) (fun q => c3 q.1))]
    refine hq _ ⟨?_, ?_, ?_, fun z => ?_⟩ ((F3.f _ (Or.inr (Or.inr (Or.inr rfl)))).f _ (Or.inl rfl))
    · rw [mI_sI, if_neg (by omega), mI_sI, if_neg (by omega)]; exact g15
    · rw [mI_sI, if_pos ⟨rfl, rfl, rfl⟩, eE]
    · rw [mI_sI, if_neg (by omega), mI_sI, if_pos ⟨rfl, rfl, rfl⟩, eK]
      unfold tkM
      rw [if_neg c0, if_neg c2, if_neg c3, if_neg c4]
    · rw [eK] at z; exact absurd z c3
