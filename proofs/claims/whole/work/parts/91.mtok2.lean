/-! what the model reads of its tokens -/
def pA (i : Nat) : Prop := i = 0 ∨ i = 6 ∨ i = 7 ∨ i = 8
def pP (f : Nat) : Prop := (12 ≤ f ∧ f ≤ 18) ∨ f = 22
abbrev OR9 : Type := Int32 × (Nat → Int32) × (Nat → Int32)
/-- the model before the token behind e; w its array, N its numbers, RR its orders -/
def PQ (M0 M : Mem) (b : Nat → Int32) (n e : Nat) (w N : Nat → Int32) (RR : OR9) : Prop := FQ pA pP M0 M ∧ TK M b n e ∧ (mI M 14 0 = w ∧ mI M 14 6 = N ∧ mI M 14 7 = RR.2.1 ∧ mI M 14 8 = RR.2.2) ∧ (mI M 11 0 12 = 0 ∧ mI M 11 0 13 = -1 ∧ mI M 11 0 22 = RR.1) ∧ ML M ∧ MI M b n ∧ e ≤ n
/-- the model behind an error -/
def PX (M0 M : Mem) (cd : Int32) (s : Nat) (w' : Nat → Int32) : Prop := FQ pA pP M0 M ∧ mI M 11 0 12 = cd ∧ mI M 11 0 13 = nI s ∧ mI M 14 0 = w'
section PQS
variable {M0 M M' : Mem} {b : Nat → Int32} {n e : Nat} {wv Nv : Nat → Int32} {RR : OR9}
theorem PQ.F (h : PQ M0 M b n e wv Nv RR) : FQ pA pP M0 M := h.1
theorem PQ.t (h : PQ M0 M b n e wv Nv RR) : TK M b n e := h.2.1
theorem PQ.w (h : PQ M0 M b n e wv Nv RR) : mI M 14 0 = wv := h.2.2.1.1
theorem PQ.N (h : PQ M0 M b n e wv Nv RR) : mI M 14 6 = Nv := h.2.2.1.2.1
theorem PQ.o7 (h : PQ M0 M b n e wv Nv RR) : mI M 14 7 = RR.2.1 := h.2.2.1.2.2.1
theorem PQ.o8 (h : PQ M0 M b n e wv Nv RR) : mI M 14 8 = RR.2.2 := h.2.2.1.2.2.2
theorem PQ.x (h : PQ M0 M b n e wv Nv RR) : mI M 11 0 12 = 0 := h.2.2.2.1.1
theorem PQ.x2 (h : PQ M0 M b n e wv Nv RR) : mI M 11 0 13 = -1 := h.2.2.2.1.2.1
theorem PQ.o (h : PQ M0 M b n e wv Nv RR) : mI M 11 0 22 = RR.1 := h.2.2.2.1.2.2
theorem PQ.l (h : PQ M0 M b n e wv Nv RR) : ML M := h.2.2.2.2.1
theorem PQ.i (h : PQ M0 M b n e wv Nv RR) : MI M b n := h.2.2.2.2.2.1
theorem PQ.en (h : PQ M0 M b n e wv Nv RR) : e ≤ n := h.2.2.2.2.2.2
theorem PQ.n6 (h : PQ M0 M b n e wv Nv RR) : n ≤ 600 := h.i.2.1
theorem tk_pP : ∀ f, tkP f → pP f := fun f h => by unfold tkP at h; unfold pP; omega
/-- the next token -/
theorem PQ.adv {e' : Nat} (h : PQ M0 M b n e wv Nv RR) (F : FQ (fun _ => False) tkP M M') (t : TK M' b n e') (he : e' ≤ n) : PQ M0 M' b n e' wv Nv RR := by
  have e14 : ∀ i, mI M' 14 i = mI M 14 i := fun i => F.2.1 i (by simp)
  have ef : ∀ f, ¬ tkP f → mI M' 11 0 f = mI M 11 0 f := fun f hf => F.2.2.1 f hf
  refine ⟨h.F.tr (F.mo (fun i z => z.elim) tk_pP), t, ⟨(e14 0).trans h.w, (e14 6).trans h.N, (e14 7).trans h.o7, (e14 8).trans h.o8⟩, ⟨?_, ?_, ?_⟩, F.l h.l, h.i.fq F (by simp) (by unfold tkP; omega), he⟩
  · rw [ef 12 (by unfold tkP; omega)]; exact h.x
  · rw [ef 13 (by unfold tkP; omega)]; exact h.x2
  · rw [ef 22 (by unfold tkP; omega)]; exact h.o
/-- a change of the array -/
theorem PQ.sw (h : PQ M0 M b n e wv Nv RR) (w' : Nat → Int32) : PQ M0 (sW M w') b n e w' Nv RR := by
  have e14 : ∀ i, i ≠ 0 → mI (sW M w') 14 i = mI M 14 i := fun i hi => mI_sWn _ _ (fun z => hi z.2)
  have ef : ∀ f, mI (sW M w') 11 0 f = mI M 11 0 f := fun f => by rw [mI_sWn _ _ (by decide)]
  obtain ⟨t1, t2, t3, t4⟩ := h.t
  refine ⟨h.F.tr ⟨⟨rfl, rfl, rfl, rfl, rfl, rfl, rfl⟩, fun i hi => e14 i (fun z => hi (Or.inl z)), fun f _ => ef f, fun k i _ h2 => mI_sWn _ _ (fun z => h2 z.1)⟩, ⟨by rw [ef]; exact t1, by rw [ef]; exact t2, by rw [ef]; exact t3, fun z => by rw [ef]; exact t4 z⟩, ⟨mI_sW _ _, by rw [e14 6 (by decide)]; exact h.N, by rw [e14 7 (by decide)]; exact h.o7, by rw [e14 8 (by decide)]; exact h.o8⟩, ⟨by rw [ef]; exact h.x, by rw [ef]; exact h.x2, by rw [ef]; exact h.o⟩, h.l.fr rfl rfl, h.i.fr (ef 9) (e14 5 (by decide)), h.en⟩
/-- a change of the numbers -/
theorem PQ.num (h : PQ M0 M b n e wv Nv RR) (k : Nat) (v : Int32) : PQ M0 (sI M 14 6 k v) b n e wv (upW Nv k v) RR := by
  have e14 : ∀ i, i ≠ 6 → mI (sI M 14 6 k v) 14 i = mI M 14 i := fun i hi => by funext x; rw [mI_sI, if_neg (by omega)]
  have ef : ∀ f, mI (sI M 14 6 k v) 11 0 f = mI M 11 0 f := fun f => by rw [mI_sI, if_neg (by omega)]
  obtain ⟨t1, t2, t3, t4⟩ := h.t
  refine ⟨h.F.c _ _ (Or.inr (Or.inl rfl)), ⟨by rw [ef]; exact t1, by rw [ef]; exact t2, by rw [ef]; exact t3, fun z => by rw [ef]; exact t4 z⟩, ⟨by rw [e14 0 (by decide)]; exact h.w, ?_, by rw [e14 7 (by decide)]; exact h.o7, by rw [e14 8 (by decide)]; exact h.o8⟩, ⟨by rw [ef]; exact h.x, by rw [ef]; exact h.x2, by rw [ef]; exact h.o⟩, h.l.fr rfl rfl, h.i.fr (ef 9) (e14 5 (by decide)), h.en⟩
  funext x
  rw [mI_sI, ← h.N]
  show _ = if x = k then v else mI M 14 6 x
  by_cases z : x = k
  · rw [if_pos ⟨rfl, rfl, z⟩, if_pos z]
  · rw [if_neg (fun q => z q.2.2), if_neg z]
theorem PQ.got (h : PQ M0 M b n e wv Nv RR) (v : Int32) : PQ M0 (sI M 11 0 18 v) b n e wv Nv RR := by
  have ef : ∀ f, f ≠ 18 → mI (sI M 11 0 18 v) 11 0 f = mI M 11 0 f := fun f hf => by rw [mI_sI, if_neg (by omega)]
  obtain ⟨t1, t2, t3, t4⟩ := h.t
  exact ⟨h.F.f _ (Or.inl (by omega)), ⟨by rw [ef 15 (by decide)]; exact t1, by rw [ef 14 (by decide)]; exact t2, by rw [ef 17 (by decide)]; exact t3, fun z => by rw [ef 16 (by decide)]; exact t4 z⟩, ⟨by rw [mI_sI9]; exact h.w, by rw [mI_sI9]; exact h.N, by rw [mI_sI9]; exact h.o7, by rw [mI_sI9]; exact h.o8⟩, ⟨by rw [ef 12 (by decide)]; exact h.x, by rw [ef 13 (by decide)]; exact h.x2, by rw [ef 22 (by decide)]; exact h.o⟩, h.l.fr rfl rfl, h.i.fr (ef 9 (by decide)) (mI_sI9 _ _ _ _), h.en⟩
end PQS
set_option maxHeartbeats 1000000 in
set_option maxRecDepth 4000 in
theorem p_fail {d n e : Nat} {b w N : Nat → Int32} {RR : OR9} {M0 M : Mem} {Q : Out → Mem → Prop} {cd : Int32} (h : PQ M0 M b n e w N RR) (hq : ∀ M', PX M0 M' cd (tS b n e) w → Q (.inl (some (.int 0))) M') : WPc (d) mX13_failsAt [.ref (rf 11 0), .int cd] M Q := by
  refine WPc.of (by decide +kernel) (Nat.le_of_ble_eq_true rfl) rfl ?_
  refine R.aload_n dX13_failsAt_0 rfl (by first | rfl | exact rfv_rf _) ?_
  refine R.getI dX13_failsAt_1 fl_X13_209 (by decide) rfl ?_
  rw [h.x]
  refine R.if_ne (tgt := 20) dX13_failsAt_4 (by decide) (fun c9 => absurd (rfl) c9) (fun _ => ?_)
  refine R.aload_n dX13_failsAt_7 rfl (by first | rfl | exact rfv_rf _) ?_
  refine R.iload_n dX13_failsAt_8 rfl ?_
  refine R.putI dX13_failsAt_9 fl_X13_209 (fun q hq => by cases hq; exact Or.inl rfl) (by decide) rfl rfl rfl ?_
  refine R.aload_n dX13_failsAt_12 rfl (by first | rfl | exact rfv_rf _) ?_
  refine R.aload_n dX13_failsAt_13 rfl (by first | rfl | exact rfv_rf _) ?_
  refine R.getI dX13_failsAt_14 fl_X13_197 (by decide) rfl ?_
  rw [mI_sI, if_neg (by omega), h.t.1]
  refine R.putI dX13_failsAt_17 fl_X13_212 (fun q hq => by cases hq; exact Or.inl rfl) (by decide) rfl rfl rfl ?_
  refine R.iconst (v := 0) dX13_failsAt_20 rfl ?_
  refine WP.ret (ov := some (.int _)) dX13_failsAt_21 ⟨rfl, _, rfl, by first | rfl | assumption | exact nar_b01 (by assumption)⟩ ?_
  exact hq _ ⟨(h.F.f _ (Or.inl (by omega))).f _ (Or.inl (by omega)), by rw [mI_sI, if_neg (by omega), mI_sI, if_pos ⟨rfl, rfl, rfl⟩], by rw [mI_sI, if_pos ⟨rfl, rfl, rfl⟩], by rw [mI_sI9, mI_sI9]; exact h.w⟩
theorem p_adv {d n e : Nat} {b w N : Nat → Int32} {RR : OR9} {M0 M : Mem} {Q : Out → Mem → Prop} (h : PQ M0 M b n e w N RR) (hq : ∀ M', PQ M0 M' b n (tE b n e) w N RR → Q (.inl none) M') : WPc (d + 2) mX13_advanceToken [.ref (rf 11 0)] M Q :=
  m_adv h.l h.i h.t.2.1 (tE_le h.en) (fun M' t F => hq M' (h.adv F t (tE_le h.en)))
theorem tkM_i {b : Nat → Int32} {n e : Nat} (c : Int32) (k : Int32) (hc : tkM k = c) (hne : ∀ x, tkM x = c → x = k) : tkM (tK b n e) = c ↔ tK b n e = k := ⟨hne _, fun z => by rw [z]; exact hc⟩
theorem tkM_c (x : Int32) : (tkM x = 0 ↔ x = 0) ∧ (tkM x = 1 ↔ x = 2) ∧ (tkM x = 2 ↔ x = 3) ∧ (tkM x = 3 ↔ x = 4) := by
  unfold tkM
  by_cases h0 : x = 0
  · subst h0; decide
  · rw [if_neg h0]
    by_cases h2 : x = 2
    · subst h2; decide
    · rw [if_neg h2]
      by_cases h3 : x = 3
      · subst h3; decide
      · rw [if_neg h3]
        by_cases h4 : x = 4
        · subst h4; decide
        · rw [if_neg h4]
          exact ⟨⟨fun q => absurd q (by decide), fun q => absurd q h0⟩, ⟨fun q => absurd q (by decide), fun q => absurd q h2⟩, ⟨fun q => absurd q (by decide), fun q => absurd q h3⟩, ⟨fun q => absurd q (by decide), fun q => absurd q h4⟩⟩
set_option maxHeartbeats 1000000 in
set_option maxRecDepth 4000 in
theorem p_semS {d n e : Nat} {b w N : Nat → Int32} {RR : OR9} {M0 M : Mem} {Q : Out → Mem → Prop} (h : PQ M0 M b n e w N RR) (hc : scC (tK b n e) = 0) (hq : ∀ M', PQ M0 M' b n (tE b n e) w N RR → Q (.inl (some (.int 1))) M') : WPc (d + 3) mX13_takesSemicolon [.ref (rf 11 0)] M Q := by
  refine WPc.of (by decide +kernel) (Nat.le_of_ble_eq_true rfl) rfl ?_
  have hk : tkM (tK b n e) = 3 := (tkM_c _).2.2.2.mpr (by unfold scC at hc; split at hc; assumption; exact absurd hc (by decide))
  refine R.aload_n dX13_takesSemicolon_0 rfl (by first | rfl | exact rfv_rf _) ?_
  refine R.getI dX13_takesSemicolon_1 fl_X13_203 (by decide) rfl ?_
  rw [h.t.2.2.1]
  refine R.iconst (v := 3) dX13_takesSemicolon_4 rfl ?_
  refine R.icmp_eq (tgt := 14) dX13_takesSemicolon_5 (by decide) (fun _ => ?_) (fun c9 => absurd (hk) c9)
  refine R.aload_n dX13_takesSemicolon_14 rfl (by first | rfl | exact rfv_rf _) ?_
  refine cl_X13_233 rfl rfl (by first | exact Nat.le_of_ble_eq_true rfl | simp [rf_cat, Value.category]) dX13_takesSemicolon_15 ?_
  refine p_adv h (fun M2 h2 => ?_)
  refine R.iconst (v := 1) dX13_takesSemicolon_18 rfl ?_
  refine WP.ret (ov := some (.int _)) dX13_takesSemicolon_19 ⟨rfl, _, rfl, by first | rfl | assumption | exact nar_b01 (by assumption)⟩ ?_
  exact hq M2 h2
set_option maxHeartbeats 1000000 in
set_option maxRecDepth 4000 in
theorem p_semN {d n e : Nat} {b w N : Nat → Int32} {RR : OR9} {M0 M : Mem} {Q : Out → Mem → Prop} (h : PQ M0 M b n e w N RR) (hc : ¬ scC (tK b n e) = 0) (hq : ∀ M', PX M0 M' (scC (tK b n e)) (tS b n e) w → Q (.inl (some (.int 0))) M') : WPc (d + 3) mX13_takesSemicolon [.ref (rf 11 0)] M Q := by
  refine WPc.of (by decide +kernel) (Nat.le_of_ble_eq_true rfl) rfl ?_
  have h4 : ¬ tK b n e = 4 := fun z => hc (by unfold scC; rw [if_pos z])
  have hk : ¬ tkM (tK b n e) = 3 := fun z => h4 ((tkM_c _).2.2.2.mp z)
  have e1 : scC (tK b n e) = 1 := by unfold scC; rw [if_neg h4]
  rw [e1] at hq
  refine R.aload_n dX13_takesSemicolon_0 rfl (by first | rfl | exact rfv_rf _) ?_
  refine R.getI dX13_takesSemicolon_1 fl_X13_203 (by decide) rfl ?_
  rw [h.t.2.2.1]
  refine R.iconst (v := 3) dX13_takesSemicolon_4 rfl ?_
  refine R.icmp_eq (tgt := 14) dX13_takesSemicolon_5 (by decide) (fun c9 => absurd c9 (hk)) (fun _ => ?_)
  refine R.aload_n dX13_takesSemicolon_8 rfl (by first | rfl | exact rfv_rf _) ?_
  refine R.iconst (v := 1) dX13_takesSemicolon_9 rfl ?_
  refine cl_X13_224 rfl rfl (by first | exact Nat.le_of_ble_eq_true rfl | simp [rf_cat, Value.category]) dX13_takesSemicolon_10 ?_
  refine p_fail h (fun M2 h2 => ?_)
  refine WP.ret (ov := some (.int _)) dX13_takesSemicolon_13 ⟨rfl, _, rfl, by first | rfl | assumption | exact nar_b01 (by assumption)⟩ ?_
  exact hq M2 h2
theorem nb_z {b : Nat → Int32} {n e : Nat} {lo hi : Int32} (hc : nbC b n e lo hi = 0) : tK b n e = 3 ∧ lo ≤ nbV b n e ∧ nbV b n e ≤ hi := by
  unfold nbC at hc
  split at hc
  next z =>
    split at hc
    next y => exact ⟨z, y⟩
    next => exact absurd hc (by decide)
  next => exact absurd hc (by decide)
theorem nb_n {b : Nat → Int32} {n e : Nat} {lo hi : Int32} (hc : ¬ nbC b n e lo hi = 0) : (¬ tK b n e = 3 ∧ nbC b n e lo hi = 1) ∨ (tK b n e = 3 ∧ ¬ (lo ≤ nbV b n e ∧ nbV b n e ≤ hi) ∧ nbC b n e lo hi = 2) := by
  unfold nbC at hc ⊢
  by_cases z : tK b n e = 3
  · right
    rw [if_pos z] at hc ⊢
    by_cases y : lo ≤ nbV b n e ∧ nbV b n e ≤ hi
    · rw [if_pos y] at hc; exact absurd rfl hc
    · rw [if_neg y]; exact ⟨z, y, rfl⟩
  · left
    rw [if_neg z]; exact ⟨z, rfl⟩
set_option maxHeartbeats 1000000 in
set_option maxRecDepth 4000 in
theorem p_snS {d n e : Nat} {b w N : Nat → Int32} {RR : OR9} {M0 M : Mem} {Q : Out → Mem → Prop} {lo hi : Int32} (h : PQ M0 M b n e w N RR) (hc : nbC b n e lo hi = 0) (hq : ∀ M', PQ M0 M' b n e w N RR → mI M' 11 0 18 = nbV b n e → Q (.inl (some (.int 1))) M') : WPc (d + 3) mX13_seesNumber [.ref (rf 11 0), .int lo, .int hi] M Q := by
  refine WPc.of (by decide +kernel) (Nat.le_of_ble_eq_true rfl) rfl ?_
  obtain ⟨k1, k2⟩ := nb_z hc
  refine R.aload_n dX13_seesNumber_0 rfl (by first | rfl | exact rfv_rf _) ?_
  refine R.getI dX13_seesNumber_1 fl_X13_203 (by decide) rfl ?_
  rw [h.t.2.2.1]
  refine R.iconst (v := 2) dX13_seesNumber_4 rfl ?_
  refine R.icmp_eq (tgt := 14) dX13_seesNumber_5 (by decide) (fun _ => ?_) (fun c9 => absurd ((tkM_c _).2.2.1.mpr k1) c9)
  refine R.aload_n dX13_seesNumber_14 rfl (by first | rfl | exact rfv_rf _) ?_
  refine R.getI dX13_seesNumber_15 fl_X13_200 (by decide) rfl ?_
  rw [h.t.2.2.2 k1]
  refine R.iload_n dX13_seesNumber_18 rfl ?_
  refine R.iload_n dX13_seesNumber_19 rfl ?_
  refine cl_X13_140 rfl rfl (by first | exact Nat.le_of_ble_eq_true rfl | simp [rf_cat, Value.category]) dX13_seesNumber_20 ?_
  refine m_inR ?_
  rw [if_pos k2]
  refine R.if_ne (tgt := 32) dX13_seesNumber_23 (by decide) (fun _ => ?_) (fun c9 => absurd c9 (by decide))
  refine R.aload_n dX13_seesNumber_32 rfl (by first | rfl | exact rfv_rf _) ?_
  refine R.aload_n dX13_seesNumber_33 rfl (by first | rfl | exact rfv_rf _) ?_
  refine R.getI dX13_seesNumber_34 fl_X13_200 (by decide) rfl ?_
  rw [h.t.2.2.2 k1]
  refine R.putI dX13_seesNumber_37 fl_X13_227 (fun q hq => by cases hq; exact Or.inl rfl) (by decide) rfl rfl rfl ?_
  refine R.iconst (v := 1) dX13_seesNumber_40 rfl ?_
  refine WP.ret (ov := some (.int _)) dX13_seesNumber_41 ⟨rfl, _, rfl, by first | rfl | assumption | exact nar_b01 (by assumption)⟩ ?_
  exact hq _ (h.got _) (by rw [mI_sI, if_pos ⟨rfl, rfl, rfl⟩])
set_option maxHeartbeats 1000000 in
set_option maxRecDepth 4000 in
theorem p_snN {d n e : Nat} {b w N : Nat → Int32} {RR : OR9} {M0 M : Mem} {Q : Out → Mem → Prop} {lo hi : Int32} (h : PQ M0 M b n e w N RR) (hc : ¬ nbC b n e lo hi = 0) (hq : ∀ M', PX M0 M' (nbC b n e lo hi) (tS b n e) w → Q (.inl (some (.int 0))) M') : WPc (d + 3) mX13_seesNumber [.ref (rf 11 0), .int lo, .int hi] M Q := by
  refine WPc.of (by decide +kernel) (Nat.le_of_ble_eq_true rfl) rfl ?_
  rcases nb_n hc with ⟨k1, k3⟩ | ⟨k1, k2, k3⟩
  · rw [k3] at hq
    refine R.aload_n dX13_seesNumber_0 rfl (by first | rfl | exact rfv_rf _) ?_
    refine R.getI dX13_seesNumber_1 fl_X13_203 (by decide) rfl ?_
    rw [h.t.2.2.1]
    refine R.iconst (v := 2) dX13_seesNumber_4 rfl ?_
    refine R.icmp_eq (tgt := 14) dX13_seesNumber_5 (by decide) (fun c9 => absurd c9 (fun q => k1 ((tkM_c _).2.2.1.mp q))) (fun _ => ?_)
    refine R.aload_n dX13_seesNumber_8 rfl (by first | rfl | exact rfv_rf _) ?_
    refine R.iconst (v := 1) dX13_seesNumber_9 rfl ?_
    refine cl_X13_224 rfl rfl (by first | exact Nat.le_of_ble_eq_true rfl | simp [rf_cat, Value.category]) dX13_seesNumber_10 ?_
    refine p_fail h (fun M2 h2 => ?_)
    refine WP.ret (ov := some (.int _)) dX13_seesNumber_13 ⟨rfl, _, rfl, by first | rfl | assumption | exact nar_b01 (by assumption)⟩ ?_
    exact hq M2 h2
  · rw [k3] at hq
    refine R.aload_n dX13_seesNumber_0 rfl (by first | rfl | exact rfv_rf _) ?_
    refine R.getI dX13_seesNumber_1 fl_X13_203 (by decide) rfl ?_
    rw [h.t.2.2.1]
    refine R.iconst (v := 2) dX13_seesNumber_4 rfl ?_
    refine R.icmp_eq (tgt := 14) dX13_seesNumber_5 (by decide) (fun _ => ?_) (fun c9 => absurd ((tkM_c _).2.2.1.mpr k1) c9)
    refine R.aload_n dX13_seesNumber_14 rfl (by first | rfl | exact rfv_rf _) ?_
    refine R.getI dX13_seesNumber_15 fl_X13_200 (by decide) rfl ?_
    rw [h.t.2.2.2 k1]
    refine R.iload_n dX13_seesNumber_18 rfl ?_
    refine R.iload_n dX13_seesNumber_19 rfl ?_
    refine cl_X13_140 rfl rfl (by first | exact Nat.le_of_ble_eq_true rfl | simp [rf_cat, Value.category]) dX13_seesNumber_20 ?_
    refine m_inR ?_
    rw [if_neg k2]
    refine R.if_ne (tgt := 32) dX13_seesNumber_23 (by decide) (fun c9 => absurd (rfl) c9) (fun _ => ?_)
    refine R.aload_n dX13_seesNumber_26 rfl (by first | rfl | exact rfv_rf _) ?_
    refine R.iconst (v := 2) dX13_seesNumber_27 rfl ?_
    refine cl_X13_224 rfl rfl (by first | exact Nat.le_of_ble_eq_true rfl | simp [rf_cat, Value.category]) dX13_seesNumber_28 ?_
    refine p_fail h (fun M2 h2 => ?_)
    refine WP.ret (ov := some (.int _)) dX13_seesNumber_31 ⟨rfl, _, rfl, by first | rfl | assumption | exact nar_b01 (by assumption)⟩ ?_
    exact hq M2 h2
set_option maxHeartbeats 1000000 in
set_option maxRecDepth 4000 in
theorem p_tnS {d n e : Nat} {b w N : Nat → Int32} {RR : OR9} {M0 M : Mem} {Q : Out → Mem → Prop} {lo hi : Int32} (h : PQ M0 M b n e w N RR) (hc : nbC b n e lo hi = 0) (hq : ∀ M', PQ M0 M' b n (tE b n e) w N RR → mI M' 11 0 18 = nbV b n e → Q (.inl (some (.int 1))) M') : WPc (d + 4) mX13_takesNumber [.ref (rf 11 0), .int lo, .int hi] M Q := by
  refine WPc.of (by decide +kernel) (Nat.le_of_ble_eq_true rfl) rfl ?_
  refine R.aload_n dX13_takesNumber_0 rfl (by first | rfl | exact rfv_rf _) ?_
  refine R.iload_n dX13_takesNumber_1 rfl ?_
  refine R.iload_n dX13_takesNumber_2 rfl ?_
  refine cl_X13_230 rfl rfl (by first | exact Nat.le_of_ble_eq_true rfl | simp [rf_cat, Value.category]) dX13_takesNumber_3 ?_
  refine p_snS h hc (fun M2 h2 g2 => ?_)
  refine R.if_ne (tgt := 11) dX13_takesNumber_6 (by decide) (fun _ => ?_) (fun c9 => absurd c9 (by decide))
  refine R.aload_n dX13_takesNumber_11 rfl (by first | rfl | exact rfv_rf _) ?_
  refine cl_X13_233 rfl rfl (by first | exact Nat.le_of_ble_eq_true rfl | simp [rf_cat, Value.category]) dX13_takesNumber_12 ?_
  refine m_adv h2.l h2.i h2.t.2.1 (tE_le h2.en) (fun M3 t3 F3 => ?_)
  refine R.iconst (v := 1) dX13_takesNumber_15 rfl ?_
  refine WP.ret (ov := some (.int _)) dX13_takesNumber_16 ⟨rfl, _, rfl, by first | rfl | assumption | exact nar_b01 (by assumption)⟩ ?_
  exact hq M3 (h2.adv F3 t3 (tE_le h2.en)) (by rw [F3.2.2.1 18 (by unfold tkP; omega)]; exact g2)
set_option maxHeartbeats 1000000 in
set_option maxRecDepth 4000 in
theorem p_tnN {d n e : Nat} {b w N : Nat → Int32} {RR : OR9} {M0 M : Mem} {Q : Out → Mem → Prop} {lo hi : Int32} (h : PQ M0 M b n e w N RR) (hc : ¬ nbC b n e lo hi = 0) (hq : ∀ M', PX M0 M' (nbC b n e lo hi) (tS b n e) w → Q (.inl (some (.int 0))) M') : WPc (d + 4) mX13_takesNumber [.ref (rf 11 0), .int lo, .int hi] M Q := by
  refine WPc.of (by decide +kernel) (Nat.le_of_ble_eq_true rfl) rfl ?_
  refine R.aload_n dX13_takesNumber_0 rfl (by first | rfl | exact rfv_rf _) ?_
  refine R.iload_n dX13_takesNumber_1 rfl ?_
  refine R.iload_n dX13_takesNumber_2 rfl ?_
  refine cl_X13_230 rfl rfl (by first | exact Nat.le_of_ble_eq_true rfl | simp [rf_cat, Value.category]) dX13_takesNumber_3 ?_
  refine p_snN h hc (fun M2 h2 => ?_)
  refine R.if_ne (tgt := 11) dX13_takesNumber_6 (by decide) (fun c9 => absurd (rfl) c9) (fun _ => ?_)
  refine R.iconst (v := 0) dX13_takesNumber_9 rfl ?_
  refine WP.ret (ov := some (.int _)) dX13_takesNumber_10 ⟨rfl, _, rfl, by first | rfl | assumption | exact nar_b01 (by assumption)⟩ ?_
  exact hq M2 h2
set_option maxHeartbeats 1000000 in
set_option maxRecDepth 4000 in
theorem p_tkS {d n e : Nat} {b w N : Nat → Int32} {RR : OR9} {M0 M : Mem} {Q : Out → Mem → Prop} {lo hi : Int32} {k : Nat} (h : PQ M0 M b n e w N RR) (hk : k < 4) (hc : nbC b n e lo hi = 0) (hq : ∀ M', PQ M0 M' b n (tE b n e) w (upW N k (nbV b n e)) RR → Q (.inl (some (.int 1))) M') : WPc (d + 5) mX13_takes [.ref (rf 11 0), .int (nI k), .int lo, .int hi] M Q := by
  refine WPc.of (by decide +kernel) (Nat.le_of_ble_eq_true rfl) rfl ?_
  refine R.aload_n dX13_takes_0 rfl (by first | rfl | exact rfv_rf _) ?_
  refine R.iload_n dX13_takes_1 rfl ?_
  refine R.iload_n dX13_takes_2 rfl ?_
  refine cl_X13_239 rfl rfl (by first | exact Nat.le_of_ble_eq_true rfl | simp [rf_cat, Value.category]) dX13_takes_3 ?_
  refine p_tnS h hc (fun M2 h2 g2 => ?_)
  refine R.if_ne (tgt := 11) dX13_takes_6 (by decide) (fun _ => ?_) (fun c9 => absurd c9 (by decide))
  refine R.aload_n dX13_takes_11 rfl (by first | rfl | exact rfv_rf _) ?_
  refine R.getS (h2.l.1.2.2.2.2.2.2.1) dX13_takes_12 fl_X13_32 (by decide) rfl ?_
  refine R.iload_n dX13_takes_15 rfl ?_
  refine R.aload_n dX13_takes_16 rfl (by first | rfl | exact rfv_rf _) ?_
  refine R.getI dX13_takes_17 fl_X13_227 (by decide) rfl ?_
  rw [g2]
  refine R.iastN (k := k) dX13_takes_20 (by omega) (by rw [h2.l.2.2.2.2.2.2.2.1]; omega) ?_
  refine R.iconst (v := 1) dX13_takes_21 rfl ?_
  refine WP.ret (ov := some (.int _)) dX13_takes_22 ⟨rfl, _, rfl, by first | rfl | assumption | exact nar_b01 (by assumption)⟩ ?_
  exact hq _ (h2.num k _)
set_option maxHeartbeats 1000000 in
set_option maxRecDepth 4000 in
theorem p_tkN {d n e : Nat} {b w N : Nat → Int32} {RR : OR9} {M0 M : Mem} {Q : Out → Mem → Prop} {lo hi : Int32} {k : Nat} (h : PQ M0 M b n e w N RR) (hc : ¬ nbC b n e lo hi = 0) (hq : ∀ M', PX M0 M' (nbC b n e lo hi) (tS b n e) w → Q (.inl (some (.int 0))) M') : WPc (d + 5) mX13_takes [.ref (rf 11 0), .int (nI k), .int lo, .int hi] M Q := by
  refine WPc.of (by decide +kernel) (Nat.le_of_ble_eq_true rfl) rfl ?_
  refine R.aload_n dX13_takes_0 rfl (by first | rfl | exact rfv_rf _) ?_
  refine R.iload_n dX13_takes_1 rfl ?_
  refine R.iload_n dX13_takes_2 rfl ?_
  refine cl_X13_239 rfl rfl (by first | exact Nat.le_of_ble_eq_true rfl | simp [rf_cat, Value.category]) dX13_takes_3 ?_
  refine p_tnN h hc (fun M2 h2 => ?_)
  refine R.if_ne (tgt := 11) dX13_takes_6 (by decide) (fun c9 => absurd (rfl) c9) (fun _ => ?_)
  refine R.iconst (v := 0) dX13_takes_9 rfl ?_
  refine WP.ret (ov := some (.int _)) dX13_takes_10 ⟨rfl, _, rfl, by first | rfl | assumption | exact nar_b01 (by assumption)⟩ ?_
  exact hq M2 h2
theorem nn_z {b : Nat → Int32} {n e : Nat} (hc : nnC b n e = 0) : tK b n e = 2 ∧ tE b n e - tS b n e ≤ 6 := by
  unfold nnC at hc
  split at hc
  · assumption
  · exact absurd hc (by decide)
theorem nn_n {b : Nat → Int32} {n e : Nat} (hc : ¬ nnC b n e = 0) : ¬ (tK b n e = 2 ∧ tE b n e - tS b n e ≤ 6) ∧ nnC b n e = 1 := by
  unfold nnC at hc ⊢
  split
  next z => rw [if_pos z] at hc; exact absurd rfl hc
  next z => exact ⟨z, rfl⟩
set_option maxHeartbeats 1000000 in
set_option maxRecDepth 4000 in
theorem p_nmS {d n e : Nat} {b w N : Nat → Int32} {RR : OR9} {M0 M : Mem} {Q : Out → Mem → Prop} (h : PQ M0 M b n e w N RR) (hc : nnC b n e = 0) (hq : Q (.inl (some (.int 1))) M) : WPc (d + 1) mX13_seesName [.ref (rf 11 0)] M Q := by
  refine WPc.of (by decide +kernel) (Nat.le_of_ble_eq_true rfl) rfl ?_
  obtain ⟨k1, k2⟩ := nn_z hc
  have hn6 := h.n6
  have hen := tE_le (b := b) h.en
  refine R.aload_n dX13_seesName_0 rfl (by first | rfl | exact rfv_rf _) ?_
  refine R.getI dX13_seesName_1 fl_X13_203 (by decide) rfl ?_
  rw [h.t.2.2.1]
  refine R.iconst (v := 1) dX13_seesName_4 rfl ?_
  refine R.icmp_ne (tgt := 22) dX13_seesName_5 (by decide) (fun c9 => absurd ((tkM_c _).2.1.mpr k1) c9) (fun _ => ?_)
  refine R.aload_n dX13_seesName_8 rfl (by first | rfl | exact rfv_rf _) ?_
  refine R.getI dX13_seesName_9 fl_X13_194 (by decide) rfl ?_
  rw [h.t.2.1]
  refine R.aload_n dX13_seesName_12 rfl (by first | rfl | exact rfv_rf _) ?_
  refine R.getI dX13_seesName_13 fl_X13_197 (by decide) rfl ?_
  rw [h.t.1]
  refine R.isub dX13_seesName_16 ?_
  rw [nI_sub tS_tE]
  refine R.bipush (v := nI 6) dX13_seesName_17 (by decide) ?_
  refine R.icmp_le (tgt := 30) dX13_seesName_19 (by decide) (fun _ => ?_) (fun c9 => absurd (nI_le k2 (by omega)) c9)
  refine R.iconst (v := 1) dX13_seesName_30 rfl ?_
  refine R.goto (tgt := 35) dX13_seesName_31 (by decide) ?_
  refine WP.ret (ov := some (.int _)) dX13_seesName_35 ⟨rfl, _, rfl, by first | rfl | assumption | exact nar_b01 (by assumption)⟩ ?_
  exact hq
set_option maxHeartbeats 1000000 in
set_option maxRecDepth 4000 in
theorem p_nmN {d n e : Nat} {b w N : Nat → Int32} {RR : OR9} {M0 M : Mem} {Q : Out → Mem → Prop} (h : PQ M0 M b n e w N RR) (hc : ¬ nnC b n e = 0) (hq : ∀ M', PX M0 M' (nnC b n e) (tS b n e) w → Q (.inl (some (.int 0))) M') : WPc (d + 1) mX13_seesName [.ref (rf 11 0)] M Q := by
  refine WPc.of (by decide +kernel) (Nat.le_of_ble_eq_true rfl) rfl ?_
  obtain ⟨k1, k2⟩ := nn_n hc
  have hn6 := h.n6
  have hen := tE_le (b := b) h.en
  rw [k2] at hq
  by_cases k3 : tK b n e = 2
  · have k4 : 6 < tE b n e - tS b n e := Nat.lt_of_not_le fun z => k1 ⟨k3, z⟩
    refine R.aload_n dX13_seesName_0 rfl (by first | rfl | exact rfv_rf _) ?_
    refine R.getI dX13_seesName_1 fl_X13_203 (by decide) rfl ?_
    rw [h.t.2.2.1]
    refine R.iconst (v := 1) dX13_seesName_4 rfl ?_
    refine R.icmp_ne (tgt := 22) dX13_seesName_5 (by decide) (fun c9 => absurd ((tkM_c _).2.1.mpr k3) c9) (fun _ => ?_)
    refine R.aload_n dX13_seesName_8 rfl (by first | rfl | exact rfv_rf _) ?_
    refine R.getI dX13_seesName_9 fl_X13_194 (by decide) rfl ?_
    rw [h.t.2.1]
    refine R.aload_n dX13_seesName_12 rfl (by first | rfl | exact rfv_rf _) ?_
    refine R.getI dX13_seesName_13 fl_X13_197 (by decide) rfl ?_
    rw [h.t.1]
    refine R.isub dX13_seesName_16 ?_
    rw [nI_sub tS_tE]
    refine R.bipush (v := nI 6) dX13_seesName_17 (by decide) ?_
    refine R.icmp_le (tgt := 30) dX13_seesName_19 (by decide) (fun c9 => absurd c9 (nI_ge k4 (by omega))) (fun _ => ?_)
    refine R.aload_n dX13_seesName_22 rfl (by first | rfl | exact rfv_rf _) ?_
    refine R.iconst (v := 1) dX13_seesName_23 rfl ?_
    refine cl_X13_224 rfl rfl (by first | exact Nat.le_of_ble_eq_true rfl | simp [rf_cat, Value.category]) dX13_seesName_24 ?_
    refine p_fail h (fun M2 h2 => ?_)
    refine R.if_eq (tgt := 34) dX13_seesName_27 (by decide) (fun _ => ?_) (fun c9 => absurd (rfl) c9)
    refine R.iconst (v := 0) dX13_seesName_34 rfl ?_
    refine WP.ret (ov := some (.int _)) dX13_seesName_35 ⟨rfl, _, rfl, by first | rfl | assumption | exact nar_b01 (by assumption)⟩ ?_
    exact hq M2 h2
  · skip
    refine R.aload_n dX13_seesName_0 rfl (by first | rfl | exact rfv_rf _) ?_
    refine R.getI dX13_seesName_1 fl_X13_203 (by decide) rfl ?_
    rw [h.t.2.2.1]
    refine R.iconst (v := 1) dX13_seesName_4 rfl ?_
    refine R.icmp_ne (tgt := 22) dX13_seesName_5 (by decide) (fun _ => ?_) (fun c9 => absurd c9 (fun q => k3 ((tkM_c _).2.1.mp q)))
    refine R.aload_n dX13_seesName_22 rfl (by first | rfl | exact rfv_rf _) ?_
    refine R.iconst (v := 1) dX13_seesName_23 rfl ?_
    refine cl_X13_224 rfl rfl (by first | exact Nat.le_of_ble_eq_true rfl | simp [rf_cat, Value.category]) dX13_seesName_24 ?_
    refine p_fail h (fun M2 h2 => ?_)
    refine R.if_eq (tgt := 34) dX13_seesName_27 (by decide) (fun _ => ?_) (fun c9 => absurd (rfl) c9)
    refine R.iconst (v := 0) dX13_seesName_34 rfl ?_
    refine WP.ret (ov := some (.int _)) dX13_seesName_35 ⟨rfl, _, rfl, by first | rfl | assumption | exact nar_b01 (by assumption)⟩ ?_
    exact hq M2 h2
set_option maxHeartbeats 1000000 in
set_option maxRecDepth 4000 in
theorem p_wdS {d n e : Nat} {b w N : Nat → Int32} {RR : OR9} {M0 M : Mem} {Q : Out → Mem → Prop} (h : PQ M0 M b n e w N RR) (hq : ∀ M', PQ M0 M' b n (tE b n e) w N RR → Q (.inl (some (.int 1))) M') : WPc (d + 3) mX13_takesWord [.ref (rf 11 0), .int 1] M Q := by
  refine WPc.of (by decide +kernel) (Nat.le_of_ble_eq_true rfl) rfl ?_
  refine R.iload_n dX13_takesWord_0 rfl ?_
  refine R.if_ne (tgt := 10) dX13_takesWord_1 (by decide) (fun _ => ?_) (fun c9 => absurd c9 (by decide))
  refine R.aload_n dX13_takesWord_10 rfl (by first | rfl | exact rfv_rf _) ?_
  refine cl_X13_233 rfl rfl (by first | exact Nat.le_of_ble_eq_true rfl | simp [rf_cat, Value.category]) dX13_takesWord_11 ?_
  refine p_adv h (fun M2 h2 => ?_)
  refine R.iconst (v := 1) dX13_takesWord_14 rfl ?_
  refine WP.ret (ov := some (.int _)) dX13_takesWord_15 ⟨rfl, _, rfl, by first | rfl | assumption | exact nar_b01 (by assumption)⟩ ?_
  exact hq M2 h2
set_option maxHeartbeats 1000000 in
set_option maxRecDepth 4000 in
theorem p_wdN {d n e : Nat} {b w N : Nat → Int32} {RR : OR9} {M0 M : Mem} {Q : Out → Mem → Prop} (h : PQ M0 M b n e w N RR) (hq : ∀ M', PX M0 M' (1) (tS b n e) w → Q (.inl (some (.int 0))) M') : WPc (d + 3) mX13_takesWord [.ref (rf 11 0), .int 0] M Q := by
  refine WPc.of (by decide +kernel) (Nat.le_of_ble_eq_true rfl) rfl ?_
  refine R.iload_n dX13_takesWord_0 rfl ?_
  refine R.if_ne (tgt := 10) dX13_takesWord_1 (by decide) (fun c9 => absurd (rfl) c9) (fun _ => ?_)
  refine R.aload_n dX13_takesWord_4 rfl (by first | rfl | exact rfv_rf _) ?_
  refine R.iconst (v := 1) dX13_takesWord_5 rfl ?_
  refine cl_X13_224 rfl rfl (by first | exact Nat.le_of_ble_eq_true rfl | simp [rf_cat, Value.category]) dX13_takesWord_6 ?_
  refine p_fail h (fun M2 h2 => ?_)
  refine WP.ret (ov := some (.int _)) dX13_takesWord_9 ⟨rfl, _, rfl, by first | rfl | assumption | exact nar_b01 (by assumption)⟩ ?_
  exact hq M2 h2
theorem kp_w {b : Nat → Int32} {n e i : Nat} (h : tK b n e = 2) (h1 : tS b n e ≤ i) (h2 : i < tE b n e) : kp b n i = 2 := by
  have hk : kp b n (tS b n e) = 2 := by
    unfold tK at h
    split at h
    · exact absurd h (by decide)
    · exact h
  have hE : tE b n e = runF (kp b n) 2 601 (tS b n e + 1) := by
    unfold tE
    rw [hk, if_neg (by decide), if_pos (Or.inl rfl)]
  by_cases z : i = tS b n e
  · rw [z]; exact hk
  · rw [hE] at h2
    exact runF_all 601 _ i (by omega) h2
set_option maxHeartbeats 2000000 in
set_option maxRecDepth 4000 in
theorem p_isW {d n e : Nat} {b w N : Nat → Int32} {RR : OR9} {M0 M : Mem} {Q : Out → Mem → Prop} {v : Nat} (h : PQ M0 M b n e w N RR) (hv : v < 47) (hq : Q (.inl (some (.int (if isW b (tS b n e) (tE b n e) (tK b n e) v = true then 1 else 0)))) M) : WPc (d + 4) mX13_isWord [.ref (rf 11 0), .ref (rf 21 v)] M Q := by
  refine WPc.of (by decide +kernel) (Nat.le_of_ble_eq_true rfl) rfl ?_
  have hn6 := h.n6
  have hen := tE_le (b := b) h.en
  have hse := tS_tE (b := b) (n := n) (e := e)
  have hsl := sLn_lt v hv
  unfold isW at hq
  by_cases k1 : tK b n e = 2
  · rw [decide_eq_true k1] at hq
    by_cases k2 : tE b n e - tS b n e = sLn v
    · rw [decide_eq_true k2] at hq
      have key : ∀ (f i : Nat), i + f = sLn v → Q (.inl (some (.int (if eqW b (tS b n e) v f i = true then 1 else 0)))) M → WP mX13_isWord (d + 4) 28 [.ref (rf 11 0), .ref (rf 21 v), .int (nI i)] [] M Q := by
        intro f
        induction f with
        | zero =>
          intro i hi hq2
          have ei : i = sLn v := by omega
          subst ei
          rw [eqW, if_pos rfl] at hq2
          refine R.iload_n dX13_isWord_28 rfl ?_
          refine R.aload_n dX13_isWord_29 rfl (by first | rfl | exact rfv_rf _) ?_
          refine cl_X13_215 hv rfl rfl (by first | exact Nat.le_of_ble_eq_true rfl | simp [rf_cat, Value.category]) dX13_isWord_30 ?_
          refine s_strLen hv ?_
          refine R.geT (tgt := 63) (Int32.le_refl _) dX13_isWord_33 (by decide) ?_
          refine R.iconst (v := 1) dX13_isWord_63 rfl ?_
          refine WP.ret (ov := some (.int _)) dX13_isWord_64 ⟨rfl, _, rfl, by first | rfl | assumption | exact nar_b01 (by assumption)⟩ ?_
          exact hq2
        | succ f ih =>
          intro i hi hq2
          have hil : i < sLn v := by omega
          have eb : mI M 14 5 (tS b n e + i) = b (tS b n e + i) := (ub_b h.i (Or.inl (kp_w k1 (by omega) (by omega)))).2
          rw [eqW] at hq2
          by_cases ce : b (tS b n e + i) = sB v i
          · rw [decide_eq_true ce, Bool.true_and] at hq2
            refine R.iload_n dX13_isWord_28 rfl ?_
            refine R.aload_n dX13_isWord_29 rfl (by first | rfl | exact rfv_rf _) ?_
            refine cl_X13_215 hv rfl rfl (by first | exact Nat.le_of_ble_eq_true rfl | simp [rf_cat, Value.category]) dX13_isWord_30 ?_
            refine s_strLen hv ?_
            refine R.geF (tgt := 63) (nI_ge hil (by omega)) dX13_isWord_33 (by decide) ?_
            refine R.aload_n dX13_isWord_36 rfl (by first | rfl | exact rfv_rf _) ?_
            refine R.getS (h.l.1.2.2.2.2.2.1) dX13_isWord_37 fl_X13_25 (by decide) rfl ?_
            refine R.aload_n dX13_isWord_40 rfl (by first | rfl | exact rfv_rf _) ?_
            refine R.getI dX13_isWord_41 fl_X13_197 (by decide) rfl ?_
            rw [h.t.1]
            refine R.iload_n dX13_isWord_44 rfl ?_
            refine R.iadd dX13_isWord_45 ?_
            rw [nI_add9]
            refine R.ialdN (k := tS b n e + i) dX13_isWord_46 (by omega) (by rw [h.l.2.2.2.2.2.2.1]; omega) ?_
            rw [eb]
            refine R.aload_n dX13_isWord_47 rfl (by first | rfl | exact rfv_rf _) ?_
            refine R.iload_n dX13_isWord_48 rfl ?_
            refine cl_X13_220 hv rfl rfl (by first | exact Nat.le_of_ble_eq_true rfl | simp [rf_cat, Value.category]) dX13_isWord_49 ?_
            refine s_chAt hv hil ?_
            refine R.icmp_eq (tgt := 57) dX13_isWord_52 (by decide) (fun _ => ?_) (fun c9 => absurd (ce) c9)
            refine R.iinc dX13_isWord_57 (Nat.le_of_ble_eq_true rfl) (by decide) (by first | rfl | simp [lft, rf_cat]) rfl (inc_nI _) rfl ?_
            refine R.goto (tgt := 28) dX13_isWord_60 (by decide) ?_
            exact ih (i + 1) (by omega) hq2
          · rw [decide_eq_false ce, Bool.false_and, if_neg (by decide)] at hq2
            refine R.iload_n dX13_isWord_28 rfl ?_
            refine R.aload_n dX13_isWord_29 rfl (by first | rfl | exact rfv_rf _) ?_
            refine cl_X13_215 hv rfl rfl (by first | exact Nat.le_of_ble_eq_true rfl | simp [rf_cat, Value.category]) dX13_isWord_30 ?_
            refine s_strLen hv ?_
            refine R.geF (tgt := 63) (nI_ge hil (by omega)) dX13_isWord_33 (by decide) ?_
            refine R.aload_n dX13_isWord_36 rfl (by first | rfl | exact rfv_rf _) ?_
            refine R.getS (h.l.1.2.2.2.2.2.1) dX13_isWord_37 fl_X13_25 (by decide) rfl ?_
            refine R.aload_n dX13_isWord_40 rfl (by first | rfl | exact rfv_rf _) ?_
            refine R.getI dX13_isWord_41 fl_X13_197 (by decide) rfl ?_
            rw [h.t.1]
            refine R.iload_n dX13_isWord_44 rfl ?_
            refine R.iadd dX13_isWord_45 ?_
            rw [nI_add9]
            refine R.ialdN (k := tS b n e + i) dX13_isWord_46 (by omega) (by rw [h.l.2.2.2.2.2.2.1]; omega) ?_
            rw [eb]
            refine R.aload_n dX13_isWord_47 rfl (by first | rfl | exact rfv_rf _) ?_
            refine R.iload_n dX13_isWord_48 rfl ?_
            refine cl_X13_220 hv rfl rfl (by first | exact Nat.le_of_ble_eq_true rfl | simp [rf_cat, Value.category]) dX13_isWord_49 ?_
            refine s_chAt hv hil ?_
            refine R.icmp_eq (tgt := 57) dX13_isWord_52 (by decide) (fun c9 => absurd c9 (ce)) (fun _ => ?_)
            refine R.iconst (v := 0) dX13_isWord_55 rfl ?_
            refine WP.ret (ov := some (.int _)) dX13_isWord_56 ⟨rfl, _, rfl, by first | rfl | assumption | exact nar_b01 (by assumption)⟩ ?_
            exact hq2
      refine R.aload_n dX13_isWord_0 rfl (by first | rfl | exact rfv_rf _) ?_
      refine R.getI dX13_isWord_1 fl_X13_203 (by decide) rfl ?_
      rw [h.t.2.2.1]
      refine R.iconst (v := 1) dX13_isWord_4 rfl ?_
      refine R.icmp_ne (tgt := 24) dX13_isWord_5 (by decide) (fun c9 => absurd ((tkM_c _).2.1.mpr k1) c9) (fun _ => ?_)
      refine R.aload_n dX13_isWord_8 rfl (by first | rfl | exact rfv_rf _) ?_
      refine R.getI dX13_isWord_9 fl_X13_194 (by decide) rfl ?_
      rw [h.t.2.1]
      refine R.aload_n dX13_isWord_12 rfl (by first | rfl | exact rfv_rf _) ?_
      refine R.getI dX13_isWord_13 fl_X13_197 (by decide) rfl ?_
      rw [h.t.1]
      refine R.isub dX13_isWord_16 ?_
      rw [nI_sub tS_tE]
      refine R.aload_n dX13_isWord_17 rfl (by first | rfl | exact rfv_rf _) ?_
      refine cl_X13_215 hv rfl rfl (by first | exact Nat.le_of_ble_eq_true rfl | simp [rf_cat, Value.category]) dX13_isWord_18 ?_
      refine s_strLen hv ?_
      refine R.icmp_eq (tgt := 26) dX13_isWord_21 (by decide) (fun _ => ?_) (fun c9 => absurd (by rw [k2]) c9)
      refine R.iconst (v := nI 0) dX13_isWord_26 rfl ?_
      refine R.istore_n dX13_isWord_27 (Nat.le_of_ble_eq_true rfl) (by decide) (by first | rfl | simp [lft, rf_cat]) rfl ?_
      exact key (sLn v) 0 (by omega) (by simpa using hq)
    · rw [decide_eq_false k2, Bool.false_and, Bool.and_false, if_neg (by decide)] at hq
      refine R.aload_n dX13_isWord_0 rfl (by first | rfl | exact rfv_rf _) ?_
      refine R.getI dX13_isWord_1 fl_X13_203 (by decide) rfl ?_
      rw [h.t.2.2.1]
      refine R.iconst (v := 1) dX13_isWord_4 rfl ?_
      refine R.icmp_ne (tgt := 24) dX13_isWord_5 (by decide) (fun c9 => absurd ((tkM_c _).2.1.mpr k1) c9) (fun _ => ?_)
      refine R.aload_n dX13_isWord_8 rfl (by first | rfl | exact rfv_rf _) ?_
      refine R.getI dX13_isWord_9 fl_X13_194 (by decide) rfl ?_
      rw [h.t.2.1]
      refine R.aload_n dX13_isWord_12 rfl (by first | rfl | exact rfv_rf _) ?_
      refine R.getI dX13_isWord_13 fl_X13_197 (by decide) rfl ?_
      rw [h.t.1]
      refine R.isub dX13_isWord_16 ?_
      rw [nI_sub tS_tE]
      refine R.aload_n dX13_isWord_17 rfl (by first | rfl | exact rfv_rf _) ?_
      refine cl_X13_215 hv rfl rfl (by first | exact Nat.le_of_ble_eq_true rfl | simp [rf_cat, Value.category]) dX13_isWord_18 ?_
      refine s_strLen hv ?_
      refine R.icmp_eq (tgt := 26) dX13_isWord_21 (by decide) (fun c9 => absurd c9 (fun q => k2 ((nI_inj (by omega) (by omega)).mp q))) (fun _ => ?_)
      refine R.iconst (v := 0) dX13_isWord_24 rfl ?_
      refine WP.ret (ov := some (.int _)) dX13_isWord_25 ⟨rfl, _, rfl, by first | rfl | assumption | exact nar_b01 (by assumption)⟩ ?_
      exact hq
  · rw [decide_eq_false k1, Bool.false_and, if_neg (by decide)] at hq
    refine R.aload_n dX13_isWord_0 rfl (by first | rfl | exact rfv_rf _) ?_
    refine R.getI dX13_isWord_1 fl_X13_203 (by decide) rfl ?_
    rw [h.t.2.2.1]
    refine R.iconst (v := 1) dX13_isWord_4 rfl ?_
    refine R.icmp_ne (tgt := 24) dX13_isWord_5 (by decide) (fun _ => ?_) (fun c9 => absurd c9 (fun q => k1 ((tkM_c _).2.1.mp q)))
    refine R.iconst (v := 0) dX13_isWord_24 rfl ?_
    refine WP.ret (ov := some (.int _)) dX13_isWord_25 ⟨rfl, _, rfl, by first | rfl | assumption | exact nar_b01 (by assumption)⟩ ?_
    exact hq
