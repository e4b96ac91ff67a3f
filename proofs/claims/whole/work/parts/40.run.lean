/-! a script run; what was remembered -/
def rnF : List St → Nat → Yd → Nat × Yd
  | [], i, Y => (i, Y)
  | t :: ts, i, Y => if (exY Y t).1 = 0 then (i, (exY Y t).2) else rnF ts (i + 1) (exY Y t).2
theorem yF_rdY (Y : Yd) (i : Nat) : yF (rdY Y i).2 = yF Y := by
  unfold rdY
  split <;> rfl
theorem yP_rdY (Y : Yd) (i : Nat) : yP (rdY Y i).2 = yP Y := by
  unfold rdY
  split <;> rfl
theorem yF_tkY (Y : Yd) (i : Nat) : yF (tkY Y i).2 = yF Y := yF_rdY _ i
theorem yP_tkY (Y : Yd) (i : Nat) : yP (tkY Y i).2 = yP Y := yP_rdY _ i
theorem yF_tkN (i : Nat) : ∀ (t : Nat) (Y : Yd), yF (tkN i t Y) = yF Y := by
  intro t
  induction t with
  | zero => intro Y; rfl
  | succ t ih => intro Y; rw [tkN, ih, yF_tkY]
theorem yP_tkN (i : Nat) : ∀ (t : Nat) (Y : Yd), yP (tkN i t Y) = yP Y := by
  intro t
  induction t with
  | zero => intro Y; rfl
  | succ t ih => intro Y; rw [tkN, ih, yP_tkY]
theorem yF_saF (t : Nat) : ∀ (k i : Nat) (Y : Yd), yF (saF t k i Y) = yF Y := by
  intro k
  induction k with
  | zero => intro i Y; rfl
  | succ k ih => intro i Y; rw [saF, ih]; split <;> rfl
theorem yP_saF (t : Nat) : ∀ (k i : Nat) (Y : Yd), yP (saF t k i Y) = yP Y := by
  intro k
  induction k with
  | zero => intro i Y; rfl
  | succ k ih => intro i Y; rw [saF, ih]; split <;> rfl
theorem yF_neY (Y : Yd) (i o : Nat) (f : Nat) (hf : f ≠ 8) : yF (neY Y i o) f = yF Y f := by
  unfold neY
  rw [yF_awO]
  show yF (uC (uF (uP _ i (some o)) 8 _) i 6 _) f = _
  rw [yF_uC, yF_uF, if_neg hf, yF_uP, yF_awO]
theorem yF_unY (Y : Yd) (i : Nat) : yF (unY Y i) = yF Y := by
  unfold unY
  rw [yF_uP, yF_awO]
theorem yF_cgY (Y : Yd) (i : Nat) (w : Int32) : yF (cgY Y i w) = yF Y := by
  unfold cgY
  rw [yF_awO, yF_uC]
theorem yP_cgY (Y : Yd) (i : Nat) (w : Int32) : yP (cgY Y i w) = yP Y := by
  unfold cgY
  rw [yP_awO, yP_uC]
theorem yF_trY (Y : Yd) (i b : Nat) : yF (trY Y i b) = yF Y := by
  unfold trY
  rw [yF_saF]; rfl
theorem yP_trY (Y : Yd) (i b : Nat) : yP (trY Y i b) = yP Y := by
  unfold trY
  rw [yP_saF]; rfl
theorem acy_eq {Y Z : Yd} (e : yP Z = yP Y) (h : Acy Y) : Acy Z := by
  intro i hi
  rw [e]; exact h i hi
theorem exY_ind (P : Yd → Prop) (Y : Yd) (t : St) (h0 : P Y) (h1 : P (spY Y)) (h2 : P (uS Y 1 t.2.2.2)) (h3 : P (uS Y 2 t.2.2.2)) (h4 : P (tkN t.2.1 t.2.2.2.toNatClampNeg Y)) (h5 : ¬ yC Y t.2.1 7 = 0 ∧ yC Y t.2.1 3 + t.2.2.2 ≤ 500 → P (cgY Y t.2.1 t.2.2.2)) (h6 : ¬ yC Y t.2.1 7 = 0 ∧ t.2.2.2 ≤ yC Y t.2.1 3 → P (cgY Y t.2.1 (-t.2.2.2))) (h7 : t.1 = 3 → ¬ yCan Y t.2.1 t.2.2.1 = 0 → P (neY Y t.2.1 t.2.2.1)) (h8 : t.1 = 4 → ¬ yC Y t.2.1 7 = 0 → ¬ yP Y t.2.1 = none → P (unY Y t.2.1)) (h9 : yRef Y t.2.1 t.2.2.1 = 0 → P (trY Y t.2.1 t.2.2.1)) : P (exY Y t).2 := by
  unfold exY
  split
  · exact h1
  split
  · exact h2
  split
  · exact h3
  split
  · exact h0
  next z =>
    split
    · exact h4
    split
    · split
      · next w => exact h5 w
      · exact h0
    split
    · split
      · next w => exact h6 w
      · exact h0
    split
    · next e3 =>
      split
      · exact h0
      · next w => exact h7 e3 w
    split
    · next e4 =>
      split
      · exact h0
      · next w => exact h8 e4 z (by rw [w]; simp)
    split
    · next w => exact h9 w
    · exact h0
theorem yF_exY (Y : Yd) (t : St) (f : Nat) (hf : f ≠ 8) : yF (exY Y t).2 f = yF Y f := by
  refine exY_ind (fun Z => yF Z f = yF Y f) Y t rfl ?_ ?_ ?_ ?_ (fun _ => ?_) (fun _ => ?_) (fun _ _ => ?_) (fun _ _ _ => ?_) (fun _ => ?_)
  · rfl
  · rfl
  · rfl
  · show yF _ f = _; rw [yF_tkN]
  · show yF _ f = _; rw [yF_cgY]
  · show yF _ f = _; rw [yF_cgY]
  · exact yF_neY Y _ _ f hf
  · show yF _ f = _; rw [yF_unY]
  · show yF _ f = _; rw [yF_trY]
theorem acy_exY {Y : Yd} {t : St} (hA : Acy Y) (hC : CV Y t) : Acy (exY Y t).2 := by
  refine exY_ind Acy Y t hA ?_ ?_ ?_ ?_ (fun _ => ?_) (fun _ => ?_) (fun e3 w => ?_) (fun _ _ _ => ?_) (fun _ => ?_)
  · exact hA
  · exact hA
  · exact hA
  · exact acy_eq (yP_tkN _ _ _) hA
  · exact acy_eq (yP_cgY _ _ _) hA
  · exact acy_eq (yP_cgY _ _ _) hA
  · have h1 := (hC.1 (by rw [e3]; rfl)).1
    have h2 := (hC.2.1 e3).1
    have h3 := (can_iff hA h1).mp w
    exact acy_can hA h1 h2 h3.2.2.1 h3.2.2.2
  · exact acy_un hA
  · exact acy_eq (yP_trY _ _ _) hA
theorem CV.keep {Y Z : Yd} {t : St} (h4 : yF Z 4 = yF Y 4) (h5 : yF Z 5 = yF Y 5) (h : CV Y t) : CV Z t := by
  unfold CV at h ⊢
  rw [h4, h5]
  exact h
set_option maxHeartbeats 1000000 in
set_option maxRecDepth 4000 in
theorem s_scRun {d : Nat} {Y : Yd} {ts : List St} {M : Mem} {Q : Out → Mem → Prop} (h : Yv M 0 Y) (l : SLay M) (hN : mI M 4 0 3 = nI ts.length) (hS : SAll M ts) (hA : Acy Y) (hC : ∀ t ∈ ts, CV Y t) (hq : ∀ M', Yv M' 0 (rnF ts 0 Y).2 → Fr (inY 0) M M' → Q (.inl (some (.int (nI (rnF ts 0 Y).1)))) M') : WPc (d + 7) mX5_run [.ref (rf 4 0)] M Q := by
  refine WPc.of (by decide +kernel) (Nat.le_of_ble_eq_true rfl) rfl ?_
  have hlen := hS.1
  have key : ∀ (us : List St) (i : Nat) (M1 : Mem) (Y1 : Yd), i + us.length = ts.length → (∀ j, ts[i + j]? = us[j]?) → Yv M1 0 Y1 → SLay M1 → mI M1 4 0 3 = nI ts.length → SAll M1 ts → Acy Y1 → (∀ t ∈ ts, CV Y1 t) → Fr (inY 0) M M1 → (∀ M', Yv M' 0 (rnF us i Y1).2 → Fr (inY 0) M M' → Q (.inl (some (.int (nI (rnF us i Y1).1)))) M') → WP mX5_run (d + 7) 2 [.ref (rf 4 0), .int (nI i)] [] M1 Q := by
    intro us
    induction us with
    | nil =>
      intro i M1 Y1 hl hd h1 l hN hS hA hC F1 hq
      have hi0 : i = ts.length := by simpa using hl
      by_cases h30 : ts.length = 30
      · rw [show (rnF [] i Y1) = (i, Y1) from rfl] at hq
        rw [hi0] at hq
        refine R.iload_n dX5_run_2 rfl ?_
        refine R.bipush (v := nI 30) dX5_run_3 (by decide) ?_
        refine R.geT (tgt := 40) (by rw [hi0, h30]; exact Int32.le_refl _) dX5_run_5 (by decide) ?_
        refine R.aload_n dX5_run_40 rfl (by first | rfl | exact rfv_rf _) ?_
        refine R.getI dX5_run_41 fl_X5_26 (by decide) rfl ?_
        rw [hN]
        refine WP.ret (ov := some (.int _)) dX5_run_44 ⟨rfl, _, rfl, by first | rfl | assumption | exact nar_b01 (by assumption)⟩ ?_
        exact hq _ h1 F1
      · rw [show (rnF [] i Y1) = (i, Y1) from rfl] at hq
        refine R.iload_n dX5_run_2 rfl ?_
        refine R.bipush (v := nI 30) dX5_run_3 (by decide) ?_
        refine R.geF (tgt := 40) (nI_ge (show i < 30 by omega) (by decide)) dX5_run_5 (by decide) ?_
        refine R.iload_n dX5_run_8 rfl ?_
        refine R.aload_n dX5_run_9 rfl (by first | rfl | exact rfv_rf _) ?_
        refine R.getI dX5_run_10 fl_X5_26 (by decide) rfl ?_
        rw [hN]
        refine R.geT (tgt := 40) (by rw [hi0]; exact Int32.le_refl _) dX5_run_13 (by decide) ?_
        refine R.aload_n dX5_run_40 rfl (by first | rfl | exact rfv_rf _) ?_
        refine R.getI dX5_run_41 fl_X5_26 (by decide) rfl ?_
        rw [hN]
        refine WP.ret (ov := some (.int _)) dX5_run_44 ⟨rfl, _, rfl, by first | rfl | assumption | exact nar_b01 (by assumption)⟩ ?_
        rw [hi0] at hq
        exact hq _ h1 F1
    | cons t us ih =>
      intro i M1 Y1 hl hd h1 l hN hS hA hC F1 hq
      have h30 : i < 30 := by simp at hl; omega
      have hlt : i < ts.length := by simp at hl; omega
      have het : ts[i]? = some t := by have := hd 0; simpa using this
      have he : t ∈ ts := List.mem_of_getElem? het
      rw [rnF] at hq
      refine R.iload_n dX5_run_2 rfl ?_
      refine R.bipush (v := nI 30) dX5_run_3 (by decide) ?_
      refine R.geF (tgt := 40) (nI_ge (show i < 30 by omega) (by decide)) dX5_run_5 (by decide) ?_
      refine R.iload_n dX5_run_8 rfl ?_
      refine R.aload_n dX5_run_9 rfl (by first | rfl | exact rfv_rf _) ?_
      refine R.getI dX5_run_10 fl_X5_26 (by decide) rfl ?_
      rw [hN]
      refine R.geF (tgt := 40) (nI_ge (show i < ts.length by omega) (by omega)) dX5_run_13 (by decide) ?_
      refine R.aload_n dX5_run_16 rfl (by first | rfl | exact rfv_rf _) ?_
      refine R.getS (l.2.2.1) dX5_run_17 fl_X5_11 (by decide) rfl ?_
      refine R.iload_n dX5_run_20 rfl ?_
      refine R.aalS (by rw [nI_clamp (by omega)]; exact l.2.2.2.2 _ h30) (by decide) (by decide) dX5_run_21 (nI_pos (by omega)) (by rw [nI_clamp (by omega), l.2.2.2.1]; exact h30) ?_
      refine R.aload_n dX5_run_22 rfl (by first | rfl | exact rfv_rf _) ?_
      refine R.getS (l.2.1) dX5_run_23 fl_X5_21 (by decide) rfl ?_
      refine cl_X5_56 rfl rfl (by first | exact Nat.le_of_ble_eq_true rfl | simp [rf_cat, Value.category]) dX5_run_26 ?_
      refine s_stEx h1 (hS.2 i t het) hA (hC _ he) (fun M2 h2 F2 => ?_)
      refine R.if_ne (tgt := 34) dX5_run_29 (by decide) (fun c29 => ?_) (fun c29 => ?_)
      · rw [if_neg c29] at hq
        refine R.iinc dX5_run_34 (Nat.le_of_ble_eq_true rfl) (by decide) (by first | rfl | simp [lft, rf_cat]) rfl (inc_nI _) rfl ?_
        refine R.goto (tgt := 2) dX5_run_37 (by decide) ?_
        exact ih (i + 1) _ _ (by simp at hl; omega) (fun j => by rw [show i + 1 + j = i + (j + 1) by omega, hd (j + 1)]; rfl) h2 (l.fr F2 (by unfold inY; omega) (by unfold inY; omega)) (by rw [(F2.2.2.2.2 4 0 (by unfold inY; omega)).1]; exact hN) (hS.fr F2 (fun j _ => by unfold inY; omega)) (acy_exY hA (hC _ he)) (fun t9 ht9 => (hC t9 ht9).keep (yF_exY _ _ 4 (by decide)) (yF_exY _ _ 5 (by decide))) (F1.tr F2) hq
      · rw [if_pos c29] at hq
        refine R.iload_n dX5_run_32 rfl ?_
        refine WP.ret (ov := some (.int _)) dX5_run_33 ⟨rfl, _, rfl, by first | rfl | assumption | exact nar_b01 (by assumption)⟩ ?_
        exact hq _ h2 (F1.tr F2)
  refine R.iconst (v := 0) dX5_run_0 rfl ?_
  refine R.istore_n dX5_run_1 (Nat.le_of_ble_eq_true rfl) (by decide) (by first | rfl | simp [lft, rf_cat]) rfl ?_
  exact key ts 0 M Y (by omega) (fun j => by rw [Nat.zero_add]) h l hN hS hA hC (Fr.rf _ _) hq
