/-! a yard emptied, a yard copied -/
def blY : Yd := (fun i f => if f = 0 then nI i else 0, fun _ _ => 0, fun _ => none, fun j f => if f = 0 then nI j else 0, fun f => if f = 0 then 1 else if f = 1 then 5 else if f = 2 then 50 else 0, fun _ => 0, fun f => if f = 6 then 2 else 0)
def eqC (Y Z : Yd) (i : Nat) : Prop := (∀ f, vC f = true → yC Y i f = yC Z i f) ∧ (∀ f, vL f = true → yL Y i f = yL Z i f) ∧ yP Y i = yP Z i
def eqB (Y Z : Yd) (j : Nat) : Prop := ∀ f, vB f = true → yB Y j f = yB Z j f
def eqR (Y Z : Yd) : Prop := (∀ f, vS f = true → yS Y f = yS Z f) ∧ (∀ f, vT f = true → yT Y f = yT Z f) ∧ ∀ f, vF f = true → yF Y f = yF Z f
theorem nf_bl : Nf blY := by
  refine ⟨fun i hi f hf => ?_, fun _ _ _ _ => rfl, fun j hj f hf => ?_, fun f hf => ?_, fun _ _ => rfl, fun f hf => ?_⟩
  · show (if f = 0 then nI i else 0) = 0
    rw [if_neg]; intro e; rw [e] at hf; exact absurd hf (by decide)
  · show (if f = 0 then nI j else 0) = 0
    rw [if_neg]; intro e; rw [e] at hf; exact absurd hf (by decide)
  · show (if f = 0 then 1 else if f = 1 then 5 else if f = 2 then 50 else 0) = (0 : Int32)
    rw [if_neg, if_neg, if_neg] <;> (intro e; rw [e] at hf; exact absurd hf (by decide))
  · show (if f = 6 then 2 else 0) = (0 : Int32)
    rw [if_neg]; intro e; rw [e] at hf; exact absurd hf (by decide)
theorem Yv.eqs {M : Mem} {y : Nat} {Y Z : Yd} (h : Yv M y Y) (nz : Nf Z) (h1 : ∀ i, i < 16 → eqC Y Z i) (h2 : ∀ j, j < 6 → eqB Y Z j) (h3 : eqR Y Z) : Yv M y Z :=
  h.cong nz (fun i hi => (h1 i hi).1) (fun i hi => (h1 i hi).2.1) (fun i hi => (h1 i hi).2.2) h2 h3.1 h3.2.1 h3.2.2
def cpyY (Y Z : Yd) (i : Nat) : Yd := uC (uC (uL (uL (uC (uC (uC (uC (uC (uC (uC Y i 1 (yC Z i 1)) i 2 (yC Z i 2)) i 3 (yC Z i 3)) i 4 (yC Z i 4)) i 6 (yC Z i 6)) i 7 (yC Z i 7)) i 8 (yC Z i 8)) i 9 (yL Z i 9)) i 10 (yL Z i 10)) i 11 (yC Z i 11)) i 12 (yC Z i 12)
def cpyB (Y Z : Yd) (j : Nat) : Yd := uB (uB (uB (uB (uB Y j 1 (yB Z j 1)) j 2 (yB Z j 2)) j 3 (yB Z j 3)) j 4 (yB Z j 4)) j 5 (yB Z j 5)
def cpyS (Y Z : Yd) : Yd := uS (uS (uS (uS Y 0 (yS Z 0)) 1 (yS Z 1)) 2 (yS Z 2)) 3 (yS Z 3)
def cpyT (Y Z : Yd) : Yd := uT (uT (uT (uT (uT (uT (uT Y 0 (yT Z 0)) 1 (yT Z 1)) 2 (yT Z 2)) 3 (yT Z 3)) 4 (yT Z 4)) 5 (yT Z 5)) 6 (yT Z 6)
theorem Yv.ccpy {M : Mem} {y z : Nat} {Y Z : Yd} {i : Nat} (h : Yv M y Y) (g : Yv M z Z) (hn : ¬ z = y) (hi : i < 16) (hx : ¬ 16 * z + i = 16 * y + i) : Yv (cCopy M (16 * y + i) (16 * z + i)) y (cpyY Y Z i) := by
  refine Yv.tC ?_ hi (by decide) (by decide) (fun _ => by simp [mI_sI, mI_sL, hx, g.rC hi])
  refine Yv.tC ?_ hi (by decide) (by decide) (fun _ => by simp [mI_sI, mI_sL, hx, g.rC hi])
  refine YtL ?_ hi (by decide) (fun _ => by simp [mL_sI, mL_sL, hx, g.rL hi])
  refine YtL ?_ hi (by decide) (fun _ => by simp [mL_sI, mL_sL, hx, g.rL hi])
  refine Yv.tC ?_ hi (by decide) (by decide) (fun _ => by simp [mI_sI, mI_sL, hx, g.rC hi])
  refine Yv.tC ?_ hi (by decide) (by decide) (fun _ => by simp [mI_sI, mI_sL, hx, g.rC hi])
  refine Yv.tC ?_ hi (by decide) (by decide) (fun _ => by simp [mI_sI, mI_sL, hx, g.rC hi])
  refine Yv.tC ?_ hi (by decide) (by decide) (fun _ => by simp [mI_sI, mI_sL, hx, g.rC hi])
  refine Yv.tC ?_ hi (by decide) (by decide) (fun _ => by simp [mI_sI, mI_sL, hx, g.rC hi])
  refine Yv.tC ?_ hi (by decide) (by decide) (fun _ => by simp [mI_sI, mI_sL, hx, g.rC hi])
  refine Yv.tC ?_ hi (by decide) (by decide) (fun _ => by simp [mI_sI, mI_sL, hx, g.rC hi])
  exact h
theorem Fr.ccpy {M M0 : Mem} {y z : Nat} {i : Nat} (h : Fr (inY y) M0 M) (hi : i < 16) : Fr (inY y) M0 (cCopy M (16 * y + i) (16 * z + i)) := by
  refine Fr.sI ?_ (inY_C hi)
  refine Fr.sI ?_ (inY_C hi)
  refine Fr.sL ?_ (inY_C hi)
  refine Fr.sL ?_ (inY_C hi)
  refine Fr.sI ?_ (inY_C hi)
  refine Fr.sI ?_ (inY_C hi)
  refine Fr.sI ?_ (inY_C hi)
  refine Fr.sI ?_ (inY_C hi)
  refine Fr.sI ?_ (inY_C hi)
  refine Fr.sI ?_ (inY_C hi)
  refine Fr.sI ?_ (inY_C hi)
  exact h
theorem Yv.bcpy {M : Mem} {y z : Nat} {Y Z : Yd} {i : Nat} (h : Yv M y Y) (g : Yv M z Z) (hn : ¬ z = y) (hi : i < 6) (hx : ¬ 6 * z + i = 6 * y + i) : Yv (bCopy M (6 * y + i) (6 * z + i)) y (cpyB Y Z i) := by
  refine Yv.tB ?_ hi (by decide) (by decide) (fun _ => by simp [mI_sI, hx, g.rB hi])
  refine Yv.tB ?_ hi (by decide) (by decide) (fun _ => by simp [mI_sI, hx, g.rB hi])
  refine Yv.tB ?_ hi (by decide) (by decide) (fun _ => by simp [mI_sI, hx, g.rB hi])
  refine Yv.tB ?_ hi (by decide) (by decide) (fun _ => by simp [mI_sI, hx, g.rB hi])
  refine Yv.tB ?_ hi (by decide) (by decide) (fun _ => by simp [mI_sI, hx, g.rB hi])
  exact h
theorem Fr.bcpy {M M0 : Mem} {y z : Nat} {i : Nat} (h : Fr (inY y) M0 M) (hi : i < 6) : Fr (inY y) M0 (bCopy M (6 * y + i) (6 * z + i)) := by
  refine Fr.sI ?_ (inY_B hi)
  refine Fr.sI ?_ (inY_B hi)
  refine Fr.sI ?_ (inY_B hi)
  refine Fr.sI ?_ (inY_B hi)
  refine Fr.sI ?_ (inY_B hi)
  exact h
theorem Yv.scpy {M : Mem} {y z : Nat} {Y Z : Yd} (h : Yv M y Y) (g : Yv M z Z) (hn : ¬ z = y)  : Yv (sCopy M y z) y (cpyS Y Z) := by
  refine Yv.tS ?_ (by decide) (fun _ => by simp [mI_sI, hn, g.rS])
  refine Yv.tS ?_ (by decide) (fun _ => by simp [mI_sI, hn, g.rS])
  refine Yv.tS ?_ (by decide) (fun _ => by simp [mI_sI, hn, g.rS])
  refine Yv.tS ?_ (by decide) (fun _ => by simp [mI_sI, hn, g.rS])
  exact h
theorem Fr.scpy {M M0 : Mem} {y z : Nat} (h : Fr (inY y) M0 M)  : Fr (inY y) M0 (sCopy M y z) := by
  refine Fr.sI ?_ inY_S
  refine Fr.sI ?_ inY_S
  refine Fr.sI ?_ inY_S
  refine Fr.sI ?_ inY_S
  exact h
theorem Yv.tcpy {M : Mem} {y z : Nat} {Y Z : Yd} (h : Yv M y Y) (g : Yv M z Z) (hn : ¬ z = y)  : Yv (tCopy M y z) y (cpyT Y Z) := by
  refine Yv.tT ?_ (by decide) (fun _ => by simp [mI_sI, hn, g.rT])
  refine Yv.tT ?_ (by decide) (fun _ => by simp [mI_sI, hn, g.rT])
  refine Yv.tT ?_ (by decide) (fun _ => by simp [mI_sI, hn, g.rT])
  refine Yv.tT ?_ (by decide) (fun _ => by simp [mI_sI, hn, g.rT])
  refine Yv.tT ?_ (by decide) (fun _ => by simp [mI_sI, hn, g.rT])
  refine Yv.tT ?_ (by decide) (fun _ => by simp [mI_sI, hn, g.rT])
  refine Yv.tT ?_ (by decide) (fun _ => by simp [mI_sI, hn, g.rT])
  exact h
theorem Fr.tcpy {M M0 : Mem} {y z : Nat} (h : Fr (inY y) M0 M)  : Fr (inY y) M0 (tCopy M y z) := by
  refine Fr.sI ?_ inY_T
  refine Fr.sI ?_ inY_T
  refine Fr.sI ?_ inY_T
  refine Fr.sI ?_ inY_T
  refine Fr.sI ?_ inY_T
  refine Fr.sI ?_ inY_T
  refine Fr.sI ?_ inY_T
  exact h
theorem eqC_cpy (Y Z : Yd) (i : Nat) (hI : yC Y i 0 = yC Z i 0) (p : Option Nat) (hp : p = yP Z i) : eqC (uP (cpyY Y Z i) i p) Z i := by
  subst hp
  refine ⟨fun f hf => ?_, fun f hf => ?_, ?_⟩
  · rcases vC_or hf with e | e | e | e | e | e | e | e | e | e <;> subst e <;> simp [cpyY, yC_uC, yC_uL, yC_uP, hI]
  · rcases vL_or hf with e | e <;> subst e <;> simp [cpyY, yL_uC, yL_uL, yL_uP]
  · simp [yP_uP]
theorem eqC_oth (Y Z W : Yd) (i k : Nat) (p : Option Nat) (hk : ¬ k = i) (h : eqC Y Z k) : eqC (uP (cpyY Y W i) i p) Z k := by
  refine ⟨fun f hf => ?_, fun f hf => ?_, ?_⟩
  · rw [← h.1 f hf]; simp [cpyY, yC_uC, yC_uL, yC_uP, hk]
  · rw [← h.2.1 f hf]; simp [cpyY, yL_uC, yL_uL, yL_uP, hk]
  · rw [← h.2.2]; simp [cpyY, yP_uC, yP_uL, yP_uP, hk]
theorem eqB_cpy (Y Z : Yd) (i : Nat) (hI : yB Y i 0 = yB Z i 0) : eqB (cpyB Y Z i) Z i := by
  intro f hf
  rcases vB_or hf with e | e | e | e | e | e <;> subst e <;> simp [cpyB, yB_uB, hI]
theorem eqB_oth (Y Z W : Yd) (i k : Nat) (hk : ¬ k = i) (h : eqB Y Z k) : eqB (cpyB Y W i) Z k := by
  intro f hf
  rw [← h f hf]; simp [cpyB, yB_uB, hk]
theorem eqR_0 (Y Z : Yd) : eqR (cpyT (cpyS (uF (uF (uF (uF (uF Y 4 (yF Z 4)) 5 (yF Z 5)) 6 (yF Z 6)) 7 (yF Z 7)) 8 (yF Z 8)) Z) Z) Z := by
  refine ⟨fun f hf => ?_, fun f hf => ?_, fun f hf => ?_⟩
  · rcases vS_or hf with e | e | e | e <;> subst e <;> simp [cpyT, cpyS, yS_uT, yS_uS]
  · rcases vT_or hf with e | e | e | e | e | e | e <;> subst e <;> simp [cpyT, yT_uT]
  · rcases vF_or hf with e | e | e | e | e <;> subst e <;> simp [cpyT, cpyS, yF_uT, yF_uS, yF_uF]
theorem eqC_bl (Y : Yd) (i : Nat) (hI : yC Y i 0 = nI i) : eqC (rstY Y i) blY i := by
  refine ⟨fun f hf => ?_, fun f hf => ?_, ?_⟩
  · rcases vC_or hf with e | e | e | e | e | e | e | e | e | e <;> subst e <;> simp [rstY, dscY, yC_uC, yC_uL, yC_uP, hI, blY] <;> simp [yC]
  · rcases vL_or hf with e | e <;> subst e <;> simp [rstY, dscY, yL_uC, yL_uL, yL_uP, blY] <;> simp [yL]
  · simp [rstY, dscY, yP_uC, yP_uL, yP_uP, blY]; simp [yP]
theorem eqC_blo (Y Z : Yd) (i k : Nat) (hk : ¬ k = i) (h : eqC Y Z k) : eqC (rstY Y i) Z k := by
  refine ⟨fun f hf => ?_, fun f hf => ?_, ?_⟩
  · rw [← h.1 f hf]; simp [rstY, dscY, yC_uC, yC_uL, yC_uP, hk]
  · rw [← h.2.1 f hf]; simp [rstY, dscY, yL_uC, yL_uL, yL_uP, hk]
  · rw [← h.2.2]; simp [rstY, dscY, yP_uC, yP_uL, yP_uP, hk]
theorem eqB_bl (Y : Yd) (i : Nat) (hI : yB Y i 0 = nI i) : eqB (bstY Y i) blY i := by
  intro f hf
  rcases vB_or hf with e | e | e | e | e | e <;> subst e <;> simp [bstY, yB_uB, hI, blY] <;> simp [yB]
theorem eqB_blo (Y Z : Yd) (i k : Nat) (hk : ¬ k = i) (h : eqB Y Z k) : eqB (bstY Y i) Z k := by
  intro f hf
  rw [← h f hf]; simp [bstY, yB_uB, hk]
theorem eqR_bl (Y : Yd) : eqR (tstY (sstY (uF (uF (uF (uF (uF Y 4 0) 5 0) 6 2) 7 0) 8 0))) blY := by
  refine ⟨fun f hf => ?_, fun f hf => ?_, fun f hf => ?_⟩
  · rcases vS_or hf with e | e | e | e <;> subst e <;> simp [tstY, sstY, yS_uT, yS_uS, blY] <;> simp [yS]
  · rcases vT_or hf with e | e | e | e | e | e | e <;> subst e <;> simp [tstY, yT_uT, blY] <;> simp [yT]
  · rcases vF_or hf with e | e | e | e | e <;> subst e <;> simp [tstY, sstY, yF_uT, yF_uS, yF_uF, blY] <;> simp [yF]
set_option maxHeartbeats 1000000 in
set_option maxRecDepth 4000 in
theorem s_yReset {d : Nat} {y : Nat} {Y : Yd} {M : Mem} {Q : Out → Mem → Prop} (h : Yv M y Y) (hq : ∀ M', Yv M' y (blY) → Fr (inY y) M M' → Q (.inl none) M') : WPc (d + 2) mX11_reset [.ref (rf 9 y)] M Q := by
  refine WPc.of (by decide +kernel) (Nat.le_of_ble_eq_true rfl) rfl ?_
  have hL := h.lay
  have keyB : ∀ (k i : Nat) (v : Value) (M1 : Mem) (Y1 : Yd), i + k = 6 → Yv M1 y Y1 → eqR Y1 blY → (∀ j, j < 16 → eqC Y1 blY j) → (∀ j, j < i → eqB Y1 blY j) → Fr (inY y) M M1 → WP mX11_reset (d + 2) 80 [.ref (rf 9 y), .ref (rf 17 y), .int (nI 6), .int (nI i), v] [] M1 Q := by
    intro k
    induction k with
    | zero =>
      intro i v M1 Y1 hik h hR hC hB hF
      have e : i = 6 := by omega
      subst e
      have hL := h.lay
      refine R.iload_n dX11_reset_80 rfl ?_
      refine R.iload_n dX11_reset_81 rfl ?_
      refine R.geT (tgt := 101) (Int32.le_refl _) dX11_reset_82 (by decide) ?_
      refine WP.ret (ov := none) dX11_reset_101 ⟨rfl, rfl⟩ ?_
      exact hq _ (h.eqs nf_bl hC (fun j hj => hB j hj) hR) hF
    | succ k ih =>
      intro i v M1 Y1 hik h hR hC hB hF
      have hi : i < 6 := by omega
      have hL := h.lay
      refine R.iload_n dX11_reset_80 rfl ?_
      refine R.iload_n dX11_reset_81 rfl ?_
      refine R.geF (tgt := 101) (nI_ge hi (by decide)) dX11_reset_82 (by decide) ?_
      refine R.aload_n dX11_reset_85 rfl (by first | rfl | exact rfv_rf _) ?_
      refine R.iload_n dX11_reset_86 rfl ?_
      refine R.aalS (Lay.br (by first | assumption | exact hL) hi) (by decide) (by decide) dX11_reset_87 (nI_pos (by omega)) (Lay.brl (by first | assumption | exact hL) hi) ?_
      refine R.astore dX11_reset_88 (by first | rfl | exact rfv_rf _) (Nat.le_of_ble_eq_true rfl) (by decide) (by first | rfl | simp [lft, rf_cat]) rfl ?_
      refine R.aload dX11_reset_90 rfl (by first | rfl | exact rfv_rf _) ?_
      refine cl_X11_63 rfl rfl (by first | exact Nat.le_of_ble_eq_true rfl | simp [rf_cat, Value.category]) dX11_reset_92 ?_
      refine s_bReset ?_
      refine R.iinc dX11_reset_95 (Nat.le_of_ble_eq_true rfl) (by decide) (by first | rfl | simp [lft, rf_cat]) rfl (inc_nI _) rfl ?_
      refine R.goto (tgt := 80) dX11_reset_98 (by decide) ?_
      exact ih (i + 1) _ _ _ (by omega) (h.brst hi) hR hC (fun j hj => by
        by_cases e : j = i
        · subst e; exact eqB_bl _ _ (h.xB hi)
        · exact eqB_blo _ _ _ _ e (hB j (by omega))) (hF.brst hi)
  have key : ∀ (k i : Nat) (v : Value) (M1 : Mem) (Y1 : Yd), i + k = 16 → Yv M1 y Y1 → eqR Y1 blY → (∀ j, j < i → eqC Y1 blY j) → Fr (inY y) M M1 → WP mX11_reset (d + 2) 49 [.ref (rf 9 y), .ref (rf 18 y), .int (nI 16), .int (nI i), v] [] M1 Q := by
    intro k
    induction k with
    | zero =>
      intro i v M1 Y1 hik h hR hC hF
      have e : i = 16 := by omega
      subst e
      have hL := h.lay
      refine R.iload_n dX11_reset_49 rfl ?_
      refine R.iload_n dX11_reset_50 rfl ?_
      refine R.geT (tgt := 70) (Int32.le_refl _) dX11_reset_51 (by decide) ?_
      refine R.aload_n dX11_reset_70 rfl (by first | rfl | exact rfv_rf _) ?_
      refine R.getS (lay1 (by first | assumption | exact hL)) dX11_reset_71 fl_X11_19 (by decide) rfl ?_
      refine R.astore_n dX11_reset_74 (by first | rfl | exact rfv_rf _) (Nat.le_of_ble_eq_true rfl) (by decide) (by first | rfl | simp [lft, rf_cat]) rfl ?_
      refine R.aload_n dX11_reset_75 rfl (by first | rfl | exact rfv_rf _) ?_
      refine R.alenS (lay5 (by first | assumption | exact hL)) (by decide) (by decide) dX11_reset_76 ?_
      refine R.istore_n dX11_reset_77 (Nat.le_of_ble_eq_true rfl) (by decide) (by first | rfl | simp [lft, rf_cat]) rfl ?_
      refine R.iconst (v := 0) dX11_reset_78 rfl ?_
      refine R.istore_n dX11_reset_79 (Nat.le_of_ble_eq_true rfl) (by decide) (by first | rfl | simp [lft, rf_cat]) rfl ?_
      exact keyB 6 0 _ _ _ (by omega) h hR hC (fun j hj => absurd hj (by omega)) hF
    | succ k ih =>
      intro i v M1 Y1 hik h hR hC hF
      have hi : i < 16 := by omega
      have hL := h.lay
      refine R.iload_n dX11_reset_49 rfl ?_
      refine R.iload_n dX11_reset_50 rfl ?_
      refine R.geF (tgt := 70) (nI_ge hi (by decide)) dX11_reset_51 (by decide) ?_
      refine R.aload_n dX11_reset_54 rfl (by first | rfl | exact rfv_rf _) ?_
      refine R.iload_n dX11_reset_55 rfl ?_
      refine R.aalS (Lay.cr (by first | assumption | exact hL) hi) (by decide) (by decide) dX11_reset_56 (nI_pos (by omega)) (Lay.crl (by first | assumption | exact hL) hi) ?_
      refine R.astore dX11_reset_57 (by first | rfl | exact rfv_rf _) (Nat.le_of_ble_eq_true rfl) (by decide) (by first | rfl | simp [lft, rf_cat]) rfl ?_
      refine R.aload dX11_reset_59 rfl (by first | rfl | exact rfv_rf _) ?_
      refine cl_X11_62 rfl rfl (by first | exact Nat.le_of_ble_eq_true rfl | simp [rf_cat, Value.category]) dX11_reset_61 ?_
      refine s_cReset ?_
      refine R.iinc dX11_reset_64 (Nat.le_of_ble_eq_true rfl) (by decide) (by first | rfl | simp [lft, rf_cat]) rfl (inc_nI _) rfl ?_
      refine R.goto (tgt := 49) dX11_reset_67 (by decide) ?_
      exact ih (i + 1) _ _ _ (by omega) (h.crst hi) hR (fun j hj => by
        by_cases e : j = i
        · subst e; exact eqC_bl _ _ (h.xC hi)
        · exact eqC_blo _ _ _ _ e (hC j (by omega))) (hF.crst hi)
  refine R.aload_n dX11_reset_0 rfl (by first | rfl | exact rfv_rf _) ?_
  refine R.iconst (v := 0) dX11_reset_1 rfl ?_
  refine R.putI dX11_reset_2 fl_X11_44 (fun q hq => by cases hq; exact Or.inl rfl) (by decide) rfl rfl rfl ?_
  refine R.aload_n dX11_reset_5 rfl (by first | rfl | exact rfv_rf _) ?_
  refine R.iconst (v := 0) dX11_reset_6 rfl ?_
  refine R.putI dX11_reset_7 fl_X11_48 (fun q hq => by cases hq; exact Or.inl rfl) (by decide) rfl rfl rfl ?_
  refine R.aload_n dX11_reset_10 rfl (by first | rfl | exact rfv_rf _) ?_
  refine R.iconst (v := 2) dX11_reset_11 rfl ?_
  refine R.putI dX11_reset_12 fl_X11_51 (fun q hq => by cases hq; exact Or.inl rfl) (by decide) rfl rfl rfl ?_
  refine R.aload_n dX11_reset_15 rfl (by first | rfl | exact rfv_rf _) ?_
  refine R.iconst (v := 0) dX11_reset_16 rfl ?_
  refine R.putI dX11_reset_17 fl_X11_54 (fun q hq => by cases hq; exact Or.inl rfl) (by decide) rfl rfl rfl ?_
  refine R.aload_n dX11_reset_20 rfl (by first | rfl | exact rfv_rf _) ?_
  refine R.iconst (v := 0) dX11_reset_21 rfl ?_
  refine R.putI dX11_reset_22 fl_X11_57 (fun q hq => by cases hq; exact Or.inl rfl) (by decide) rfl rfl rfl ?_
  refine R.aload_n dX11_reset_25 rfl (by first | rfl | exact rfv_rf _) ?_
  refine R.getS (lay2 (by first | assumption | exact hL)) dX11_reset_26 fl_X11_26 (by decide) rfl ?_
  refine cl_X11_60 rfl rfl (by first | exact Nat.le_of_ble_eq_true rfl | simp [rf_cat, Value.category]) dX11_reset_29 ?_
  refine s_sReset ?_
  refine R.aload_n dX11_reset_32 rfl (by first | rfl | exact rfv_rf _) ?_
  refine R.getS (lay3 (by first | assumption | exact hL)) dX11_reset_33 fl_X11_33 (by decide) rfl ?_
  refine cl_X11_61 rfl rfl (by first | exact Nat.le_of_ble_eq_true rfl | simp [rf_cat, Value.category]) dX11_reset_36 ?_
  refine s_tReset ?_
  refine R.aload_n dX11_reset_39 rfl (by first | rfl | exact rfv_rf _) ?_
  refine R.getS (lay0 (by first | assumption | exact hL)) dX11_reset_40 fl_X11_11 (by decide) rfl ?_
  refine R.astore_n dX11_reset_43 (by first | rfl | exact rfv_rf _) (Nat.le_of_ble_eq_true rfl) (by decide) (by first | rfl | simp [lft, rf_cat]) rfl ?_
  refine R.aload_n dX11_reset_44 rfl (by first | rfl | exact rfv_rf _) ?_
  refine R.alenS (lay4 (by first | assumption | exact hL)) (by decide) (by decide) dX11_reset_45 ?_
  refine R.istore_n dX11_reset_46 (Nat.le_of_ble_eq_true rfl) (by decide) (by first | rfl | simp [lft, rf_cat]) rfl ?_
  refine R.iconst (v := 0) dX11_reset_47 rfl ?_
  refine R.istore_n dX11_reset_48 (Nat.le_of_ble_eq_true rfl) (by decide) (by first | rfl | simp [lft, rf_cat]) rfl ?_
  refine key 16 0 _ _ (tstY (sstY (uF (uF (uF (uF (uF Y 4 0) 5 0) 6 2) 7 0) 8 0))) (by omega) ?_ (eqR_bl _) (fun j hj => absurd hj (by omega)) ?_
  · refine Yv.trst ?_ 
    refine Yv.srst ?_ 
    refine Yv.tF ?_ (by decide) (fun _ => rfl)
    refine Yv.tF ?_ (by decide) (fun _ => rfl)
    refine Yv.tF ?_ (by decide) (fun _ => rfl)
    refine Yv.tF ?_ (by decide) (fun _ => rfl)
    refine Yv.tF ?_ (by decide) (fun _ => rfl)
    exact h
  · refine Fr.trst ?_ 
    refine Fr.srst ?_ 
    refine Fr.sI ?_ inY_F
    refine Fr.sI ?_ inY_F
    refine Fr.sI ?_ inY_F
    refine Fr.sI ?_ inY_F
    refine Fr.sI ?_ inY_F
    exact Fr.rf _ _
set_option maxHeartbeats 1000000 in
set_option maxRecDepth 4000 in
theorem s_yCopy {d : Nat} {y z : Nat} {Y Z : Yd} {M : Mem} {Q : Out → Mem → Prop} (h : Yv M y Y) (g : Yv M z Z) (hn : ¬ z = y) (hb : ∀ i, i < 16 → yC Z i 7 = 0 ∨ yC Z i 7 = 1) (hp : ∀ i, i < 16 → ∀ j, yP Z i = some j → ¬ yF Z 4 ≤ nI j) (hq : ∀ M', Yv M' y Z → Fr (inY y) M M' → Q (.inl none) M') : WPc (d + 1) mX11_copyFrom [.ref (rf 9 y), .ref (rf 9 z)] M Q := by
  refine WPc.of (by decide +kernel) (Nat.le_of_ble_eq_true rfl) rfl ?_
  have hL := h.lay
  have hL2 := g.lay
  have keyB : ∀ (k i : Nat) (M1 : Mem) (Y1 : Yd), i + k = 6 → Yv M1 y Y1 → Yv M1 z Z → eqR Y1 Z → (∀ j, j < 16 → eqC Y1 Z j) → (∀ j, j < i → eqB Y1 Z j) → Fr (inY y) M M1 → WP mX11_copyFrom (d + 1) 115 [.ref (rf 9 y), .ref (rf 9 z), .int (nI i)] [] M1 Q := by
    intro k
    induction k with
    | zero =>
      intro i M1 Y1 hik h g hR hC hB hF
      have e : i = 6 := by omega
      subst e
      have hL := h.lay
      refine R.iload_n dX11_copyFrom_115 rfl ?_
      refine R.bipush (v := nI 6) dX11_copyFrom_116 (by decide) ?_
      refine R.geT (tgt := 142) (Int32.le_refl _) dX11_copyFrom_118 (by decide) ?_
      refine WP.ret (ov := none) dX11_copyFrom_142 ⟨rfl, rfl⟩ ?_
      exact hq _ (h.eqs g.nf hC (fun j hj => hB j hj) hR) hF
    | succ k ih =>
      intro i M1 Y1 hik h g hR hC hB hF
      have hi : i < 6 := by omega
      have hL := h.lay
      have hL2 := g.lay
      have hx : ¬ 6 * z + i = 6 * y + i := by omega
      refine R.iload_n dX11_copyFrom_115 rfl ?_
      refine R.bipush (v := nI 6) dX11_copyFrom_116 (by decide) ?_
      refine R.geF (tgt := 142) (nI_ge hi (by decide)) dX11_copyFrom_118 (by decide) ?_
      refine R.aload_n dX11_copyFrom_121 rfl (by first | rfl | exact rfv_rf _) ?_
      refine R.getS (lay1 (by first | assumption | exact hL)) dX11_copyFrom_122 fl_X11_19 (by decide) rfl ?_
      refine R.iload_n dX11_copyFrom_125 rfl ?_
      refine R.aalS (Lay.br (by first | assumption | exact hL) hi) (by decide) (by decide) dX11_copyFrom_126 (nI_pos (by omega)) (Lay.brl (by first | assumption | exact hL) hi) ?_
      refine R.aload_n dX11_copyFrom_127 rfl (by first | rfl | exact rfv_rf _) ?_
      refine R.getS (lay1 (by first | assumption | exact hL)) dX11_copyFrom_128 fl_X11_19 (by decide) rfl ?_
      refine R.iload_n dX11_copyFrom_131 rfl ?_
      refine R.aalS (Lay.br (by first | assumption | exact hL) hi) (by decide) (by decide) dX11_copyFrom_132 (nI_pos (by omega)) (Lay.brl (by first | assumption | exact hL) hi) ?_
      refine cl_X11_86 rfl rfl (by first | exact Nat.le_of_ble_eq_true rfl | simp [rf_cat, Value.category]) dX11_copyFrom_133 ?_
      refine s_bCopy ?_
      refine R.iinc dX11_copyFrom_136 (Nat.le_of_ble_eq_true rfl) (by decide) (by first | rfl | simp [lft, rf_cat]) rfl (inc_nI _) rfl ?_
      refine R.goto (tgt := 115) dX11_copyFrom_139 (by decide) ?_
      exact ih (i + 1) _ _ (by omega) (h.bcpy g hn hi hx) (g.other (Fr.bcpy (Fr.rf _ _) hi) hn) hR hC (fun j hj => by
        by_cases e : j = i
        · subst e; exact eqB_cpy _ _ _ ((h.xB hi).trans (g.xB hi).symm)
        · exact eqB_oth _ _ _ _ _ e (hB j (by omega))) (hF.bcpy hi)
  have key : ∀ (k i : Nat) (M1 : Mem) (Y1 : Yd), i + k = 16 → Yv M1 y Y1 → Yv M1 z Z → eqR Y1 Z → (∀ j, j < i → eqC Y1 Z j) → Fr (inY y) M M1 → WP mX11_copyFrom (d + 1) 64 [.ref (rf 9 y), .ref (rf 9 z), .int (nI i)] [] M1 Q := by
    intro k
    induction k with
    | zero =>
      intro i M1 Y1 hik h g hR hC hF
      have e : i = 16 := by omega
      subst e
      have hL := h.lay
      refine R.iload_n dX11_copyFrom_64 rfl ?_
      refine R.bipush (v := nI 16) dX11_copyFrom_65 (by decide) ?_
      refine R.geT (tgt := 113) (Int32.le_refl _) dX11_copyFrom_67 (by decide) ?_
      refine R.iconst (v := 0) dX11_copyFrom_113 rfl ?_
      refine R.istore_n dX11_copyFrom_114 (Nat.le_of_ble_eq_true rfl) (by decide) (by first | rfl | simp [lft, rf_cat]) rfl ?_
      exact keyB 6 0 _ _ (by omega) h g hR hC (fun j hj => absurd hj (by omega)) hF
    | succ k ih =>
      intro i M1 Y1 hik h g hR hC hF
      have hi : i < 16 := by omega
      have hL := h.lay
      have hL2 := g.lay
      have hx : ¬ 16 * z + i = 16 * y + i := by omega
      refine R.iload_n dX11_copyFrom_64 rfl ?_
      refine R.bipush (v := nI 16) dX11_copyFrom_65 (by decide) ?_
      refine R.geF (tgt := 113) (nI_ge hi (by decide)) dX11_copyFrom_67 (by decide) ?_
      refine R.aload_n dX11_copyFrom_70 rfl (by first | rfl | exact rfv_rf _) ?_
      refine R.getS (lay0 (by first | assumption | exact hL)) dX11_copyFrom_71 fl_X11_11 (by decide) rfl ?_
      refine R.iload_n dX11_copyFrom_74 rfl ?_
      refine R.aalS (Lay.cr (by first | assumption | exact hL) hi) (by decide) (by decide) dX11_copyFrom_75 (nI_pos (by omega)) (Lay.crl (by first | assumption | exact hL) hi) ?_
      refine R.aload_n dX11_copyFrom_76 rfl (by first | rfl | exact rfv_rf _) ?_
      refine R.getS (lay0 (by first | assumption | exact hL)) dX11_copyFrom_77 fl_X11_11 (by decide) rfl ?_
      refine R.iload_n dX11_copyFrom_80 rfl ?_
      refine R.aalS (Lay.cr (by first | assumption | exact hL) hi) (by decide) (by decide) dX11_copyFrom_81 (nI_pos (by omega)) (Lay.crl (by first | assumption | exact hL) hi) ?_
      refine cl_X11_71 rfl rfl (by first | exact Nat.le_of_ble_eq_true rfl | simp [rf_cat, Value.category]) dX11_copyFrom_82 ?_
      refine s_cCopy (by rw [g.rC hi]; exact hb i hi) ?_
      have h1 := h.ccpy g hn hi hx
      have g1 := g.other (Fr.ccpy (z := z) (Fr.rf _ M1) hi) hn
      refine R.aload_n dX11_copyFrom_85 rfl (by first | rfl | exact rfv_rf _) ?_
      refine R.getS (lay0 (by first | assumption | exact hL)) dX11_copyFrom_86 fl_X11_11 (by decide) rfl ?_
      refine R.iload_n dX11_copyFrom_89 rfl ?_
      refine R.aalS (Lay.cr (by first | assumption | exact hL) hi) (by decide) (by decide) dX11_copyFrom_90 (nI_pos (by omega)) (Lay.crl (by first | assumption | exact hL) hi) ?_
      refine R.aload_n dX11_copyFrom_91 rfl (by first | rfl | exact rfv_rf _) ?_
      refine R.aload_n dX11_copyFrom_92 rfl (by first | rfl | exact rfv_rf _) ?_
      refine R.getS (lay0 (by first | assumption | exact hL)) dX11_copyFrom_93 fl_X11_11 (by decide) rfl ?_
      refine R.iload_n dX11_copyFrom_96 rfl ?_
      refine R.aalS (Lay.cr (by first | assumption | exact hL) hi) (by decide) (by decide) dX11_copyFrom_97 (nI_pos (by omega)) (Lay.crl (by first | assumption | exact hL) hi) ?_
      refine cl_X11_74 rfl rfl (by first | exact Nat.le_of_ble_eq_true rfl | simp [rf_cat, Value.category]) dX11_copyFrom_98 ?_
      refine s_cPar g1 hi ?_
      cases e : yP Z i with
      | none =>
        rw [show pIx Z i = -1 by unfold pIx; rw [e]]
        refine cl_X11_78 rfl rfl (by first | exact Nat.le_of_ble_eq_true rfl | simp [rf_cat, Value.category]) dX11_copyFrom_101 ?_
        refine s_yAtN h1 (Or.inl (by decide)) ?_
        first | refine R.putA dX11_copyFrom_104 fl_X11_82 (fun q hq => by cases hq; exact Or.inl rfl) rfl ?_ | refine R.putN dX11_copyFrom_104 fl_X11_82 (fun q hq => by cases hq; exact Or.inl rfl) rfl ?_ | refine R.putR dX11_copyFrom_104 fl_X11_82 (fun q hq => by cases hq; exact Or.inl rfl) rfl ?_
        refine R.iinc dX11_copyFrom_107 (Nat.le_of_ble_eq_true rfl) (by decide) (by first | rfl | simp [lft, rf_cat]) rfl (inc_nI _) rfl ?_
        refine R.goto (tgt := 64) dX11_copyFrom_110 (by decide) ?_
        exact ih (i + 1) _ _ (by omega) (h1.sP hi (p := none) (fun _ z => nomatch z) rfl) (g.other (Fr.sR (Fr.ccpy (z := z) (Fr.rf _ M1) hi) (inY_C hi)) hn) hR (fun k hk => by
          by_cases ek : k = i
          · subst ek; exact eqC_cpy _ _ _ ((h.xC hi).trans (g.xC hi).symm) _ e.symm
          · exact eqC_oth _ _ _ _ _ _ ek (hC k (by omega))) (Fr.sR (hF.ccpy hi) (inY_C hi))
      | some j =>
        rw [show pIx Z i = nI j by unfold pIx; rw [e]]
        refine cl_X11_78 rfl rfl (by first | exact Nat.le_of_ble_eq_true rfl | simp [rf_cat, Value.category]) dX11_copyFrom_101 ?_
        refine s_yAtS h1 (g.lP hi e) (by rw [show yF (cpyY Y1 Z i) 4 = yF Y1 4 from rfl, hR.2.2 4 (by decide)]; exact hp i hi j e) ?_
        first | refine R.putA dX11_copyFrom_104 fl_X11_82 (fun q hq => by cases hq; exact Or.inl rfl) rfl ?_ | refine R.putN dX11_copyFrom_104 fl_X11_82 (fun q hq => by cases hq; exact Or.inl rfl) rfl ?_ | refine R.putR dX11_copyFrom_104 fl_X11_82 (fun q hq => by cases hq; exact Or.inl rfl) rfl ?_
        refine R.iinc dX11_copyFrom_107 (Nat.le_of_ble_eq_true rfl) (by decide) (by first | rfl | simp [lft, rf_cat]) rfl (inc_nI _) rfl ?_
        refine R.goto (tgt := 64) dX11_copyFrom_110 (by decide) ?_
        exact ih (i + 1) _ _ (by omega) (h1.sP hi (p := some j) (fun k z => by cases z; exact g.lP hi e) rfl) (g.other (Fr.sR (Fr.ccpy (z := z) (Fr.rf _ M1) hi) (inY_C hi)) hn) hR (fun k hk => by
          by_cases ek : k = i
          · subst ek; exact eqC_cpy _ _ _ ((h.xC hi).trans (g.xC hi).symm) _ e.symm
          · exact eqC_oth _ _ _ _ _ _ ek (hC k (by omega))) (Fr.sR (hF.ccpy hi) (inY_C hi))
  refine R.aload_n dX11_copyFrom_0 rfl (by first | rfl | exact rfv_rf _) ?_
  refine R.aload_n dX11_copyFrom_1 rfl (by first | rfl | exact rfv_rf _) ?_
  refine R.getI dX11_copyFrom_2 fl_X11_44 (by decide) rfl ?_
  refine R.putI dX11_copyFrom_5 fl_X11_44 (fun q hq => by cases hq; exact Or.inl rfl) (by decide) rfl rfl rfl ?_
  refine R.aload_n dX11_copyFrom_8 rfl (by first | rfl | exact rfv_rf _) ?_
  refine R.aload_n dX11_copyFrom_9 rfl (by first | rfl | exact rfv_rf _) ?_
  refine R.getI dX11_copyFrom_10 fl_X11_48 (by decide) rfl ?_
  refine R.putI dX11_copyFrom_13 fl_X11_48 (fun q hq => by cases hq; exact Or.inl rfl) (by decide) rfl rfl rfl ?_
  refine R.aload_n dX11_copyFrom_16 rfl (by first | rfl | exact rfv_rf _) ?_
  refine R.aload_n dX11_copyFrom_17 rfl (by first | rfl | exact rfv_rf _) ?_
  refine R.getI dX11_copyFrom_18 fl_X11_51 (by decide) rfl ?_
  refine R.putI dX11_copyFrom_21 fl_X11_51 (fun q hq => by cases hq; exact Or.inl rfl) (by decide) rfl rfl rfl ?_
  refine R.aload_n dX11_copyFrom_24 rfl (by first | rfl | exact rfv_rf _) ?_
  refine R.aload_n dX11_copyFrom_25 rfl (by first | rfl | exact rfv_rf _) ?_
  refine R.getI dX11_copyFrom_26 fl_X11_54 (by decide) rfl ?_
  refine R.putI dX11_copyFrom_29 fl_X11_54 (fun q hq => by cases hq; exact Or.inl rfl) (by decide) rfl rfl rfl ?_
  refine R.aload_n dX11_copyFrom_32 rfl (by first | rfl | exact rfv_rf _) ?_
  refine R.aload_n dX11_copyFrom_33 rfl (by first | rfl | exact rfv_rf _) ?_
  refine R.getI dX11_copyFrom_34 fl_X11_57 (by decide) rfl ?_
  refine R.putI dX11_copyFrom_37 fl_X11_57 (fun q hq => by cases hq; exact Or.inl rfl) (by decide) rfl rfl rfl ?_
  have h5 : Yv (sI (sI (sI (sI (sI M 9 y 4 (mI M 9 z 4)) 9 y 5 (mI (sI M 9 y 4 (mI M 9 z 4)) 9 z 5)) 9 y 6 (mI (sI (sI M 9 y 4 (mI M 9 z 4)) 9 y 5 (mI (sI M 9 y 4 (mI M 9 z 4)) 9 z 5)) 9 z 6)) 9 y 7 (mI (sI (sI (sI M 9 y 4 (mI M 9 z 4)) 9 y 5 (mI (sI M 9 y 4 (mI M 9 z 4)) 9 z 5)) 9 y 6 (mI (sI (sI M 9 y 4 (mI M 9 z 4)) 9 y 5 (mI (sI M 9 y 4 (mI M 9 z 4)) 9 z 5)) 9 z 6)) 9 z 7)) 9 y 8 (mI (sI (sI (sI (sI M 9 y 4 (mI M 9 z 4)) 9 y 5 (mI (sI M 9 y 4 (mI M 9 z 4)) 9 z 5)) 9 y 6 (mI (sI (sI M 9 y 4 (mI M 9 z 4)) 9 y 5 (mI (sI M 9 y 4 (mI M 9 z 4)) 9 z 5)) 9 z 6)) 9 y 7 (mI (sI (sI (sI M 9 y 4 (mI M 9 z 4)) 9 y 5 (mI (sI M 9 y 4 (mI M 9 z 4)) 9 z 5)) 9 y 6 (mI (sI (sI M 9 y 4 (mI M 9 z 4)) 9 y 5 (mI (sI M 9 y 4 (mI M 9 z 4)) 9 z 5)) 9 z 6)) 9 z 7)) 9 z 8)) y (uF (uF (uF (uF (uF Y 4 (yF Z 4)) 5 (yF Z 5)) 6 (yF Z 6)) 7 (yF Z 7)) 8 (yF Z 8)) := by
    refine Yv.tF ?_ (by decide) (fun _ => by simp [mI_sI, hn, g.rF])
    refine Yv.tF ?_ (by decide) (fun _ => by simp [mI_sI, hn, g.rF])
    refine Yv.tF ?_ (by decide) (fun _ => by simp [mI_sI, hn, g.rF])
    refine Yv.tF ?_ (by decide) (fun _ => by simp [mI_sI, hn, g.rF])
    refine Yv.tF ?_ (by decide) (fun _ => by simp [mI_sI, hn, g.rF])
    exact h
  have F5 : Fr (inY y) M (sI (sI (sI (sI (sI M 9 y 4 (mI M 9 z 4)) 9 y 5 (mI (sI M 9 y 4 (mI M 9 z 4)) 9 z 5)) 9 y 6 (mI (sI (sI M 9 y 4 (mI M 9 z 4)) 9 y 5 (mI (sI M 9 y 4 (mI M 9 z 4)) 9 z 5)) 9 z 6)) 9 y 7 (mI (sI (sI (sI M 9 y 4 (mI M 9 z 4)) 9 y 5 (mI (sI M 9 y 4 (mI M 9 z 4)) 9 z 5)) 9 y 6 (mI (sI (sI M 9 y 4 (mI M 9 z 4)) 9 y 5 (mI (sI M 9 y 4 (mI M 9 z 4)) 9 z 5)) 9 z 6)) 9 z 7)) 9 y 8 (mI (sI (sI (sI (sI M 9 y 4 (mI M 9 z 4)) 9 y 5 (mI (sI M 9 y 4 (mI M 9 z 4)) 9 z 5)) 9 y 6 (mI (sI (sI M 9 y 4 (mI M 9 z 4)) 9 y 5 (mI (sI M 9 y 4 (mI M 9 z 4)) 9 z 5)) 9 z 6)) 9 y 7 (mI (sI (sI (sI M 9 y 4 (mI M 9 z 4)) 9 y 5 (mI (sI M 9 y 4 (mI M 9 z 4)) 9 z 5)) 9 y 6 (mI (sI (sI M 9 y 4 (mI M 9 z 4)) 9 y 5 (mI (sI M 9 y 4 (mI M 9 z 4)) 9 z 5)) 9 z 6)) 9 z 7)) 9 z 8)) := by
    refine Fr.sI ?_ inY_F
    refine Fr.sI ?_ inY_F
    refine Fr.sI ?_ inY_F
    refine Fr.sI ?_ inY_F
    refine Fr.sI ?_ inY_F
    exact Fr.rf _ _
  have g5 := g.other F5 hn
  have g6 := g5.other (Fr.scpy (z := z) (Fr.rf _ _)) hn
  refine R.aload_n dX11_copyFrom_40 rfl (by first | rfl | exact rfv_rf _) ?_
  refine R.getS (lay2 (by first | assumption | exact hL)) dX11_copyFrom_41 fl_X11_26 (by decide) rfl ?_
  refine R.aload_n dX11_copyFrom_44 rfl (by first | rfl | exact rfv_rf _) ?_
  refine R.getS (lay2 (by first | assumption | exact hL)) dX11_copyFrom_45 fl_X11_26 (by decide) rfl ?_
  refine cl_X11_64 rfl rfl (by first | exact Nat.le_of_ble_eq_true rfl | simp [rf_cat, Value.category]) dX11_copyFrom_48 ?_
  refine s_sCopy ?_
  refine R.aload_n dX11_copyFrom_51 rfl (by first | rfl | exact rfv_rf _) ?_
  refine R.getS (lay3 (by first | assumption | exact hL)) dX11_copyFrom_52 fl_X11_33 (by decide) rfl ?_
  refine R.aload_n dX11_copyFrom_55 rfl (by first | rfl | exact rfv_rf _) ?_
  refine R.getS (lay3 (by first | assumption | exact hL)) dX11_copyFrom_56 fl_X11_33 (by decide) rfl ?_
  refine cl_X11_68 rfl rfl (by first | exact Nat.le_of_ble_eq_true rfl | simp [rf_cat, Value.category]) dX11_copyFrom_59 ?_
  refine s_tCopy ?_
  refine R.iconst (v := 0) dX11_copyFrom_62 rfl ?_
  refine R.istore_n dX11_copyFrom_63 (Nat.le_of_ble_eq_true rfl) (by decide) (by first | rfl | simp [lft, rf_cat]) rfl ?_
  exact key 16 0 _ _ (by omega) (Yv.tcpy (Yv.scpy h5 g5 hn) g6 hn) (g6.other (Fr.tcpy (z := z) (Fr.rf _ _)) hn) (eqR_0 Y Z) (fun j hj => absurd hj (by omega)) (F5.scpy.tcpy)
