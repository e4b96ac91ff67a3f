/-! the model undoes, saves, restores; its input; its tree -/
theorem cp0 {g s : Nat → Int32} {a x : Nat} (hx : x < 370) : cpK g s a 0 370 x = s (a + x) := by
  show (if 0 ≤ x ∧ x < 0 + 370 then s (a + (x - 0)) else g x) = _
  rw [if_pos (by omega), Nat.sub_zero]
set_option maxHeartbeats 2000000 in
set_option maxRecDepth 4000 in
theorem n_undo {d T : Nat} {S : KS} {M : Mem} {Q : Out → Mem → Prop} {p : Nat} (h : MSt M S T) (hT : T ≤ 57000) (hq : QMr Q M S T cdA (rUnd S p)) : WPc (d + 20) mX13_undo [.ref (rf 11 0)] M Q := by
  refine WPc.of (by decide +kernel) (Nat.le_of_ble_eq_true rfl) rfl ?_
  refine R.aload_n dX13_undo_0 rfl (by first | rfl | exact rfv_rf _) ?_
  refine R.iconst (v := 0) dX13_undo_1 rfl ?_
  refine R.putI dX13_undo_2 fl_X13_65 (fun q hq => by cases hq; exact Or.inl rfl) (by decide) rfl rfl rfl ?_
  have h1 := h.th 0
  have F1 := Fr_th M 0
  have z1 : mI (sI M 11 0 7 0) 11 0 7 = 0 := th7 M 0
  generalize sI M 11 0 7 0 = M1 at h1 F1 z1 ⊢
  obtain ⟨m, b, hR, hV⟩ := h1.y
  have hL := h1.l
  have hm16 := hV.m16
  have hb6 := hV.b6
  unfold rUnd at hq
  cases eH : kH S with
  | nil =>
    simp only [eH] at hq
    have e5 : mI M1 11 0 5 = 0 := by rw [h1.h.1, eH]; rfl
    refine R.aload_n dX13_undo_5 rfl (by first | rfl | exact rfv_rf _) ?_
    refine R.aload_n dX13_undo_6 rfl (by first | rfl | exact rfv_rf _) ?_
    refine R.getI dX13_undo_7 fl_X13_178 (by decide) rfl ?_
    refine R.if_ne (tgt := 17) dX13_undo_10 (by decide) (fun c9 => absurd (e5) c9) (fun _ => ?_)
    refine R.iconst (v := 1) dX13_undo_13 rfl ?_
    refine R.goto (tgt := 18) dX13_undo_14 (by decide) ?_
    refine R.iconst (v := 1) dX13_undo_18 rfl ?_
    refine cl_X13_391 rfl rfl (by first | exact Nat.le_of_ble_eq_true rfl | simp [rf_cat, Value.category]) dX13_undo_19 ?_
    refine m_fail1 ?_
    refine R.if_eq (tgt := 27) dX13_undo_22 (by decide) (fun c9 => absurd c9 (by decide)) (fun _ => ?_)
    refine R.iconst (v := 0) dX13_undo_25 rfl ?_
    refine WP.ret (ov := some (.int _)) dX13_undo_26 ⟨rfl, _, rfl, by first | rfl | assumption | exact nar_b01 (by assumption)⟩ ?_
    exact hq _ (h1.th _) (th7 _ _) (F1.tr (Fr_th _ _))
  | cons Z L =>
    simp only [eH] at hq
    have P := h1.h
    rw [eH] at P
    obtain ⟨p1, p2, p3⟩ := P
    rw [List.length_cons] at p1 p2
    have hM2 : ML (sI M1 11 0 5 (nI L.length)) := hL.fr rfl rfl
    have e5 : ¬ mI M1 11 0 5 = 0 := by rw [p1]; exact nI_ne0 (by omega) (by omega)
    refine R.aload_n dX13_undo_5 rfl (by first | rfl | exact rfv_rf _) ?_
    refine R.aload_n dX13_undo_6 rfl (by first | rfl | exact rfv_rf _) ?_
    refine R.getI dX13_undo_7 fl_X13_178 (by decide) rfl ?_
    refine R.if_ne (tgt := 17) dX13_undo_10 (by decide) (fun _ => ?_) (fun c9 => absurd c9 (e5))
    refine R.iconst (v := 0) dX13_undo_17 rfl ?_
    refine R.iconst (v := 1) dX13_undo_18 rfl ?_
    refine cl_X13_391 rfl rfl (by first | exact Nat.le_of_ble_eq_true rfl | simp [rf_cat, Value.category]) dX13_undo_19 ?_
    refine m_fail0 ?_
    refine R.if_eq (tgt := 27) dX13_undo_22 (by decide) (fun _ => ?_) (fun c9 => absurd (rfl) c9)
    refine R.aload_n dX13_undo_27 rfl (by first | rfl | exact rfv_rf _) ?_
    refine R.dup dX13_undo_28 (by first | rfl | exact rf_cat _) ?_
    refine R.getI dX13_undo_29 fl_X13_178 (by decide) rfl ?_
    rw [p1]
    refine R.iconst (v := 1) dX13_undo_32 rfl ?_
    refine R.isub dX13_undo_33 ?_
    rw [nI_pred]
    refine R.putI dX13_undo_34 fl_X13_178 (fun q hq => by cases hq; exact Or.inl rfl) (by decide) rfl rfl rfl ?_
    refine R.aload_n dX13_undo_37 rfl (by first | rfl | exact rfv_rf _) ?_
    refine R.getS (hM2.1.2.2.2.2.1) dX13_undo_38 fl_X13_22 (by decide) rfl ?_
    refine R.sipush (v := nI 370) dX13_undo_41 (by decide) ?_
    refine R.aload_n dX13_undo_44 rfl (by first | rfl | exact rfv_rf _) ?_
    refine R.getI dX13_undo_45 fl_X13_178 (by decide) rfl ?_
    rw [mI_sI, if_pos ⟨rfl, rfl, rfl⟩]
    refine R.imul dX13_undo_48 ?_
    rw [show nI 370 * nI L.length = nI (370 * L.length) from (Int32.ofNat_mul 370 L.length).symm]
    refine R.aload_n dX13_undo_49 rfl (by first | rfl | exact rfv_rf _) ?_
    refine R.getS (hM2.1.1) dX13_undo_50 fl_X13_7 (by decide) rfl ?_
    refine R.iconst (v := nI 0) dX13_undo_53 rfl ?_
    refine cl_X13_181 rfl rfl (by first | exact Nat.le_of_ble_eq_true rfl | simp [rf_cat, Value.category]) dX13_undo_54 ?_
    refine m_copies (u := 4) (v := 0) (a := 370 * L.length) (i := 0) (by decide) (by rw [hM2.2.2.2.2.2.1]; omega) (by rw [hM2.n]; omega) (by omega) (by omega) ?_
    rw [mI_sI9, mI_sI9]
    refine R.aload_n dX13_undo_57 rfl (by first | rfl | exact rfv_rf _) ?_
    refine R.getI dX13_undo_58 fl_X13_178 (by decide) rfl ?_
    rw [mI_sAn _ _ _ (by decide), mI_sI, if_pos ⟨rfl, rfl, rfl⟩]
    refine WP.ret (ov := some (.int _)) dX13_undo_61 ⟨rfl, _, rfl, by first | rfl | assumption | exact nar_b01 (by assumption)⟩ ?_
    have hy : YI Z T (cpK (mI M1 14 0) (mI M1 14 4) (370 * L.length) 0 370) := (p3 0 Z rfl).eq fun x hx => by
      rw [cp0 hx, List.length_cons, show L.length + 1 - 1 - 0 = L.length by omega]
    have X : FX 0 5 M1 (sA (sI M1 11 0 5 (nI L.length)) 0 (cpK (mI M1 14 0) (mI M1 14 4) (370 * L.length) 0 370)) := (FX_sI _ 0 5 _).tr (FX_sA _ 0 5 _)
    refine hq _ ⟨X.l hL, ?_, ((h1.v.fr (X.2.2.1 6 (by decide)) (X.2.1 3 (by decide))).mono (Nat.le_succ T)), ⟨?_, ?_, fun j Z9 e => ?_⟩, h1.i.fr (X.2.2.1 9 (by decide)) (X.2.1 5 (by decide)), ⟨(X.2.2.1 10 (by decide)).trans h1.e, (X.2.2.1 11 (by decide)).trans h1.q⟩, h1.o.fr (X.2.2.1 25 (by decide)) (X.2.1 10 (by decide)), h1.ob⟩ ((X.2.2.1 7 (by decide)).trans z1) (F1.tr X.fr)
    · rw [mI_sA]; exact hy.mono (Nat.le_succ T)
    · rw [mI_sAn _ _ _ (by decide), mI_sI, if_pos ⟨rfl, rfl, rfl⟩]; rfl
    · show L.length ≤ 8; omega
    · rw [X.2.1 4 (by decide)]
      have q := p3 (j + 1) Z9 e
      rw [List.length_cons, show L.length + 1 - 1 - (j + 1) = L.length - 1 - j by omega] at q
      exact q.mono (Nat.le_succ T)
set_option maxHeartbeats 2000000 in
set_option maxRecDepth 4000 in
theorem n_saveState {d T : Nat} {S : KS} {M : Mem} {Q : Out → Mem → Prop} {p : Nat} (h : MSt M S T) (hT : T ≤ 57000) (hq : QMr Q M S T cdA (rSav S p)) : WPc (d + 20) mX13_saveState [.ref (rf 11 0)] M Q := by
  refine WPc.of (by decide +kernel) (Nat.le_of_ble_eq_true rfl) rfl ?_
  refine R.aload_n dX13_saveState_0 rfl (by first | rfl | exact rfv_rf _) ?_
  refine R.iconst (v := 0) dX13_saveState_1 rfl ?_
  refine R.putI dX13_saveState_2 fl_X13_65 (fun q hq => by cases hq; exact Or.inl rfl) (by decide) rfl rfl rfl ?_
  have h1 := h.th 0
  have F1 := Fr_th M 0
  have z1 : mI (sI M 11 0 7 0) 11 0 7 = 0 := th7 M 0
  generalize sI M 11 0 7 0 = M1 at h1 F1 z1 ⊢
  obtain ⟨m, b, hR, hV⟩ := h1.y
  have hL := h1.l
  have hm16 := hV.m16
  have hb6 := hV.b6
  have X : FX 3 6 M1 (sI (sA M1 3 (cpK (mI M1 14 3) (mI M1 14 0) 0 0 370)) 11 0 6 1) := (FX_sA _ 3 6 _).tr (FX_sI _ 3 6 _)
  refine R.aload_n dX13_saveState_5 rfl (by first | rfl | exact rfv_rf _) ?_
  refine R.getS (hL.1.1) dX13_saveState_6 fl_X13_7 (by decide) rfl ?_
  refine R.iconst (v := nI 0) dX13_saveState_9 rfl ?_
  refine R.aload_n dX13_saveState_10 rfl (by first | rfl | exact rfv_rf _) ?_
  refine R.getS (hL.1.2.2.2.1) dX13_saveState_11 fl_X13_19 (by decide) rfl ?_
  refine R.iconst (v := nI 0) dX13_saveState_14 rfl ?_
  refine cl_X13_181 rfl rfl (by first | exact Nat.le_of_ble_eq_true rfl | simp [rf_cat, Value.category]) dX13_saveState_15 ?_
  refine m_copies (u := 0) (v := 3) (a := 0) (i := 0) (by decide) (by rw [hL.n]; omega) (by rw [hL.2.2.2.2.1]; omega) (by omega) (by omega) ?_
  refine R.aload_n dX13_saveState_18 rfl (by first | rfl | exact rfv_rf _) ?_
  refine R.iconst (v := 1) dX13_saveState_19 rfl ?_
  refine R.putI dX13_saveState_20 fl_X13_314 (fun q hq => by cases hq; exact Or.inl rfl) (by decide) rfl (by first | rfl | assumption) (by first | rfl | assumption) ?_
  refine R.aload_n dX13_saveState_23 rfl (by first | rfl | exact rfv_rf _) ?_
  refine cl_X13_428 rfl rfl (by first | exact Nat.le_of_ble_eq_true rfl | simp [rf_cat, Value.category]) dX13_saveState_24 ?_
  refine atW (X.2.1 0 (by decide)) ?_
  refine m_stored (X.l hL) hR hV.f5 hV.z ?_
  rw [bW (X.2.1 0 (by decide))]
  refine WP.ret (ov := some (.int _)) dX13_saveState_27 ⟨rfl, _, rfl, by first | rfl | assumption | exact nar_b01 (by assumption)⟩ ?_
  refine hq _ ⟨X.l hL, ?_, ⟨?_, ?_⟩, (h1.h.fr (X.2.2.1 5 (by decide)) (X.2.1 4 (by decide))).mono (Nat.le_succ T), h1.i.fr (X.2.2.1 9 (by decide)) (X.2.1 5 (by decide)), ⟨(X.2.2.1 10 (by decide)).trans h1.e, (X.2.2.1 11 (by decide)).trans h1.q⟩, h1.o.fr (X.2.2.1 25 (by decide)) (X.2.1 10 (by decide)), h1.ob⟩ ((X.2.2.1 7 (by decide)).trans z1) (F1.tr X.fr)
  · rw [X.2.1 0 (by decide)]; exact h1.y.mono (Nat.le_succ T)
  · rw [mI_sI, if_pos ⟨rfl, rfl, rfl⟩]
  · rw [mI_sI9, mI_sA]
    exact (h1.y.eq fun x hx => by rw [cp0 hx, Nat.zero_add]).mono (Nat.le_succ T)
set_option maxHeartbeats 2000000 in
set_option maxRecDepth 4000 in
theorem n_restoreState {d T : Nat} {S : KS} {M : Mem} {Q : Out → Mem → Prop} {p : Nat} (h : MSt M S T) (hT : T ≤ 57000) (hq : QMr Q M S T cdA (rRes S p)) : WPc (d + 20) mX13_restoreState [.ref (rf 11 0)] M Q := by
  refine WPc.of (by decide +kernel) (Nat.le_of_ble_eq_true rfl) rfl ?_
  refine R.aload_n dX13_restoreState_0 rfl (by first | rfl | exact rfv_rf _) ?_
  refine R.iconst (v := 0) dX13_restoreState_1 rfl ?_
  refine R.putI dX13_restoreState_2 fl_X13_65 (fun q hq => by cases hq; exact Or.inl rfl) (by decide) rfl rfl rfl ?_
  have h1 := h.th 0
  have F1 := Fr_th M 0
  have z1 : mI (sI M 11 0 7 0) 11 0 7 = 0 := th7 M 0
  generalize sI M 11 0 7 0 = M1 at h1 F1 z1 ⊢
  obtain ⟨m, b, hR, hV⟩ := h1.y
  have hL := h1.l
  have hm16 := hV.m16
  have hb6 := hV.b6
  unfold rRes at hq
  cases eV : kV S with
  | none =>
    simp only [eV] at hq
    have P := h1.v
    rw [eV] at P
    have e6 : mI M1 11 0 6 = 0 := P
    refine R.aload_n dX13_restoreState_5 rfl (by first | rfl | exact rfv_rf _) ?_
    refine R.aload_n dX13_restoreState_6 rfl (by first | rfl | exact rfv_rf _) ?_
    refine R.getI dX13_restoreState_7 fl_X13_314 (by decide) rfl ?_
    refine R.if_ne (tgt := 17) dX13_restoreState_10 (by decide) (fun c9 => absurd (e6) c9) (fun _ => ?_)
    refine R.iconst (v := 1) dX13_restoreState_13 rfl ?_
    refine R.goto (tgt := 18) dX13_restoreState_14 (by decide) ?_
    refine R.iconst (v := 1) dX13_restoreState_18 rfl ?_
    refine cl_X13_391 rfl rfl (by first | exact Nat.le_of_ble_eq_true rfl | simp [rf_cat, Value.category]) dX13_restoreState_19 ?_
    refine m_fail1 ?_
    refine R.if_eq (tgt := 27) dX13_restoreState_22 (by decide) (fun c9 => absurd c9 (by decide)) (fun _ => ?_)
    refine R.iconst (v := 0) dX13_restoreState_25 rfl ?_
    refine WP.ret (ov := some (.int _)) dX13_restoreState_26 ⟨rfl, _, rfl, by first | rfl | assumption | exact nar_b01 (by assumption)⟩ ?_
    exact hq _ (h1.th _) (th7 _ _) (F1.tr (Fr_th _ _))
  | some Z =>
    simp only [eV] at hq
    have P := h1.v
    rw [eV] at P
    obtain ⟨p1, m9, b9, hR9, hV9⟩ := P
    have e6 : ¬ mI M1 11 0 6 = 0 := by rw [p1]; decide
    have X : FX 0 5 M1 (sI (sA M1 0 (cpK (mI M1 14 0) (mI M1 14 3) 0 0 370)) 11 0 5 (nI 0)) := (FX_sA _ 0 5 _).tr (FX_sI _ 0 5 _)
    have hw : mI (sI (sA M1 0 (cpK (mI M1 14 0) (mI M1 14 3) 0 0 370)) 11 0 5 (nI 0)) 14 0 = cpK (mI M1 14 0) (mI M1 14 3) 0 0 370 := by rw [mI_sI9, mI_sA]
    have hR8 : RW Z m9 b9 T (cpK (mI M1 14 0) (mI M1 14 3) 0 0 370) := hR9.eq fun x hx => by rw [cp0 hx, Nat.zero_add]
    refine R.aload_n dX13_restoreState_5 rfl (by first | rfl | exact rfv_rf _) ?_
    refine R.aload_n dX13_restoreState_6 rfl (by first | rfl | exact rfv_rf _) ?_
    refine R.getI dX13_restoreState_7 fl_X13_314 (by decide) rfl ?_
    refine R.if_ne (tgt := 17) dX13_restoreState_10 (by decide) (fun _ => ?_) (fun c9 => absurd c9 (e6))
    refine R.iconst (v := 0) dX13_restoreState_17 rfl ?_
    refine R.iconst (v := 1) dX13_restoreState_18 rfl ?_
    refine cl_X13_391 rfl rfl (by first | exact Nat.le_of_ble_eq_true rfl | simp [rf_cat, Value.category]) dX13_restoreState_19 ?_
    refine m_fail0 ?_
    refine R.if_eq (tgt := 27) dX13_restoreState_22 (by decide) (fun _ => ?_) (fun c9 => absurd (rfl) c9)
    refine R.aload_n dX13_restoreState_27 rfl (by first | rfl | exact rfv_rf _) ?_
    refine R.getS (hL.1.2.2.2.1) dX13_restoreState_28 fl_X13_19 (by decide) rfl ?_
    refine R.iconst (v := nI 0) dX13_restoreState_31 rfl ?_
    refine R.aload_n dX13_restoreState_32 rfl (by first | rfl | exact rfv_rf _) ?_
    refine R.getS (hL.1.1) dX13_restoreState_33 fl_X13_7 (by decide) rfl ?_
    refine R.iconst (v := nI 0) dX13_restoreState_36 rfl ?_
    refine cl_X13_181 rfl rfl (by first | exact Nat.le_of_ble_eq_true rfl | simp [rf_cat, Value.category]) dX13_restoreState_37 ?_
    refine m_copies (u := 3) (v := 0) (a := 0) (i := 0) (by decide) (by rw [hL.2.2.2.2.1]; omega) (by rw [hL.n]; omega) (by omega) (by omega) ?_
    refine R.aload_n dX13_restoreState_40 rfl (by first | rfl | exact rfv_rf _) ?_
    refine R.iconst (v := nI 0) dX13_restoreState_41 rfl ?_
    refine R.putI dX13_restoreState_42 fl_X13_178 (fun q hq => by cases hq; exact Or.inl rfl) (by decide) rfl rfl rfl ?_
    refine R.aload_n dX13_restoreState_45 rfl (by first | rfl | exact rfv_rf _) ?_
    refine cl_X13_428 rfl rfl (by first | exact Nat.le_of_ble_eq_true rfl | simp [rf_cat, Value.category]) dX13_restoreState_46 ?_
    refine atW hw ?_
    refine m_stored (X.l hL) hR8 hV9.f5 hV9.z ?_
    rw [bW hw]
    refine WP.ret (ov := some (.int _)) dX13_restoreState_49 ⟨rfl, _, rfl, by first | rfl | assumption | exact nar_b01 (by assumption)⟩ ?_
    refine hq _ ⟨X.l hL, ?_, ((h1.v.fr (X.2.2.1 6 (by decide)) (X.2.1 3 (by decide))).mono (Nat.le_succ T)), ⟨?_, ?_, fun j Z9 e => ?_⟩, h1.i.fr (X.2.2.1 9 (by decide)) (X.2.1 5 (by decide)), ⟨(X.2.2.1 10 (by decide)).trans h1.e, (X.2.2.1 11 (by decide)).trans h1.q⟩, h1.o.fr (X.2.2.1 25 (by decide)) (X.2.1 10 (by decide)), h1.ob⟩ ((X.2.2.1 7 (by decide)).trans z1) (F1.tr X.fr)
    · rw [hw]; exact ⟨m9, b9, hR8.mono (Nat.le_succ T), hV9.mono (Nat.le_succ T)⟩
    · rw [mI_sI, if_pos ⟨rfl, rfl, rfl⟩]; rfl
    · exact Nat.zero_le 8
    · cases e
def QMb (Q : Out → Mem → Prop) (M : Mem) (T : Nat) (r : Rr) : Prop := match r with
  | .inl _ => True
  | .inr (v, S', _) => ∀ M', MSt M' S' T → mI M' 11 0 7 = 0 → Fr inM M M' → Q (.inl (some (.int v))) M'
set_option maxHeartbeats 2000000 in
set_option maxRecDepth 4000 in
theorem n_truncateInput {d T : Nat} {S : KS} {M : Mem} {Q : Out → Mem → Prop} {p : Nat} {x : Int32} (h : MSt M S T) (hT : T ≤ 57000) (hq : QMb Q M T (rTru S p x)) : WPc (d + 20) mX13_truncateInput [.ref (rf 11 0), .int x] M Q := by
  refine WPc.of (by decide +kernel) (Nat.le_of_ble_eq_true rfl) rfl ?_
  refine R.aload_n dX13_truncateInput_0 rfl (by first | rfl | exact rfv_rf _) ?_
  refine R.iconst (v := 0) dX13_truncateInput_1 rfl ?_
  refine R.putI dX13_truncateInput_2 fl_X13_65 (fun q hq => by cases hq; exact Or.inl rfl) (by decide) rfl rfl rfl ?_
  have h1 := h.th 0
  have F1 := Fr_th M 0
  have z1 : mI (sI M 11 0 7 0) 11 0 7 = 0 := th7 M 0
  generalize sI M 11 0 7 0 = M1 at h1 F1 z1 ⊢
  obtain ⟨m, b, hR, hV⟩ := h1.y
  have hL := h1.l
  have hm16 := hV.m16
  have hb6 := hV.b6
  unfold rTru at hq
  obtain ⟨i1, i2, i3⟩ := h1.i
  by_cases hr : x < 0 ∨ nI (kN S) < x
  · rw [if_pos hr] at hq
    have hn : ¬ (0 ≤ x ∧ x ≤ nI (kN S)) := fun q => hr.elim (fun z => absurd q.1 (i_nle z)) (fun z => absurd q.2 (i_nle z))
    refine R.iload_n dX13_truncateInput_5 rfl ?_
    refine R.iconst (v := 0) dX13_truncateInput_6 rfl ?_
    refine R.aload_n dX13_truncateInput_7 rfl (by first | rfl | exact rfv_rf _) ?_
    refine R.getI dX13_truncateInput_8 fl_X13_185 (by decide) rfl ?_
    rw [i1]
    refine cl_X13_140 rfl rfl (by first | exact Nat.le_of_ble_eq_true rfl | simp [rf_cat, Value.category]) dX13_truncateInput_11 ?_
    refine m_inR ?_
    rw [if_neg hn]
    refine R.if_ne (tgt := 19) dX13_truncateInput_14 (by decide) (fun c9 => absurd (rfl) c9) (fun _ => ?_)
    refine R.iconst (v := 0) dX13_truncateInput_17 rfl ?_
    refine WP.ret (ov := some (.int _)) dX13_truncateInput_18 ⟨rfl, _, rfl, by first | rfl | assumption | exact nar_b01 (by assumption)⟩ ?_
    exact hq _ h1 z1 F1
  · rw [if_neg hr] at hq
    have hy : 0 ≤ x ∧ x ≤ nI (kN S) := ⟨i_nlt (fun z => hr (Or.inl z)), i_nlt (fun z => hr (Or.inr z))⟩
    obtain ⟨j, hj, ex⟩ := nI_of (x := x) (fun z => hr (Or.inl z))
    subst ex
    rw [nI_clamp hj] at hq
    have hjn : j ≤ kN S := (nI_leI hj (by omega)).mp hy.2
    have X : FX 5 9 M1 (sI M1 11 0 9 (nI j)) := FX_sI _ 5 9 _
    refine R.iload_n dX13_truncateInput_5 rfl ?_
    refine R.iconst (v := 0) dX13_truncateInput_6 rfl ?_
    refine R.aload_n dX13_truncateInput_7 rfl (by first | rfl | exact rfv_rf _) ?_
    refine R.getI dX13_truncateInput_8 fl_X13_185 (by decide) rfl ?_
    rw [i1]
    refine cl_X13_140 rfl rfl (by first | exact Nat.le_of_ble_eq_true rfl | simp [rf_cat, Value.category]) dX13_truncateInput_11 ?_
    refine m_inR ?_
    rw [if_pos hy]
    refine R.if_ne (tgt := 19) dX13_truncateInput_14 (by decide) (fun _ => ?_) (fun c9 => absurd c9 (by decide))
    refine R.aload_n dX13_truncateInput_19 rfl (by first | rfl | exact rfv_rf _) ?_
    refine R.iload_n dX13_truncateInput_20 rfl ?_
    refine R.putI dX13_truncateInput_21 fl_X13_185 (fun q hq => by cases hq; exact Or.inl rfl) (by decide) rfl rfl rfl ?_
    refine R.iconst (v := 1) dX13_truncateInput_24 rfl ?_
    refine WP.ret (ov := some (.int _)) dX13_truncateInput_25 ⟨rfl, _, rfl, by first | rfl | assumption | exact nar_b01 (by assumption)⟩ ?_
    refine hq _ ⟨X.l hL, h1.y, h1.v.fr (X.2.2.1 6 (by decide)) (by rw [mI_sI9]), h1.h.fr (X.2.2.1 5 (by decide)) (by rw [mI_sI9]), ⟨?_, ?_, fun i hi => ?_⟩, ⟨(X.2.2.1 10 (by decide)).trans h1.e, (X.2.2.1 11 (by decide)).trans h1.q⟩, h1.o.fr (X.2.2.1 25 (by decide)) (by rw [mI_sI9]), h1.ob⟩ ((X.2.2.1 7 (by decide)).trans z1) (F1.tr X.fr)
    · rw [mI_sI, if_pos ⟨rfl, rfl, rfl⟩]; rfl
    · show j ≤ 600; omega
    · rw [mI_sI9]; exact i3 i (Nat.lt_of_lt_of_le hi hjn)
theorem bt_e (v : Int32) : bt v = v.toInt8.toInt32 := by
  show (v.toInt8.toInt32).toInt8.toInt32 = _
  rw [Int8.toInt8_toInt32]
theorem an255 (x : Int32) : x &&& 255 = nI (x.toBitVec.toNat % 256) := by
  apply Int32.toBitVec_inj.1
  show x.toBitVec &&& BitVec.ofNat 32 255 = BitVec.ofNat 32 (x.toBitVec.toNat % 256)
  apply BitVec.eq_of_toNat_eq
  rw [BitVec.toNat_and, BitVec.toNat_ofNat, BitVec.toNat_ofNat, Nat.mod_eq_of_lt (a := 255) (by omega), Nat.mod_eq_of_lt (a := x.toBitVec.toNat % 256) (by omega)]
  exact Nat.and_two_pow_sub_one_eq_mod _ 8
theorem BY_bt (v : Int32) : BY (v &&& 255) (bt v) := by
  have e1 : (bt v).toInt = v.toInt.bmod 256 := by rw [bt_e, Int8.toInt_toInt32, Int32.toInt_toInt8]
  have e2 : v.toInt = if 2 * v.toBitVec.toNat < 2 ^ 32 then (v.toBitVec.toNat : Int) else (v.toBitVec.toNat : Int) - 2 ^ 32 := BitVec.toInt_eq_toNat_cond v.toBitVec
  have e3 := an255 v
  have e4 : (v &&& 255).toInt = ((v.toBitVec.toNat % 256 : Nat) : Int) := by rw [e3, nI_toInt (by omega)]
  rw [Int.bmod_def] at e1
  generalize hN : v.toBitVec.toNat = N at *
  by_cases c : N % 256 < 128
  · left
    have e5 : (bt v).toInt = (N % 256 : Nat) := by split at e2 <;> split at e1 <;> omega
    refine ⟨?_, by omega, by omega⟩
    rw [← Int32.toInt_inj, e4, e5]
  · right
    refine ⟨by omega, by omega, ?_⟩
    split at e2 <;> split at e1 <;> omega
/-- the input behind an append -/
theorem MI.app {M M' : Mem} {b : Nat → Int32} {n : Nat} {u v : Int32} (h : MI M b n) (hn : n < 600) (hb : BY u v) (e : M' = sI (sI M 14 5 n u) 11 0 9 (nI (n + 1))) : MI M' (upB b n v) (n + 1) := by
  obtain ⟨h1, h2, h3⟩ := h
  subst e
  refine ⟨by rw [mI_sI, if_pos ⟨rfl, rfl, rfl⟩], by omega, fun i hi => ?_⟩
  rw [mI_sI9, mI_sI]
  show BY _ (if i = n then v else b i)
  by_cases z : i = n
  · rw [if_pos ⟨rfl, rfl, z⟩, if_pos z]; exact hb
  · rw [if_neg (fun q => z q.2.2), if_neg z]; exact h3 i (by omega)
set_option maxHeartbeats 1000000 in
set_option maxRecDepth 4000 in
theorem m_apW1 {d n : Nat} {x y y2 s9 : Int32} {b : Nat → Int32} {M : Mem} {Q : Out → Mem → Prop} (hL : ML M) (h : MI M b n) (hn : n < 600) (hy : ¬ y < 0) (hz : y + Int32.ofInt (-8) = y2) (hs : x >>> (y &&& 31) = s9) (kq : ∀ M', MI M' (upB b n (bt s9)) (n + 1) → FX 5 9 M M' → WP mX13_appendWord d 3 [.ref (rf 11 0), .int x, .int y2] [] M' Q) : WP mX13_appendWord d 3 [.ref (rf 11 0), .int x, .int y] [] M Q := by
  refine R.iload_n dX13_appendWord_3 rfl ?_
  refine R.if_lt (tgt := 39) dX13_appendWord_4 (by decide) (fun c9 => absurd c9 hy) (fun _ => ?_)
  refine R.aload_n dX13_appendWord_7 rfl (by first | rfl | exact rfv_rf _) ?_
  refine R.getS (hL.1.2.2.2.2.2.1) dX13_appendWord_8 fl_X13_25 (by decide) rfl ?_
  refine R.aload_n dX13_appendWord_11 rfl (by first | rfl | exact rfv_rf _) ?_
  refine R.getI dX13_appendWord_12 fl_X13_185 (by decide) rfl ?_
  rw [h.1]
  refine R.iload_n dX13_appendWord_15 rfl ?_
  refine R.iload_n dX13_appendWord_16 rfl ?_
  refine R.ishr dX13_appendWord_17 ?_
  refine R.sipush (v := 255) dX13_appendWord_18 (by decide) ?_
  refine R.iand dX13_appendWord_21 ?_
  refine R.iastN (k := n) dX13_appendWord_22 (by omega) (by rw [hL.2.2.2.2.2.2.1]; omega) ?_
  refine R.aload_n dX13_appendWord_23 rfl (by first | rfl | exact rfv_rf _) ?_
  refine R.dup dX13_appendWord_24 (by first | rfl | exact rf_cat _) ?_
  refine R.getI dX13_appendWord_25 fl_X13_185 (by decide) rfl ?_
  rw [mI_sI, if_neg (by omega), h.1]
  refine R.iconst (v := 1) dX13_appendWord_28 rfl ?_
  refine R.iadd dX13_appendWord_29 ?_
  rw [nI_s1]
  refine R.putI dX13_appendWord_30 fl_X13_185 (fun q hq => by cases hq; exact Or.inl rfl) (by decide) rfl rfl rfl ?_
  refine R.iinc dX13_appendWord_33 (Nat.le_of_ble_eq_true rfl) (by decide) (by first | rfl | simp [lft, rf_cat]) rfl hz rfl ?_
  refine R.goto (tgt := 3) dX13_appendWord_36 (by decide) ?_
  exact kq _ (h.app hn (by rw [hs]; exact BY_bt _) rfl) ((FX_sI14 _ 5 9 _ _).tr (FX_sI _ 5 9 _))
set_option maxHeartbeats 1000000 in
set_option maxRecDepth 4000 in
theorem m_apW {d n : Nat} {x : Int32} {b : Nat → Int32} {M : Mem} {Q : Out → Mem → Prop} (hL : ML M) (h : MI M b n) (hn : n + 4 ≤ 600) (hq : ∀ M', MI M' (ap4 b n x) (n + 4) → FX 5 9 M M' → Q (.inl none) M') : WPc d mX13_appendWord [.ref (rf 11 0), .int x] M Q := by
  refine WPc.of (by decide +kernel) (Nat.le_of_ble_eq_true rfl) rfl ?_
  refine R.bipush (v := 24) dX13_appendWord_0 (by decide) ?_
  refine R.istore_n dX13_appendWord_2 (Nat.le_of_ble_eq_true rfl) (by decide) (by first | rfl | simp [lft, rf_cat]) rfl ?_
  refine m_apW1 (y2 := 16) (s9 := x >>> ((24 : Int32) &&& 31)) hL h (by omega) (by decide) (by decide) rfl (fun M1 h1 X1 => ?_)
  refine m_apW1 (y2 := 8) (s9 := x >>> ((16 : Int32) &&& 31)) (X1.l hL) h1 (by omega) (by decide) (by decide) rfl (fun M2 h2 X2 => ?_)
  refine m_apW1 (y2 := 0) (s9 := x >>> ((8 : Int32) &&& 31)) ((X1.tr X2).l hL) h2 (by omega) (by decide) (by decide) rfl (fun M3 h3 X3 => ?_)
  refine m_apW1 (y2 := -8) (s9 := x) (((X1.tr X2).tr X3).l hL) h3 (by omega) (by decide) (by decide) (sh0 x) (fun M4 h4 X4 => ?_)
  refine R.iload_n dX13_appendWord_3 rfl ?_
  refine R.if_lt (tgt := 39) dX13_appendWord_4 (by decide) (fun _ => ?_) (fun c9 => absurd (by decide) c9)
  refine WP.ret (ov := none) dX13_appendWord_39 ⟨rfl, rfl⟩ ?_
  exact hq M4 h4 (((X1.tr X2).tr X3).tr X4)
set_option maxHeartbeats 2000000 in
set_option maxRecDepth 4000 in
theorem n_appendInput {d T : Nat} {S : KS} {M : Mem} {Q : Out → Mem → Prop} {p : Nat} {x1 x2 x3 x4 x5 : Int32} (h : MSt M S T) (hT : T ≤ 57000) (hq : QMb Q M T (rApp S p x1 x2 x3 x4 x5)) : WPc (d + 20) mX13_appendInput [.ref (rf 11 0), .int x1, .int x2, .int x3, .int x4, .int x5] M Q := by
  refine WPc.of (by decide +kernel) (Nat.le_of_ble_eq_true rfl) rfl ?_
  refine R.aload_n dX13_appendInput_0 rfl (by first | rfl | exact rfv_rf _) ?_
  refine R.iconst (v := 0) dX13_appendInput_1 rfl ?_
  refine R.putI dX13_appendInput_2 fl_X13_65 (fun q hq => by cases hq; exact Or.inl rfl) (by decide) rfl rfl rfl ?_
  have h1 := h.th 0
  have F1 := Fr_th M 0
  have z1 : mI (sI M 11 0 7 0) 11 0 7 = 0 := th7 M 0
  generalize sI M 11 0 7 0 = M1 at h1 F1 z1 ⊢
  obtain ⟨m, b, hR, hV⟩ := h1.y
  have hL := h1.l
  have hm16 := hV.m16
  have hb6 := hV.b6
  unfold rApp at hq
  obtain ⟨i1, i2, i3⟩ := h1.i
  by_cases hr : 600 < kN S + 20
  · rw [if_pos hr] at hq
    refine R.aload_n dX13_appendInput_5 rfl (by first | rfl | exact rfv_rf _) ?_
    refine R.getI dX13_appendInput_6 fl_X13_185 (by decide) rfl ?_
    rw [i1]
    refine R.bipush (v := nI 20) dX13_appendInput_9 (by decide) ?_
    refine R.iadd dX13_appendInput_11 ?_
    rw [nI_add9]
    refine R.sipush (v := nI 600) dX13_appendInput_12 (by decide) ?_
    refine R.icmp_le (tgt := 20) dX13_appendInput_15 (by decide) (fun c9 => absurd c9 (nI_ge hr (by omega))) (fun _ => ?_)
    refine R.iconst (v := (-1)) dX13_appendInput_18 rfl ?_
    refine WP.ret (ov := some (.int _)) dX13_appendInput_19 ⟨rfl, _, rfl, by first | rfl | assumption | exact nar_b01 (by assumption)⟩ ?_
    exact hq _ h1 z1 F1
  · rw [if_neg hr] at hq
    refine R.aload_n dX13_appendInput_5 rfl (by first | rfl | exact rfv_rf _) ?_
    refine R.getI dX13_appendInput_6 fl_X13_185 (by decide) rfl ?_
    rw [i1]
    refine R.bipush (v := nI 20) dX13_appendInput_9 (by decide) ?_
    refine R.iadd dX13_appendInput_11 ?_
    rw [nI_add9]
    refine R.sipush (v := nI 600) dX13_appendInput_12 (by decide) ?_
    refine R.icmp_le (tgt := 20) dX13_appendInput_15 (by decide) (fun _ => ?_) (fun c9 => absurd (nI_le (by omega) (by omega)) c9)
    refine R.aload_n dX13_appendInput_20 rfl (by first | rfl | exact rfv_rf _) ?_
    refine R.iload_n dX13_appendInput_21 rfl ?_
    refine cl_X13_188 rfl rfl (by first | exact Nat.le_of_ble_eq_true rfl | simp [rf_cat, Value.category]) dX13_appendInput_22 ?_
    refine m_apW (n := kN S) (hL) h1.i (by omega) (fun N1 g1 Y1 => ?_)
    have X1 := Y1
    refine R.aload_n dX13_appendInput_25 rfl (by first | rfl | exact rfv_rf _) ?_
    refine R.iload_n dX13_appendInput_26 rfl ?_
    refine cl_X13_188 rfl rfl (by first | exact Nat.le_of_ble_eq_true rfl | simp [rf_cat, Value.category]) dX13_appendInput_27 ?_
    refine m_apW (n := kN S + 4) (X1.l hL) g1 (by omega) (fun N2 g2 Y2 => ?_)
    have X2 := X1.tr Y2
    refine R.aload_n dX13_appendInput_30 rfl (by first | rfl | exact rfv_rf _) ?_
    refine R.iload_n dX13_appendInput_31 rfl ?_
    refine cl_X13_188 rfl rfl (by first | exact Nat.le_of_ble_eq_true rfl | simp [rf_cat, Value.category]) dX13_appendInput_32 ?_
    refine m_apW (n := kN S + 8) (X2.l hL) g2 (by omega) (fun N3 g3 Y3 => ?_)
    have X3 := X2.tr Y3
    refine R.aload_n dX13_appendInput_35 rfl (by first | rfl | exact rfv_rf _) ?_
    refine R.iload dX13_appendInput_36 rfl ?_
    refine cl_X13_188 rfl rfl (by first | exact Nat.le_of_ble_eq_true rfl | simp [rf_cat, Value.category]) dX13_appendInput_38 ?_
    refine m_apW (n := kN S + 12) (X3.l hL) g3 (by omega) (fun N4 g4 Y4 => ?_)
    have X4 := X3.tr Y4
    refine R.aload_n dX13_appendInput_41 rfl (by first | rfl | exact rfv_rf _) ?_
    refine R.iload dX13_appendInput_42 rfl ?_
    refine cl_X13_188 rfl rfl (by first | exact Nat.le_of_ble_eq_true rfl | simp [rf_cat, Value.category]) dX13_appendInput_44 ?_
    refine m_apW (n := kN S + 16) (X4.l hL) g4 (by omega) (fun N5 g5 Y5 => ?_)
    have X5 := X4.tr Y5
    refine R.aload_n dX13_appendInput_47 rfl (by first | rfl | exact rfv_rf _) ?_
    refine R.getI dX13_appendInput_48 fl_X13_185 (by decide) rfl ?_
    rw [g5.1]
    refine WP.ret (ov := some (.int _)) dX13_appendInput_51 ⟨rfl, _, rfl, by first | rfl | assumption | exact nar_b01 (by assumption)⟩ ?_
    exact hq _ ⟨X5.l hL, by rw [X5.2.1 0 (by decide)]; exact h1.y, h1.v.fr (X5.2.2.1 6 (by decide)) (X5.2.1 3 (by decide)), h1.h.fr (X5.2.2.1 5 (by decide)) (X5.2.1 4 (by decide)), g5, ⟨(X5.2.2.1 10 (by decide)).trans h1.e, (X5.2.2.1 11 (by decide)).trans h1.q⟩, h1.o.fr (X5.2.2.1 25 (by decide)) (X5.2.1 10 (by decide)), h1.ob⟩ ((X5.2.2.1 7 (by decide)).trans z1) (F1.tr X5.fr)
set_option maxHeartbeats 2000000 in
set_option maxRecDepth 4000 in
theorem n_writeTree {d T : Nat} {S : KS} {M : Mem} {Q : Out → Mem → Prop} {p : Nat} {x : Int32} (h : MSt M S T) (hT : T ≤ 57000) (hq : QMr Q M S T cdA (rTre S p x)) : WPc (d + 20) mX13_writeTree [.ref (rf 11 0), .int x] M Q := by
  refine WPc.of (by decide +kernel) (Nat.le_of_ble_eq_true rfl) rfl ?_
  refine R.aload_n dX13_writeTree_0 rfl (by first | rfl | exact rfv_rf _) ?_
  refine R.iconst (v := 0) dX13_writeTree_1 rfl ?_
  refine R.putI dX13_writeTree_2 fl_X13_65 (fun q hq => by cases hq; exact Or.inl rfl) (by decide) rfl rfl rfl ?_
  have h1 := h.th 0
  have F1 := Fr_th M 0
  have z1 : mI (sI M 11 0 7 0) 11 0 7 = 0 := th7 M 0
  generalize sI M 11 0 7 0 = M1 at h1 F1 z1 ⊢
  obtain ⟨m, b, hR, hV⟩ := h1.y
  have hL := h1.l
  have hm16 := hV.m16
  have hb6 := hV.b6
  unfold rTre at hq
  generalize hw9 : mI M1 14 0 = w at hR
  cases hx : kC (kY S) x with
  | none =>
    rw [rC_n hx] at hq
    refine R.aload_n dX13_writeTree_5 rfl (by first | rfl | exact rfv_rf _) ?_
    refine R.iload_n dX13_writeTree_6 rfl ?_
    refine cl_X13_395 rfl rfl (by first | exact Nat.le_of_ble_eq_true rfl | simp [rf_cat, Value.category]) dX13_writeTree_7 ?_
    refine atW hw9 ?_
    refine m_noCN hL hR hV.f4 hx ?_
    refine R.if_eq (tgt := 15) dX13_writeTree_10 (by decide) (fun c9 => absurd c9 (by decide)) (fun _ => ?_)
    refine R.iconst (v := 0) dX13_writeTree_13 rfl ?_
    refine WP.ret (ov := some (.int _)) dX13_writeTree_14 ⟨rfl, _, rfl, by first | rfl | assumption | exact nar_b01 (by assumption)⟩ ?_
    rw [bW (show mI (sI M1 11 0 7 1) 14 0 = w from hw9)]
    exact hq _ (h1.th _) (th7 _ _) (F1.tr (Fr_th _ _))
  | some i =>
    rw [rC_s hx] at hq
    obtain ⟨ex, hi⟩ := kC_m hx hm16 hV.f4
    subst ex
    have hwl := hV.wl (by omega) 5 (by omega : i < 16)
    refine R.aload_n dX13_writeTree_5 rfl (by first | rfl | exact rfv_rf _) ?_
    refine R.iload_n dX13_writeTree_6 rfl ?_
    refine cl_X13_395 rfl rfl (by first | exact Nat.le_of_ble_eq_true rfl | simp [rf_cat, Value.category]) dX13_writeTree_7 ?_
    refine atW hw9 ?_
    refine m_noCS hL hR hV.f4 hx ?_
    rw [bW hw9]
    refine R.if_eq (tgt := 15) dX13_writeTree_10 (by decide) (fun _ => ?_) (fun c9 => absurd (rfl) c9)
    refine R.aload_n dX13_writeTree_15 rfl (by first | rfl | exact rfv_rf _) ?_
    refine R.iconst (v := nI 0) dX13_writeTree_16 rfl ?_
    refine R.putI dX13_writeTree_17 fl_X13_435 (fun q hq => by cases hq; exact Or.inl rfl) (by decide) rfl rfl rfl ?_
    refine R.aload_n dX13_writeTree_20 rfl (by first | rfl | exact rfv_rf _) ?_
    refine R.iload_n dX13_writeTree_21 rfl ?_
    refine cl_X13_444 rfl rfl (by first | exact Nat.le_of_ble_eq_true rfl | simp [rf_cat, Value.category]) dX13_writeTree_22 ?_
    refine m_writes (d := d + 4) hR hV.acy (hV.sb (by omega)) hV.l hV.gro 5 i hi (fun x hx q => by rw [hV.i6 x hx] at q; cases q) [] (sI M1 11 0 25 (nI 0)) (hL.fr rfl rfl) (by rw [mI_sI9]; exact hw9) ⟨by rw [mI_sI, if_pos ⟨rfl, rfl, rfl⟩]; rfl, fun j x e => by cases e⟩ (by rw [List.length_nil]; omega) (fun M3 o3 f3 => ?_)
    rw [List.nil_append] at o3
    refine R.aload_n dX13_writeTree_25 rfl (by first | rfl | exact rfv_rf _) ?_
    refine R.getI dX13_writeTree_26 fl_X13_435 (by decide) rfl ?_
    rw [o3.1]
    refine WP.ret (ov := some (.int _)) dX13_writeTree_29 ⟨rfl, _, rfl, by first | rfl | assumption | exact nar_b01 (by assumption)⟩ ?_
    have e : ∀ f, f ≠ 25 → mI M3 11 0 f = mI M1 11 0 f := fun f hf => by rw [f3.2 11 0 f (by omega) (by omega), mI_sI, if_neg (by omega)]
    have e14 : ∀ k, k ≠ 10 → mI M3 14 k = mI M1 14 k := fun k hk => by
      funext f
      rw [f3.2 14 k f (by omega) (by omega), mI_sI9]
    refine hq _ ⟨(ML.fo (hL.fr (M' := sI M1 11 0 25 (nI 0)) rfl rfl) f3), by rw [e14 0 (by decide)]; exact h1.y.mono (Nat.le_succ T), (h1.v.fr (e 6 (by decide)) (e14 3 (by decide))).mono (Nat.le_succ T), (h1.h.fr (e 5 (by decide)) (e14 4 (by decide))).mono (Nat.le_succ T), h1.i.fr (e 9 (by decide)) (e14 5 (by decide)), ⟨(e 10 (by decide)).trans h1.e, (e 11 (by decide)).trans h1.q⟩, o3, hV.ob (by omega) 5 (by omega)⟩ ((e 7 (by decide)).trans z1) (F1.tr ((Fr_s11 _ _ _).tr ⟨f3.1.1, f3.1.2.1, f3.1.2.2.1, f3.1.2.2.2.1, fun k i hn => ⟨?_, by rw [f3.1.2.2.2.2.2.1], by rw [f3.1.2.2.2.2.1], by rw [f3.1.2.2.2.2.2.2]⟩⟩))
    funext f
    exact f3.2 k i f (fun z => hn (Or.inr z.1)) (fun z => hn (Or.inl z.1))
theorem n_thrown {d : Nat} {M : Mem} {Q : Out → Mem → Prop} (hq : Q (.inl (some (.int (mI M 11 0 7)))) M) : WPc d mX13_thrown [.ref (rf 11 0)] M Q := by
  refine WPc.of (by decide +kernel) (Nat.le_of_ble_eq_true rfl) rfl ?_
  refine R.aload_n dX13_thrown_0 rfl (by first | rfl | exact rfv_rf _) ?_
  refine R.getI dX13_thrown_1 fl_X13_65 (by decide) rfl ?_
  refine WP.ret (ov := some (.int _)) dX13_thrown_4 ⟨rfl, _, rfl, by first | rfl | assumption | exact nar_b01 (by assumption)⟩ ?_
  exact hq
