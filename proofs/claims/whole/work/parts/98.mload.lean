/-! the model loads a yard -/
theorem SQ9 {Y : Yd} {m b : Nat} {w : Nat → Int32} (h : DR Y m b w) : RW Y m b m (upW w 14 (moF Y 6 0 0)) := by
  obtain ⟨a1, a2, a3, a4, a5, a6, a7, a8, a9, a10, a11, a12, a13, a14⟩ := h.r.h
  obtain ⟨hR, hV, hZ, hT, hM⟩ := h
  have e : ∀ f, f ≠ 6 → yT (uT Y 6 0) f = yT Y f := fun f hf => if_neg hf
  refine hR.hd (fun x hx => upW_n _ _ (by omega)) ⟨(upW_n _ _ (by decide)).trans a1, (upW_n _ _ (by decide)).trans a2, (upW_n _ _ (by decide)).trans a3, (upW_n _ _ (by decide)).trans a4, (upW_n _ _ (by decide)).trans a5, (upW_n _ _ (by decide)).trans a6, (upW_n _ _ (by decide)).trans a7, (upW_n _ _ (by decide)).trans (a8.trans (e 0 (by decide))), (upW_n _ _ (by decide)).trans (a9.trans (e 1 (by decide))), (upW_n _ _ (by decide)).trans (a10.trans (e 2 (by decide))), (upW_n _ _ (by decide)).trans (a11.trans (e 3 (by decide))), (upW_n _ _ (by decide)).trans (a12.trans (e 4 (by decide))), (upW_n _ _ (by decide)).trans (a13.trans (e 5 (by decide))), (upW_s _ _ _).trans hM.symm⟩ rfl rfl rfl rfl
theorem moF_T {Y : Yd} {f : Nat} {v : Int32} : ∀ n i a, moF (uT Y f v) n i a = moF Y n i a := by
  intro n
  induction n with
  | zero => intro i a; rfl
  | succ n ih => intro i a; rw [moF, moF, ih]; rfl
set_option maxHeartbeats 4000000 in
set_option maxRecDepth 4000 in
theorem n_loadYard {d T : Nat} {S : KS} {M : Mem} {Q : Out → Mem → Prop} {p : Nat} (h : MSt M S T) (hT : T ≤ 57000) (hT16 : 16 ≤ T) (hq : QMb Q M T (rLod S p)) : WPc (d + 20) mX13_loadYard [.ref (rf 11 0)] M Q := by
  refine WPc.of (by decide +kernel) (Nat.le_of_ble_eq_true rfl) rfl ?_
  refine R.aload_n dX13_loadYard_0 rfl (by first | rfl | exact rfv_rf _) ?_
  refine R.iconst (v := 0) dX13_loadYard_1 rfl ?_
  refine R.putI dX13_loadYard_2 fl_X13_65 (fun q hq => by cases hq; exact Or.inl rfl) (by decide) rfl rfl rfl ?_
  have h1 := h.th 0
  have F1 := Fr_th M 0
  have z1 : mI (sI M 11 0 7 0) 11 0 7 = 0 := th7 M 0
  generalize sI M 11 0 7 0 = M1 at h1 F1 z1 ⊢
  obtain ⟨m, b, hR, hV⟩ := h1.y
  have hL := h1.l
  have hm16 := hV.m16
  have hb6 := hV.b6
  unfold rLod at hq
  have hL2 : ML (sA M1 1 (cpK (mI M1 14 1) (mI M1 14 0) 0 0 370)) := hL.fr rfl rfl
  have hI2 : MI (sA M1 1 (cpK (mI M1 14 1) (mI M1 14 0) 0 0 370)) (kB S) (kN S) := h1.i.fr (by rw [mI_sAn _ _ _ (by decide)]) (mI_sAn _ _ _ (by decide))
  cases es : suP (kB S) (kN S) 600 0 blY with
  | inl x =>
    obtain ⟨cd, s9⟩ := x
    simp only [es] at hq
    refine R.aload_n dX13_loadYard_5 rfl (by first | rfl | exact rfv_rf _) ?_
    refine R.getS (hL.1.1) dX13_loadYard_6 fl_X13_7 (by decide) rfl ?_
    refine R.iconst (v := nI 0) dX13_loadYard_9 rfl ?_
    refine R.aload_n dX13_loadYard_10 rfl (by first | rfl | exact rfv_rf _) ?_
    refine R.getS (hL.1.2.1) dX13_loadYard_11 fl_X13_13 (by decide) rfl ?_
    refine R.iconst (v := nI 0) dX13_loadYard_14 rfl ?_
    refine cl_X13_181 rfl rfl (by first | exact Nat.le_of_ble_eq_true rfl | simp [rf_cat, Value.category]) dX13_loadYard_15 ?_
    refine m_copies (u := 0) (v := 1) (a := 0) (i := 0) (by decide) (by rw [hL.n]; omega) (by rw [hL.2.2.1]; omega) (by omega) (by omega) ?_
    refine R.aload_n dX13_loadYard_18 rfl (by first | rfl | exact rfv_rf _) ?_
    refine cl_X13_302 rfl rfl (by first | exact Nat.le_of_ble_eq_true rfl | simp [rf_cat, Value.category]) dX13_loadYard_19 ?_
    refine p_start (b := kB S) (n := kN S) hL2 hI2 (fun M3 h3 => ?_)
    refine R.aload_n dX13_loadYard_22 rfl (by first | rfl | exact rfv_rf _) ?_
    refine cl_X13_305 rfl rfl (by first | exact Nat.le_of_ble_eq_true rfl | simp [rf_cat, Value.category]) dX13_loadYard_23 ?_
    refine p_rdT h3 ?_
    rw [es]
    intro M4 w9 h4
    refine R.istore_n dX13_loadYard_26 (Nat.le_of_ble_eq_true rfl) (by decide) (by first | rfl | simp [lft, rf_cat]) rfl ?_
    refine R.aload_n dX13_loadYard_27 rfl (by first | rfl | exact rfv_rf _) ?_
    refine cl_X13_308 rfl rfl (by first | exact Nat.le_of_ble_eq_true rfl | simp [rf_cat, Value.category]) dX13_loadYard_28 ?_
    refine p_end h4.2.1 h4.2.2.1 ?_
    have hL5 : ML (enM M4 cd (nI s9)) := (h4.1.l hL2).fr rfl rfl
    refine R.iload_n dX13_loadYard_31 rfl ?_
    refine R.if_ne (tgt := 50) dX13_loadYard_32 (by decide) (fun c9 => absurd (rfl) c9) (fun _ => ?_)
    refine R.aload_n dX13_loadYard_35 rfl (by first | rfl | exact rfv_rf _) ?_
    refine R.getS (hL5.1.2.1) dX13_loadYard_36 fl_X13_13 (by decide) rfl ?_
    refine R.iconst (v := nI 0) dX13_loadYard_39 rfl ?_
    refine R.aload_n dX13_loadYard_40 rfl (by first | rfl | exact rfv_rf _) ?_
    refine R.getS (hL5.1.1) dX13_loadYard_41 fl_X13_7 (by decide) rfl ?_
    refine R.iconst (v := nI 0) dX13_loadYard_44 rfl ?_
    refine cl_X13_181 rfl rfl (by first | exact Nat.le_of_ble_eq_true rfl | simp [rf_cat, Value.category]) dX13_loadYard_45 ?_
    refine m_copies (u := 1) (v := 0) (a := 0) (i := 0) (by decide) (by rw [hL5.2.2.1]; omega) (by rw [hL5.n]; omega) (by omega) (by omega) ?_
    refine R.iconst (v := (-1)) dX13_loadYard_48 rfl ?_
    refine WP.ret (ov := some (.int _)) dX13_loadYard_49 ⟨rfl, _, rfl, by first | rfl | assumption | exact nar_b01 (by assumption)⟩ ?_
    have E : ∀ i, i ≠ 0 → ¬ pA i → mI (sA (enM M4 cd (nI s9)) 0 (cpK (mI (enM M4 cd (nI s9)) 14 0) (mI (enM M4 cd (nI s9)) 14 1) 0 0 370)) 14 i = mI (sA M1 1 (cpK (mI M1 14 1) (mI M1 14 0) 0 0 370)) 14 i := fun i hi hp => by
      rw [mI_sAn _ _ _ (fun z => hi z.2), enM, mI_sI9, mI_sI9, mI_sI9, h4.1.2.1 i hp]
    have Ef : ∀ f, (f = 5 ∨ f = 6 ∨ f = 7 ∨ f = 25) → mI (sA (enM M4 cd (nI s9)) 0 (cpK (mI (enM M4 cd (nI s9)) 14 0) (mI (enM M4 cd (nI s9)) 14 1) 0 0 370)) 11 0 f = mI M1 11 0 f := fun f hf => by
      rw [mI_sAn _ _ _ (by decide), enM, mI_sI, if_neg (by omega), mI_sI, if_neg (by omega), mI_sI, if_neg (by omega), h4.1.2.2.1 f (by unfold pP; omega), mI_sAn _ _ _ (by decide)]
    have k1 : ∀ i, i ≠ 1 → mI (sA M1 1 (cpK (mI M1 14 1) (mI M1 14 0) 0 0 370)) 14 i = mI M1 14 i := fun i hi => mI_sAn _ _ _ (fun z => hi z.2)
    have F9 : Fr inM M (sA (enM M4 cd (nI s9)) 0 (cpK (mI (enM M4 cd (nI s9)) 14 0) (mI (enM M4 cd (nI s9)) 14 1) 0 0 370)) := F1.tr ((Fr_sA9 _ _ _).tr (h4.1.fr.tr ((((Fr_s11 _ _ _).tr (Fr_s11 _ _ _)).tr (Fr_s11 _ _ _)).tr (Fr_sA9 _ _ _))))
    refine hq _ ⟨hL5.fr rfl rfl, ?_, h1.v.fr (Ef 6 (by omega)) ((E 3 (by decide) (by unfold pA; omega)).trans (k1 3 (by decide))), h1.h.fr (Ef 5 (by omega)) ((E 4 (by decide) (by unfold pA; omega)).trans (k1 4 (by decide))), ⟨?_, Nat.zero_le _, fun i hi => absurd hi (Nat.not_lt_zero i)⟩, ⟨?_, ?_⟩, h1.o.fr (Ef 25 (by omega)) ((E 10 (by decide) (by unfold pA; omega)).trans (k1 10 (by decide))), h1.ob⟩ ((Ef 7 (by omega)).trans z1) F9
    · rw [mI_sA]
      refine h1.y.eq fun x hx => ?_
      rw [cp0 hx, Nat.zero_add, enM, mI_sI9, mI_sI9, mI_sI9, h4.1.2.1 1 (by unfold pA; omega), mI_sA, cp0 hx, Nat.zero_add]
    · rw [mI_sAn _ _ _ (by decide), enM, mI_sI, if_neg (by omega), mI_sI, if_neg (by omega), mI_sI, if_pos ⟨rfl, rfl, rfl⟩]; rfl
    · rw [mI_sAn _ _ _ (by decide), enM, mI_sI, if_neg (by omega), mI_sI, if_pos ⟨rfl, rfl, rfl⟩]; rfl
    · rw [mI_sAn _ _ _ (by decide), enM, mI_sI, if_pos ⟨rfl, rfl, rfl⟩]; rfl
  | inr x =>
    obtain ⟨e9, Y9⟩ := x
    simp only [es] at hq
    refine R.aload_n dX13_loadYard_5 rfl (by first | rfl | exact rfv_rf _) ?_
    refine R.getS (hL.1.1) dX13_loadYard_6 fl_X13_7 (by decide) rfl ?_
    refine R.iconst (v := nI 0) dX13_loadYard_9 rfl ?_
    refine R.aload_n dX13_loadYard_10 rfl (by first | rfl | exact rfv_rf _) ?_
    refine R.getS (hL.1.2.1) dX13_loadYard_11 fl_X13_13 (by decide) rfl ?_
    refine R.iconst (v := nI 0) dX13_loadYard_14 rfl ?_
    refine cl_X13_181 rfl rfl (by first | exact Nat.le_of_ble_eq_true rfl | simp [rf_cat, Value.category]) dX13_loadYard_15 ?_
    refine m_copies (u := 0) (v := 1) (a := 0) (i := 0) (by decide) (by rw [hL.n]; omega) (by rw [hL.2.2.1]; omega) (by omega) (by omega) ?_
    refine R.aload_n dX13_loadYard_18 rfl (by first | rfl | exact rfv_rf _) ?_
    refine cl_X13_302 rfl rfl (by first | exact Nat.le_of_ble_eq_true rfl | simp [rf_cat, Value.category]) dX13_loadYard_19 ?_
    refine p_start (b := kB S) (n := kN S) hL2 hI2 (fun M3 h3 => ?_)
    refine R.aload_n dX13_loadYard_22 rfl (by first | rfl | exact rfv_rf _) ?_
    refine cl_X13_305 rfl rfl (by first | exact Nat.le_of_ble_eq_true rfl | simp [rf_cat, Value.category]) dX13_loadYard_23 ?_
    refine p_rdT h3 ?_
    rw [es]
    intro M4 e4 w4 N4 m4 b4 h4 hD
    refine R.istore_n dX13_loadYard_26 (Nat.le_of_ble_eq_true rfl) (by decide) (by first | rfl | simp [lft, rf_cat]) rfl ?_
    refine R.aload_n dX13_loadYard_27 rfl (by first | rfl | exact rfv_rf _) ?_
    refine cl_X13_308 rfl rfl (by first | exact Nat.le_of_ble_eq_true rfl | simp [rf_cat, Value.category]) dX13_loadYard_28 ?_
    refine p_end h4.x h4.x2 ?_
    have hL5 : ML (enM M4 0 (-1)) := h4.l.fr rfl rfl
    have hw5 : mI (enM M4 0 (-1)) 14 0 = w4 := by rw [enM, mI_sI9, mI_sI9, mI_sI9]; exact h4.w
    refine R.iload_n dX13_loadYard_31 rfl ?_
    refine R.if_ne (tgt := 50) dX13_loadYard_32 (by decide) (fun _ => ?_) (fun c9 => absurd c9 (by decide))
    refine R.aload_n dX13_loadYard_50 rfl (by first | rfl | exact rfv_rf _) ?_
    refine R.getS (hL5.1.1) dX13_loadYard_51 fl_X13_7 (by decide) rfl ?_
    refine R.bipush (v := nI 14) dX13_loadYard_54 (by decide) ?_
    refine R.aload_n dX13_loadYard_56 rfl (by first | rfl | exact rfv_rf _) ?_
    refine cl_X13_311 rfl rfl (by first | exact Nat.le_of_ble_eq_true rfl | simp [rf_cat, Value.category]) dX13_loadYard_57 ?_
    refine atW hw5 ?_
    refine m_money hL5 hD.r (show yF (uT Y9 6 0) 5 = nI b4 from hD.v.f5) (show BZ (uT Y9 6 0) m4 b4 from hD.v.z) ?_
    rw [moF_T, bW hw5]
    refine R.iastN (k := 14) dX13_loadYard_60 (by omega) (by rw [hL5.n]; omega) ?_
    rw [← bW (M := enM M4 0 (-1)) hw5, sI_sW]
    refine R.aload_n dX13_loadYard_61 rfl (by first | rfl | exact rfv_rf _) ?_
    refine R.iconst (v := 0) dX13_loadYard_62 rfl ?_
    refine R.putI dX13_loadYard_63 fl_X13_178 (fun q hq => by cases hq; exact Or.inl rfl) (by decide) rfl rfl rfl ?_
    refine R.aload_n dX13_loadYard_66 rfl (by first | rfl | exact rfv_rf _) ?_
    refine R.iconst (v := 0) dX13_loadYard_67 rfl ?_
    refine R.putI dX13_loadYard_68 fl_X13_314 (fun q hq => by cases hq; exact Or.inl rfl) (by decide) rfl (by first | rfl | assumption) (by first | rfl | assumption) ?_
    refine R.aload_n dX13_loadYard_71 rfl (by first | rfl | exact rfv_rf _) ?_
    refine R.getS (hL5.1.1) dX13_loadYard_72 fl_X13_7 (by decide) rfl ?_
    refine R.iconst (v := nI 0) dX13_loadYard_75 rfl ?_
    refine R.ialdN (k := 0) dX13_loadYard_76 (by omega) (by show _ < mN (enM M4 0 (-1)) 14 0; rw [hL5.n]; omega) ?_
    rw [mI_sI, if_neg (by omega), mI_sI, if_neg (by omega), mI_sWc, upW_n _ _ (by decide), hD.r.t.z]
    refine WP.ret (ov := some (.int _)) dX13_loadYard_77 ⟨rfl, _, rfl, by first | rfl | assumption | exact nar_b01 (by assumption)⟩ ?_
    have hm4 := hD.v.m16
    have E : ∀ i, i ≠ 0 → ¬ pA i → i ≠ 1 → mI (sI (sI (sW (enM M4 0 (-1)) (upW w4 14 (moF Y9 6 0 0))) 11 0 5 0) 11 0 6 0) 14 i = mI M1 14 i := fun i hi hp h1 => by
      rw [mI_sI9, mI_sI9, mI_sWn _ _ (fun z => hi z.2), enM, mI_sI9, mI_sI9, mI_sI9, h4.F.2.1 i hp, mI_sAn _ _ _ (fun z => h1 z.2)]
    have Ef : ∀ f, (f = 7 ∨ f = 25) → mI (sI (sI (sW (enM M4 0 (-1)) (upW w4 14 (moF Y9 6 0 0))) 11 0 5 0) 11 0 6 0) 11 0 f = mI M1 11 0 f := fun f hf => by
      rw [mI_sI, if_neg (by omega), mI_sI, if_neg (by omega), mI_sWn _ _ (by decide), enM, mI_sI, if_neg (by omega), mI_sI, if_neg (by omega), mI_sI, if_neg (by omega), h4.F.2.2.1 f (by unfold pP; omega), mI_sAn _ _ _ (by decide)]
    have F9 : Fr inM M (sI (sI (sW (enM M4 0 (-1)) (upW w4 14 (moF Y9 6 0 0))) 11 0 5 0) 11 0 6 0) := F1.tr ((Fr_sA9 _ _ _).tr (h4.F.fr.tr ((((Fr_s11 _ _ _).tr (Fr_s11 _ _ _)).tr (Fr_s11 _ _ _)).tr ((Fr_sW9 _ _).tr ((Fr_s11 _ _ _).tr (Fr_s11 _ _ _))))))
    rw [hD.v.f4] at hq
    refine hq _ ⟨hL5.fr rfl rfl, ?_, ?_, ⟨?_, Nat.zero_le _, fun j Z e => by cases e⟩, ⟨?_, Nat.zero_le _, fun i hi => absurd hi (Nat.not_lt_zero i)⟩, ⟨?_, ?_⟩, h1.o.fr (Ef 25 (by omega)) (E 10 (by decide) (by unfold pA; omega) (by decide)), h1.ob⟩ ((Ef 7 (by omega)).trans z1) F9
    · rw [mI_sI9, mI_sI9, mI_sW]
      exact ⟨m4, b4, (SQ9 hD).mono (by omega), hD.v.mono (by omega)⟩
    · show mI _ 11 0 6 = 0
      rw [mI_sI, if_pos ⟨rfl, rfl, rfl⟩]
    · rw [mI_sI, if_neg (by omega), mI_sI, if_pos ⟨rfl, rfl, rfl⟩]; rfl
    · rw [mI_sI, if_neg (by omega), mI_sI, if_neg (by omega), mI_sWn _ _ (by decide), enM, mI_sI, if_neg (by omega), mI_sI, if_neg (by omega), mI_sI, if_pos ⟨rfl, rfl, rfl⟩]; rfl
    · rw [mI_sI, if_neg (by omega), mI_sI, if_neg (by omega), mI_sWn _ _ (by decide), enM, mI_sI, if_neg (by omega), mI_sI, if_pos ⟨rfl, rfl, rfl⟩]; rfl
    · rw [mI_sI, if_neg (by omega), mI_sI, if_neg (by omega), mI_sWn _ _ (by decide), enM, mI_sI, if_pos ⟨rfl, rfl, rfl⟩]; rfl
