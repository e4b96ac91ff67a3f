/-! the model's letters, best buyers, trust, output -/
theorem rg_any {x : Int32} {m : Nat} (hm : m < 2 ^ 31) : (0 ≤ x ∧ x ≤ nI m - 1) ↔ ¬ (x < 0 ∨ nI m ≤ x) := by
  rw [Int32.le_iff_toInt_le, Int32.le_iff_toInt_le, Int32.lt_iff_toInt_lt, Int32.le_iff_toInt_le, m1_toInt hm, nI_toInt hm, show (0 : Int32).toInt = 0 by decide]
  omega
theorem ltF_out {nm x : Int32} (h : x < 0) : ltF nm x = -1 := if_pos (Or.inl h)
theorem ltF_far {nm : Int32} {j : Nat} (h : 6 ≤ j) (hj : j < 2 ^ 31) : ltF nm (nI j) = -1 := if_pos (Or.inr (nI_le (a := 6) h hj))
set_option maxHeartbeats 2000000 in
set_option maxRecDepth 4000 in
theorem n_crateNameByte {d T : Nat} {S : KS} {M : Mem} {Q : Out → Mem → Prop} {x z : Int32} (h : MSt M S T) (hT : T ≤ 57000) (hq : QMa Q M S T cdA (aC S x fun i => .inl (ltF (yC (kY S) i 1) z))) : WPc (d + 20) mX13_crateNameByte [.ref (rf 11 0), .int x, .int z] M Q := by
  refine WPc.of (by decide +kernel) (Nat.le_of_ble_eq_true rfl) rfl ?_
  refine R.aload_n dX13_crateNameByte_0 rfl (by first | rfl | exact rfv_rf _) ?_
  refine R.iconst (v := 0) dX13_crateNameByte_1 rfl ?_
  refine R.putI dX13_crateNameByte_2 fl_X13_65 (fun q hq => by cases hq; exact Or.inl rfl) (by decide) rfl rfl rfl ?_
  have h1 := h.th 0
  have F1 := Fr_th M 0
  have z1 : mI (sI M 11 0 7 0) 11 0 7 = 0 := th7 M 0
  generalize sI M 11 0 7 0 = M1 at h1 F1 z1 ⊢
  obtain ⟨m, b, hR, hV⟩ := h1.y
  have hL := h1.l
  have hm16 := hV.m16
  have hb6 := hV.b6
  rw [← bW (M := M1) rfl]
  generalize hw : mI M1 14 0 = w at hR ⊢
  cases hx : kC (kY S) x with
  | none =>
    rw [aC_n hx] at hq
    refine R.aload_n dX13_crateNameByte_5 rfl (by first | rfl | exact rfv_rf _) ?_
    refine R.iload_n dX13_crateNameByte_6 rfl ?_
    refine cl_X13_395 rfl rfl (by first | exact Nat.le_of_ble_eq_true rfl | simp [rf_cat, Value.category]) dX13_crateNameByte_7 ?_
    refine m_noCN hL hR hV.f4 hx ?_
    refine R.if_eq (tgt := 15) dX13_crateNameByte_10 (by decide) (fun c9 => absurd c9 (by decide)) (fun _ => ?_)
    refine R.iconst (v := 0) dX13_crateNameByte_13 rfl ?_
    refine WP.ret (ov := some (.int _)) dX13_crateNameByte_14 ⟨rfl, _, rfl, by first | rfl | assumption | exact nar_b01 (by assumption)⟩ ?_
    rw [bW (show mI (sI M1 11 0 7 1) 14 0 = w from hw)]
    exact hq _ (h1.th _) ((th7 _ _).trans rfl) (F1.tr (Fr_th _ _))
  | some i =>
    rw [aC_s hx] at hq
    obtain ⟨ex, hi⟩ := kC_m hx hm16 hV.f4
    subst ex
    obtain ⟨L, a1, a2, e0, a5, a6⟩ := NW.l (hR.n.1 i hi)
    by_cases c0 : z < 0
    · rw [ltF_out c0] at hq
      refine R.aload_n dX13_crateNameByte_5 rfl (by first | rfl | exact rfv_rf _) ?_
      refine R.iload_n dX13_crateNameByte_6 rfl ?_
      refine cl_X13_395 rfl rfl (by first | exact Nat.le_of_ble_eq_true rfl | simp [rf_cat, Value.category]) dX13_crateNameByte_7 ?_
      refine m_noCS hL hR hV.f4 hx ?_
      refine R.if_eq (tgt := 15) dX13_crateNameByte_10 (by decide) (fun _ => ?_) (fun c9 => absurd (rfl) c9)
      refine R.iload_n dX13_crateNameByte_15 rfl ?_
      refine R.iconst (v := 0) dX13_crateNameByte_16 rfl ?_
      refine R.aload_n dX13_crateNameByte_17 rfl (by first | rfl | exact rfv_rf _) ?_
      refine R.iload_n dX13_crateNameByte_18 rfl ?_
      refine R.iconst (v := nI 0) dX13_crateNameByte_19 rfl ?_
      refine cl_X13_68 rfl rfl (by first | exact Nat.le_of_ble_eq_true rfl | simp [rf_cat, Value.category]) dX13_crateNameByte_20 ?_
      refine m_of hL (by omega) (by omega) ?_
      rw [show w (16 + 18 * i + 0) = w (16 + 18 * i) from rfl, e0]
      refine R.iconst (v := 1) dX13_crateNameByte_23 rfl ?_
      refine R.isub dX13_crateNameByte_24 ?_
      refine cl_X13_140 rfl rfl (by first | exact Nat.le_of_ble_eq_true rfl | simp [rf_cat, Value.category]) dX13_crateNameByte_25 ?_
      refine m_inR ?_
      rw [if_neg (fun q => (rg_any (by omega)).mp q (Or.inl c0))]
      refine R.if_eq (tgt := 42) dX13_crateNameByte_28 (by decide) (fun _ => ?_) (fun c9 => absurd (rfl) c9)
      refine R.iconst (v := (-1)) dX13_crateNameByte_42 rfl ?_
      refine WP.ret (ov := some (.int _)) dX13_crateNameByte_43 ⟨rfl, _, rfl, by first | rfl | assumption | exact nar_b01 (by assumption)⟩ ?_
      rw [bW hw]
      exact hq _ h1 z1 F1
    · obtain ⟨j, hj, ez⟩ := nI_of c0
      subst ez
      by_cases hjL : j < L
      · have e7 := (a5 j hjL).1
        refine R.aload_n dX13_crateNameByte_5 rfl (by first | rfl | exact rfv_rf _) ?_
        refine R.iload_n dX13_crateNameByte_6 rfl ?_
        refine cl_X13_395 rfl rfl (by first | exact Nat.le_of_ble_eq_true rfl | simp [rf_cat, Value.category]) dX13_crateNameByte_7 ?_
        refine m_noCS hL hR hV.f4 hx ?_
        refine R.if_eq (tgt := 15) dX13_crateNameByte_10 (by decide) (fun _ => ?_) (fun c9 => absurd (rfl) c9)
        refine R.iload_n dX13_crateNameByte_15 rfl ?_
        refine R.iconst (v := 0) dX13_crateNameByte_16 rfl ?_
        refine R.aload_n dX13_crateNameByte_17 rfl (by first | rfl | exact rfv_rf _) ?_
        refine R.iload_n dX13_crateNameByte_18 rfl ?_
        refine R.iconst (v := nI 0) dX13_crateNameByte_19 rfl ?_
        refine cl_X13_68 rfl rfl (by first | exact Nat.le_of_ble_eq_true rfl | simp [rf_cat, Value.category]) dX13_crateNameByte_20 ?_
        refine m_of hL (by omega) (by omega) ?_
        rw [show w (16 + 18 * i + 0) = w (16 + 18 * i) from rfl, e0]
        refine R.iconst (v := 1) dX13_crateNameByte_23 rfl ?_
        refine R.isub dX13_crateNameByte_24 ?_
        refine cl_X13_140 rfl rfl (by first | exact Nat.le_of_ble_eq_true rfl | simp [rf_cat, Value.category]) dX13_crateNameByte_25 ?_
        refine m_inR ?_
        rw [if_pos ((rg_any (by omega)).mpr (fun q => q.elim (nI_pos (by omega)) (nI_ge hjL (by omega))))]
        refine R.if_eq (tgt := 42) dX13_crateNameByte_28 (by decide) (fun c9 => absurd c9 (by decide)) (fun _ => ?_)
        refine R.aload_n dX13_crateNameByte_31 rfl (by first | rfl | exact rfv_rf _) ?_
        refine R.iload_n dX13_crateNameByte_32 rfl ?_
        refine R.iconst (v := nI 1) dX13_crateNameByte_33 rfl ?_
        refine R.iload_n dX13_crateNameByte_34 rfl ?_
        refine R.iadd dX13_crateNameByte_35 ?_
        rw [nI_1a]
        refine cl_X13_68 rfl rfl (by first | exact Nat.le_of_ble_eq_true rfl | simp [rf_cat, Value.category]) dX13_crateNameByte_36 ?_
        refine m_of hL (by omega) (by omega) ?_
        rw [show 16 + 18 * i + (1 + j) = 16 + 18 * i + 1 + j by omega, ← (a5 j hjL).1]
        refine R.goto (tgt := 43) dX13_crateNameByte_39 (by decide) ?_
        refine WP.ret (ov := some (.int _)) dX13_crateNameByte_43 ⟨rfl, _, rfl, by first | rfl | assumption | exact nar_b01 (by assumption)⟩ ?_
        rw [bW hw]
        exact hq _ h1 z1 F1
      · have e7 : ltF (yC (kY S) i 1) (nI j) = -1 := by
          by_cases h6 : j < 6
          · exact a6 j (by omega) h6
          · exact ltF_far (by omega) hj
        rw [e7] at hq
        refine R.aload_n dX13_crateNameByte_5 rfl (by first | rfl | exact rfv_rf _) ?_
        refine R.iload_n dX13_crateNameByte_6 rfl ?_
        refine cl_X13_395 rfl rfl (by first | exact Nat.le_of_ble_eq_true rfl | simp [rf_cat, Value.category]) dX13_crateNameByte_7 ?_
        refine m_noCS hL hR hV.f4 hx ?_
        refine R.if_eq (tgt := 15) dX13_crateNameByte_10 (by decide) (fun _ => ?_) (fun c9 => absurd (rfl) c9)
        refine R.iload_n dX13_crateNameByte_15 rfl ?_
        refine R.iconst (v := 0) dX13_crateNameByte_16 rfl ?_
        refine R.aload_n dX13_crateNameByte_17 rfl (by first | rfl | exact rfv_rf _) ?_
        refine R.iload_n dX13_crateNameByte_18 rfl ?_
        refine R.iconst (v := nI 0) dX13_crateNameByte_19 rfl ?_
        refine cl_X13_68 rfl rfl (by first | exact Nat.le_of_ble_eq_true rfl | simp [rf_cat, Value.category]) dX13_crateNameByte_20 ?_
        refine m_of hL (by omega) (by omega) ?_
        rw [show w (16 + 18 * i + 0) = w (16 + 18 * i) from rfl, e0]
        refine R.iconst (v := 1) dX13_crateNameByte_23 rfl ?_
        refine R.isub dX13_crateNameByte_24 ?_
        refine cl_X13_140 rfl rfl (by first | exact Nat.le_of_ble_eq_true rfl | simp [rf_cat, Value.category]) dX13_crateNameByte_25 ?_
        refine m_inR ?_
        rw [if_neg (fun q => (rg_any (by omega)).mp q (Or.inr (nI_le (by omega) hj)))]
        refine R.if_eq (tgt := 42) dX13_crateNameByte_28 (by decide) (fun _ => ?_) (fun c9 => absurd (rfl) c9)
        refine R.iconst (v := (-1)) dX13_crateNameByte_42 rfl ?_
        refine WP.ret (ov := some (.int _)) dX13_crateNameByte_43 ⟨rfl, _, rfl, by first | rfl | assumption | exact nar_b01 (by assumption)⟩ ?_
        rw [bW hw]
        exact hq _ h1 z1 F1
set_option maxHeartbeats 2000000 in
set_option maxRecDepth 4000 in
theorem n_buyerNameByte {d T : Nat} {S : KS} {M : Mem} {Q : Out → Mem → Prop} {x z : Int32} (h : MSt M S T) (hT : T ≤ 57000) (hq : QMa Q M S T cdA (aU S x fun i => .inl (ltF (yB (kY S) i 1) z))) : WPc (d + 20) mX13_buyerNameByte [.ref (rf 11 0), .int x, .int z] M Q := by
  refine WPc.of (by decide +kernel) (Nat.le_of_ble_eq_true rfl) rfl ?_
  refine R.aload_n dX13_buyerNameByte_0 rfl (by first | rfl | exact rfv_rf _) ?_
  refine R.iconst (v := 0) dX13_buyerNameByte_1 rfl ?_
  refine R.putI dX13_buyerNameByte_2 fl_X13_65 (fun q hq => by cases hq; exact Or.inl rfl) (by decide) rfl rfl rfl ?_
  have h1 := h.th 0
  have F1 := Fr_th M 0
  have z1 : mI (sI M 11 0 7 0) 11 0 7 = 0 := th7 M 0
  generalize sI M 11 0 7 0 = M1 at h1 F1 z1 ⊢
  obtain ⟨m, b, hR, hV⟩ := h1.y
  have hL := h1.l
  have hm16 := hV.m16
  have hb6 := hV.b6
  rw [← bW (M := M1) rfl]
  generalize hw : mI M1 14 0 = w at hR ⊢
  cases hx : kU (kY S) x with
  | none =>
    rw [aU_n hx] at hq
    refine R.aload_n dX13_buyerNameByte_5 rfl (by first | rfl | exact rfv_rf _) ?_
    refine R.iload_n dX13_buyerNameByte_6 rfl ?_
    refine cl_X13_398 rfl rfl (by first | exact Nat.le_of_ble_eq_true rfl | simp [rf_cat, Value.category]) dX13_buyerNameByte_7 ?_
    refine m_noBN hL hR hV.f5 hx ?_
    refine R.if_eq (tgt := 15) dX13_buyerNameByte_10 (by decide) (fun c9 => absurd c9 (by decide)) (fun _ => ?_)
    refine R.iconst (v := 0) dX13_buyerNameByte_13 rfl ?_
    refine WP.ret (ov := some (.int _)) dX13_buyerNameByte_14 ⟨rfl, _, rfl, by first | rfl | assumption | exact nar_b01 (by assumption)⟩ ?_
    rw [bW (show mI (sI M1 11 0 7 1) 14 0 = w from hw)]
    exact hq _ (h1.th _) ((th7 _ _).trans rfl) (F1.tr (Fr_th _ _))
  | some i =>
    rw [aU_s hx] at hq
    obtain ⟨ex, hi⟩ := kU_m hx hb6 hV.f5
    subst ex
    obtain ⟨L, a1, a2, e0, a5, a6⟩ := NW.l (hR.n.2 i hi)
    by_cases c0 : z < 0
    · rw [ltF_out c0] at hq
      refine R.aload_n dX13_buyerNameByte_5 rfl (by first | rfl | exact rfv_rf _) ?_
      refine R.iload_n dX13_buyerNameByte_6 rfl ?_
      refine cl_X13_398 rfl rfl (by first | exact Nat.le_of_ble_eq_true rfl | simp [rf_cat, Value.category]) dX13_buyerNameByte_7 ?_
      refine m_noBS hL hR hV.f5 hx ?_
      refine R.if_eq (tgt := 15) dX13_buyerNameByte_10 (by decide) (fun _ => ?_) (fun c9 => absurd (rfl) c9)
      refine R.iload_n dX13_buyerNameByte_15 rfl ?_
      refine R.iconst (v := 0) dX13_buyerNameByte_16 rfl ?_
      refine R.aload_n dX13_buyerNameByte_17 rfl (by first | rfl | exact rfv_rf _) ?_
      refine R.iload_n dX13_buyerNameByte_18 rfl ?_
      refine R.iconst (v := nI 0) dX13_buyerNameByte_19 rfl ?_
      refine cl_X13_154 rfl rfl (by first | exact Nat.le_of_ble_eq_true rfl | simp [rf_cat, Value.category]) dX13_buyerNameByte_20 ?_
      refine m_ofB hL (by omega) (by omega) ?_
      rw [show w (304 + 11 * i + 0) = w (304 + 11 * i) from rfl, e0]
      refine R.iconst (v := 1) dX13_buyerNameByte_23 rfl ?_
      refine R.isub dX13_buyerNameByte_24 ?_
      refine cl_X13_140 rfl rfl (by first | exact Nat.le_of_ble_eq_true rfl | simp [rf_cat, Value.category]) dX13_buyerNameByte_25 ?_
      refine m_inR ?_
      rw [if_neg (fun q => (rg_any (by omega)).mp q (Or.inl c0))]
      refine R.if_eq (tgt := 42) dX13_buyerNameByte_28 (by decide) (fun _ => ?_) (fun c9 => absurd (rfl) c9)
      refine R.iconst (v := (-1)) dX13_buyerNameByte_42 rfl ?_
      refine WP.ret (ov := some (.int _)) dX13_buyerNameByte_43 ⟨rfl, _, rfl, by first | rfl | assumption | exact nar_b01 (by assumption)⟩ ?_
      rw [bW hw]
      exact hq _ h1 z1 F1
    · obtain ⟨j, hj, ez⟩ := nI_of c0
      subst ez
      by_cases hjL : j < L
      · have e7 := (a5 j hjL).1
        refine R.aload_n dX13_buyerNameByte_5 rfl (by first | rfl | exact rfv_rf _) ?_
        refine R.iload_n dX13_buyerNameByte_6 rfl ?_
        refine cl_X13_398 rfl rfl (by first | exact Nat.le_of_ble_eq_true rfl | simp [rf_cat, Value.category]) dX13_buyerNameByte_7 ?_
        refine m_noBS hL hR hV.f5 hx ?_
        refine R.if_eq (tgt := 15) dX13_buyerNameByte_10 (by decide) (fun _ => ?_) (fun c9 => absurd (rfl) c9)
        refine R.iload_n dX13_buyerNameByte_15 rfl ?_
        refine R.iconst (v := 0) dX13_buyerNameByte_16 rfl ?_
        refine R.aload_n dX13_buyerNameByte_17 rfl (by first | rfl | exact rfv_rf _) ?_
        refine R.iload_n dX13_buyerNameByte_18 rfl ?_
        refine R.iconst (v := nI 0) dX13_buyerNameByte_19 rfl ?_
        refine cl_X13_154 rfl rfl (by first | exact Nat.le_of_ble_eq_true rfl | simp [rf_cat, Value.category]) dX13_buyerNameByte_20 ?_
        refine m_ofB hL (by omega) (by omega) ?_
        rw [show w (304 + 11 * i + 0) = w (304 + 11 * i) from rfl, e0]
        refine R.iconst (v := 1) dX13_buyerNameByte_23 rfl ?_
        refine R.isub dX13_buyerNameByte_24 ?_
        refine cl_X13_140 rfl rfl (by first | exact Nat.le_of_ble_eq_true rfl | simp [rf_cat, Value.category]) dX13_buyerNameByte_25 ?_
        refine m_inR ?_
        rw [if_pos ((rg_any (by omega)).mpr (fun q => q.elim (nI_pos (by omega)) (nI_ge hjL (by omega))))]
        refine R.if_eq (tgt := 42) dX13_buyerNameByte_28 (by decide) (fun c9 => absurd c9 (by decide)) (fun _ => ?_)
        refine R.aload_n dX13_buyerNameByte_31 rfl (by first | rfl | exact rfv_rf _) ?_
        refine R.iload_n dX13_buyerNameByte_32 rfl ?_
        refine R.iconst (v := nI 1) dX13_buyerNameByte_33 rfl ?_
        refine R.iload_n dX13_buyerNameByte_34 rfl ?_
        refine R.iadd dX13_buyerNameByte_35 ?_
        rw [nI_1a]
        refine cl_X13_154 rfl rfl (by first | exact Nat.le_of_ble_eq_true rfl | simp [rf_cat, Value.category]) dX13_buyerNameByte_36 ?_
        refine m_ofB hL (by omega) (by omega) ?_
        rw [show 304 + 11 * i + (1 + j) = 304 + 11 * i + 1 + j by omega, ← (a5 j hjL).1]
        refine R.goto (tgt := 43) dX13_buyerNameByte_39 (by decide) ?_
        refine WP.ret (ov := some (.int _)) dX13_buyerNameByte_43 ⟨rfl, _, rfl, by first | rfl | assumption | exact nar_b01 (by assumption)⟩ ?_
        rw [bW hw]
        exact hq _ h1 z1 F1
      · have e7 : ltF (yB (kY S) i 1) (nI j) = -1 := by
          by_cases h6 : j < 6
          · exact a6 j (by omega) h6
          · exact ltF_far (by omega) hj
        rw [e7] at hq
        refine R.aload_n dX13_buyerNameByte_5 rfl (by first | rfl | exact rfv_rf _) ?_
        refine R.iload_n dX13_buyerNameByte_6 rfl ?_
        refine cl_X13_398 rfl rfl (by first | exact Nat.le_of_ble_eq_true rfl | simp [rf_cat, Value.category]) dX13_buyerNameByte_7 ?_
        refine m_noBS hL hR hV.f5 hx ?_
        refine R.if_eq (tgt := 15) dX13_buyerNameByte_10 (by decide) (fun _ => ?_) (fun c9 => absurd (rfl) c9)
        refine R.iload_n dX13_buyerNameByte_15 rfl ?_
        refine R.iconst (v := 0) dX13_buyerNameByte_16 rfl ?_
        refine R.aload_n dX13_buyerNameByte_17 rfl (by first | rfl | exact rfv_rf _) ?_
        refine R.iload_n dX13_buyerNameByte_18 rfl ?_
        refine R.iconst (v := nI 0) dX13_buyerNameByte_19 rfl ?_
        refine cl_X13_154 rfl rfl (by first | exact Nat.le_of_ble_eq_true rfl | simp [rf_cat, Value.category]) dX13_buyerNameByte_20 ?_
        refine m_ofB hL (by omega) (by omega) ?_
        rw [show w (304 + 11 * i + 0) = w (304 + 11 * i) from rfl, e0]
        refine R.iconst (v := 1) dX13_buyerNameByte_23 rfl ?_
        refine R.isub dX13_buyerNameByte_24 ?_
        refine cl_X13_140 rfl rfl (by first | exact Nat.le_of_ble_eq_true rfl | simp [rf_cat, Value.category]) dX13_buyerNameByte_25 ?_
        refine m_inR ?_
        rw [if_neg (fun q => (rg_any (by omega)).mp q (Or.inr (nI_le (by omega) hj)))]
        refine R.if_eq (tgt := 42) dX13_buyerNameByte_28 (by decide) (fun _ => ?_) (fun c9 => absurd (rfl) c9)
        refine R.iconst (v := (-1)) dX13_buyerNameByte_42 rfl ?_
        refine WP.ret (ov := some (.int _)) dX13_buyerNameByte_43 ⟨rfl, _, rfl, by first | rfl | assumption | exact nar_b01 (by assumption)⟩ ?_
        rw [bW hw]
        exact hq _ h1 z1 F1
theorem mtF_z {Y : Yd} {c : Nat} : ∀ (n i : Nat) (r : Option Nat), (∀ j, i ≤ j → j < i + n → ¬ nI j < yF Y 5) → mtF Y c n i r = r := by
  intro n
  induction n with
  | zero => intro i r _; rfl
  | succ n ih =>
    intro i r h
    have e : ¬ mtC Y c i r = true := by
      unfold mtC
      rw [decide_eq_false (h i (Nat.le_refl _) (by omega))]
      simp
    rw [mtF, if_neg e]
    exact ih (i + 1) r fun j h1 h2 => h j (by omega) (by omega)
theorem bbF_px (Y : Yd) (i : Nat) : bbF Y i = px (mtF Y i 6 0 none) := by
  unfold bbF
  cases mtF Y i 6 0 none <;> rfl
set_option maxHeartbeats 2000000 in
set_option maxRecDepth 4000 in
theorem n_bestBuyer {d T : Nat} {S : KS} {M : Mem} {Q : Out → Mem → Prop} {x : Int32} (h : MSt M S T) (hT : T ≤ 57000) (hq : QMa Q M S T cdA (aC S x fun i => .inl (bbF (kY S) i))) : WPc (d + 20) mX13_bestBuyer [.ref (rf 11 0), .int x] M Q := by
  refine WPc.of (by decide +kernel) (Nat.le_of_ble_eq_true rfl) rfl ?_
  refine R.aload_n dX13_bestBuyer_0 rfl (by first | rfl | exact rfv_rf _) ?_
  refine R.iconst (v := 0) dX13_bestBuyer_1 rfl ?_
  refine R.putI dX13_bestBuyer_2 fl_X13_65 (fun q hq => by cases hq; exact Or.inl rfl) (by decide) rfl rfl rfl ?_
  have h1 := h.th 0
  have F1 := Fr_th M 0
  have z1 : mI (sI M 11 0 7 0) 11 0 7 = 0 := th7 M 0
  generalize sI M 11 0 7 0 = M1 at h1 F1 z1 ⊢
  obtain ⟨m, b, hR, hV⟩ := h1.y
  have hL := h1.l
  have hm16 := hV.m16
  have hb6 := hV.b6
  rw [← bW (M := M1) rfl]
  generalize hw : mI M1 14 0 = w at hR ⊢
  cases hx : kC (kY S) x with
  | none =>
    rw [aC_n hx] at hq
    refine R.aload_n dX13_bestBuyer_5 rfl (by first | rfl | exact rfv_rf _) ?_
    refine R.iload_n dX13_bestBuyer_6 rfl ?_
    refine cl_X13_395 rfl rfl (by first | exact Nat.le_of_ble_eq_true rfl | simp [rf_cat, Value.category]) dX13_bestBuyer_7 ?_
    refine m_noCN hL hR hV.f4 hx ?_
    refine R.if_eq (tgt := 15) dX13_bestBuyer_10 (by decide) (fun c9 => absurd c9 (by decide)) (fun _ => ?_)
    refine R.iconst (v := 0) dX13_bestBuyer_13 rfl ?_
    refine WP.ret (ov := some (.int _)) dX13_bestBuyer_14 ⟨rfl, _, rfl, by first | rfl | assumption | exact nar_b01 (by assumption)⟩ ?_
    rw [bW (show mI (sI M1 11 0 7 1) 14 0 = w from hw)]
    exact hq _ (h1.th _) ((th7 _ _).trans rfl) (F1.tr (Fr_th _ _))
  | some i =>
    rw [aC_s hx, bbF_px] at hq
    obtain ⟨ex, hi⟩ := kC_m hx hm16 hV.f4
    subst ex
    have key : ∀ (f k : Nat) (r : Option Nat), k + f = b → (∀ c, r = some c → c < b) → QMa Q M S T cdA (.inl (px (mtF (kY S) i (6 - k) k r))) → WP mX13_bestBuyer (d + 20) 19 [.ref (rf 11 0), .int (nI i), .int (px r), .int (nI k)] [] (sW M1 w) Q := by
      intro f
      induction f with
      | zero =>
        intro k r hk hr hq2
        have ek : k = b := by omega
        subst ek
        rw [mtF_z _ _ _ (fun j h1 h2 => by rw [hV.f5]; exact nI_nlt h1 (by omega))] at hq2
        have hq := hq2
        refine R.iload_n dX13_bestBuyer_19 rfl ?_
        refine R.aload_n dX13_bestBuyer_20 rfl (by first | rfl | exact rfv_rf _) ?_
        refine R.getS (hL.w) dX13_bestBuyer_21 fl_X13_7 (by decide) rfl ?_
        refine R.iconst (v := nI 1) dX13_bestBuyer_24 rfl ?_
        refine R.ialdN (k := 1) dX13_bestBuyer_25 (by omega) (by show _ < mN M1 14 0; rw [hL.n]; omega) ?_
        rw [mI_sWc]
        rw [hR.h.1, hV.f5]
        refine R.geT (tgt := 71) (Int32.le_refl _) dX13_bestBuyer_26 (by decide) ?_
        refine R.iload_n dX13_bestBuyer_71 rfl ?_
        refine WP.ret (ov := some (.int _)) dX13_bestBuyer_72 ⟨rfl, _, rfl, by first | rfl | assumption | exact nar_b01 (by assumption)⟩ ?_
        rw [bW hw]
        exact hq _ h1 z1 F1
      | succ f ih =>
        intro k r hf hr hq2
        have hk : k < b := by omega
        have h5 : nI k < yF (kY S) 5 := by rw [hV.f5]; exact nI_lt hk (by omega)
        rw [show 6 - k = (6 - (k + 1)) + 1 by omega, mtF] at hq2
        by_cases e0 : yRef (kY S) i k = 0
        · cases r with
          | none =>
            rw [if_pos (by unfold mtC; rw [decide_eq_true h5, decide_eq_true e0]; rfl)] at hq2
            refine R.iload_n dX13_bestBuyer_19 rfl ?_
            refine R.aload_n dX13_bestBuyer_20 rfl (by first | rfl | exact rfv_rf _) ?_
            refine R.getS (hL.w) dX13_bestBuyer_21 fl_X13_7 (by decide) rfl ?_
            refine R.iconst (v := nI 1) dX13_bestBuyer_24 rfl ?_
            refine R.ialdN (k := 1) dX13_bestBuyer_25 (by omega) (by show _ < mN M1 14 0; rw [hL.n]; omega) ?_
            rw [mI_sWc]
            rw [hR.h.1, hV.f5]
            refine R.geF (tgt := 71) (nI_ge (show k < b by omega) (by omega)) dX13_bestBuyer_26 (by decide) ?_
            refine R.aload_n dX13_bestBuyer_29 rfl (by first | rfl | exact rfv_rf _) ?_
            refine R.iload_n dX13_bestBuyer_30 rfl ?_
            refine R.iload_n dX13_bestBuyer_31 rfl ?_
            refine cl_X13_160 rfl rfl (by first | exact Nat.le_of_ble_eq_true rfl | simp [rf_cat, Value.category]) dX13_bestBuyer_32 ?_
            refine m_refuses (d := d + 16) hL hR hi (hV.mo (by omega) (by omega)) hV.r6 hk ?_
            refine R.if_ne (tgt := 65) dX13_bestBuyer_35 (by decide) (fun c9 => absurd (e0) c9) (fun _ => ?_)
            change WP _ _ _ [_, _, .int (-1), _] _ _ _
            refine R.iload_n dX13_bestBuyer_38 rfl ?_
            refine R.iconst (v := (-1)) dX13_bestBuyer_39 rfl ?_
            refine R.icmp_eq (tgt := 63) dX13_bestBuyer_40 (by decide) (fun _ => ?_) (fun c9 => absurd (rfl) c9)
            refine R.iload_n dX13_bestBuyer_63 rfl ?_
            refine R.istore_n dX13_bestBuyer_64 (Nat.le_of_ble_eq_true rfl) (by decide) (by first | rfl | simp [lft, rf_cat]) rfl ?_
            refine R.iinc dX13_bestBuyer_65 (Nat.le_of_ble_eq_true rfl) (by decide) (by first | rfl | simp [lft, rf_cat]) rfl (inc_nI _) rfl ?_
            refine R.goto (tgt := 19) dX13_bestBuyer_68 (by decide) ?_
            exact ih (k + 1) (some k) (by omega) (fun c e => by cases e; omega) hq2
          | some c =>
            have hc := hr c rfl
            by_cases e1 : yB (kY S) c 4 < yB (kY S) k 4
            · rw [if_pos (by unfold mtC; rw [decide_eq_true h5, decide_eq_true e0]; simpa using e1)] at hq2
              refine R.iload_n dX13_bestBuyer_19 rfl ?_
              refine R.aload_n dX13_bestBuyer_20 rfl (by first | rfl | exact rfv_rf _) ?_
              refine R.getS (hL.w) dX13_bestBuyer_21 fl_X13_7 (by decide) rfl ?_
              refine R.iconst (v := nI 1) dX13_bestBuyer_24 rfl ?_
              refine R.ialdN (k := 1) dX13_bestBuyer_25 (by omega) (by show _ < mN M1 14 0; rw [hL.n]; omega) ?_
              rw [mI_sWc]
              rw [hR.h.1, hV.f5]
              refine R.geF (tgt := 71) (nI_ge (show k < b by omega) (by omega)) dX13_bestBuyer_26 (by decide) ?_
              refine R.aload_n dX13_bestBuyer_29 rfl (by first | rfl | exact rfv_rf _) ?_
              refine R.iload_n dX13_bestBuyer_30 rfl ?_
              refine R.iload_n dX13_bestBuyer_31 rfl ?_
              refine cl_X13_160 rfl rfl (by first | exact Nat.le_of_ble_eq_true rfl | simp [rf_cat, Value.category]) dX13_bestBuyer_32 ?_
              refine m_refuses (d := d + 16) hL hR hi (hV.mo (by omega) (by omega)) hV.r6 hk ?_
              refine R.if_ne (tgt := 65) dX13_bestBuyer_35 (by decide) (fun c9 => absurd (e0) c9) (fun _ => ?_)
              change WP _ _ _ [_, _, .int (nI c), _] _ _ _
              refine R.iload_n dX13_bestBuyer_38 rfl ?_
              refine R.iconst (v := (-1)) dX13_bestBuyer_39 rfl ?_
              refine R.icmp_eq (tgt := 63) dX13_bestBuyer_40 (by decide) (fun c9 => absurd c9 (nI_m1 (by omega))) (fun _ => ?_)
              refine R.aload_n dX13_bestBuyer_43 rfl (by first | rfl | exact rfv_rf _) ?_
              refine R.iload_n dX13_bestBuyer_44 rfl ?_
              refine R.bipush (v := nI 9) dX13_bestBuyer_45 (by decide) ?_
              refine cl_X13_154 rfl rfl (by first | exact Nat.le_of_ble_eq_true rfl | simp [rf_cat, Value.category]) dX13_bestBuyer_47 ?_
              refine m_ofB hL (by omega) (by omega) ?_
              rw [(hR.bu (by omega : k < 6)).2.2.1]
              refine R.aload_n dX13_bestBuyer_50 rfl (by first | rfl | exact rfv_rf _) ?_
              refine R.iload_n dX13_bestBuyer_51 rfl ?_
              refine R.bipush (v := nI 9) dX13_bestBuyer_52 (by decide) ?_
              refine cl_X13_154 rfl rfl (by first | exact Nat.le_of_ble_eq_true rfl | simp [rf_cat, Value.category]) dX13_bestBuyer_54 ?_
              refine m_ofB hL (by omega) (by omega) ?_
              rw [(hR.bu (by omega : c < 6)).2.2.1]
              refine R.icmp_gt (tgt := 63) dX13_bestBuyer_57 (by decide) (fun _ => ?_) (fun c9 => absurd (e1) c9)
              refine R.iload_n dX13_bestBuyer_63 rfl ?_
              refine R.istore_n dX13_bestBuyer_64 (Nat.le_of_ble_eq_true rfl) (by decide) (by first | rfl | simp [lft, rf_cat]) rfl ?_
              refine R.iinc dX13_bestBuyer_65 (Nat.le_of_ble_eq_true rfl) (by decide) (by first | rfl | simp [lft, rf_cat]) rfl (inc_nI _) rfl ?_
              refine R.goto (tgt := 19) dX13_bestBuyer_68 (by decide) ?_
              exact ih (k + 1) (some k) (by omega) (fun c e => by cases e; omega) hq2
            · rw [if_neg (by unfold mtC; rw [decide_eq_true h5, decide_eq_true e0]; simpa using e1)] at hq2
              refine R.iload_n dX13_bestBuyer_19 rfl ?_
              refine R.aload_n dX13_bestBuyer_20 rfl (by first | rfl | exact rfv_rf _) ?_
              refine R.getS (hL.w) dX13_bestBuyer_21 fl_X13_7 (by decide) rfl ?_
              refine R.iconst (v := nI 1) dX13_bestBuyer_24 rfl ?_
              refine R.ialdN (k := 1) dX13_bestBuyer_25 (by omega) (by show _ < mN M1 14 0; rw [hL.n]; omega) ?_
              rw [mI_sWc]
              rw [hR.h.1, hV.f5]
              refine R.geF (tgt := 71) (nI_ge (show k < b by omega) (by omega)) dX13_bestBuyer_26 (by decide) ?_
              refine R.aload_n dX13_bestBuyer_29 rfl (by first | rfl | exact rfv_rf _) ?_
              refine R.iload_n dX13_bestBuyer_30 rfl ?_
              refine R.iload_n dX13_bestBuyer_31 rfl ?_
              refine cl_X13_160 rfl rfl (by first | exact Nat.le_of_ble_eq_true rfl | simp [rf_cat, Value.category]) dX13_bestBuyer_32 ?_
              refine m_refuses (d := d + 16) hL hR hi (hV.mo (by omega) (by omega)) hV.r6 hk ?_
              refine R.if_ne (tgt := 65) dX13_bestBuyer_35 (by decide) (fun c9 => absurd (e0) c9) (fun _ => ?_)
              change WP _ _ _ [_, _, .int (nI c), _] _ _ _
              refine R.iload_n dX13_bestBuyer_38 rfl ?_
              refine R.iconst (v := (-1)) dX13_bestBuyer_39 rfl ?_
              refine R.icmp_eq (tgt := 63) dX13_bestBuyer_40 (by decide) (fun c9 => absurd c9 (nI_m1 (by omega))) (fun _ => ?_)
              refine R.aload_n dX13_bestBuyer_43 rfl (by first | rfl | exact rfv_rf _) ?_
              refine R.iload_n dX13_bestBuyer_44 rfl ?_
              refine R.bipush (v := nI 9) dX13_bestBuyer_45 (by decide) ?_
              refine cl_X13_154 rfl rfl (by first | exact Nat.le_of_ble_eq_true rfl | simp [rf_cat, Value.category]) dX13_bestBuyer_47 ?_
              refine m_ofB hL (by omega) (by omega) ?_
              rw [(hR.bu (by omega : k < 6)).2.2.1]
              refine R.aload_n dX13_bestBuyer_50 rfl (by first | rfl | exact rfv_rf _) ?_
              refine R.iload_n dX13_bestBuyer_51 rfl ?_
              refine R.bipush (v := nI 9) dX13_bestBuyer_52 (by decide) ?_
              refine cl_X13_154 rfl rfl (by first | exact Nat.le_of_ble_eq_true rfl | simp [rf_cat, Value.category]) dX13_bestBuyer_54 ?_
              refine m_ofB hL (by omega) (by omega) ?_
              rw [(hR.bu (by omega : c < 6)).2.2.1]
              refine R.icmp_gt (tgt := 63) dX13_bestBuyer_57 (by decide) (fun c9 => absurd c9 (e1)) (fun _ => ?_)
              refine R.goto (tgt := 65) dX13_bestBuyer_60 (by decide) ?_
              refine R.iinc dX13_bestBuyer_65 (Nat.le_of_ble_eq_true rfl) (by decide) (by first | rfl | simp [lft, rf_cat]) rfl (inc_nI _) rfl ?_
              refine R.goto (tgt := 19) dX13_bestBuyer_68 (by decide) ?_
              exact ih (k + 1) (some c) (by omega) hr hq2
        · rw [if_neg (by unfold mtC; rw [decide_eq_true h5, decide_eq_false e0]; simp)] at hq2
          refine R.iload_n dX13_bestBuyer_19 rfl ?_
          refine R.aload_n dX13_bestBuyer_20 rfl (by first | rfl | exact rfv_rf _) ?_
          refine R.getS (hL.w) dX13_bestBuyer_21 fl_X13_7 (by decide) rfl ?_
          refine R.iconst (v := nI 1) dX13_bestBuyer_24 rfl ?_
          refine R.ialdN (k := 1) dX13_bestBuyer_25 (by omega) (by show _ < mN M1 14 0; rw [hL.n]; omega) ?_
          rw [mI_sWc]
          rw [hR.h.1, hV.f5]
          refine R.geF (tgt := 71) (nI_ge (show k < b by omega) (by omega)) dX13_bestBuyer_26 (by decide) ?_
          refine R.aload_n dX13_bestBuyer_29 rfl (by first | rfl | exact rfv_rf _) ?_
          refine R.iload_n dX13_bestBuyer_30 rfl ?_
          refine R.iload_n dX13_bestBuyer_31 rfl ?_
          refine cl_X13_160 rfl rfl (by first | exact Nat.le_of_ble_eq_true rfl | simp [rf_cat, Value.category]) dX13_bestBuyer_32 ?_
          refine m_refuses (d := d + 16) hL hR hi (hV.mo (by omega) (by omega)) hV.r6 hk ?_
          refine R.if_ne (tgt := 65) dX13_bestBuyer_35 (by decide) (fun _ => ?_) (fun c9 => absurd c9 (e0))
          refine R.iinc dX13_bestBuyer_65 (Nat.le_of_ble_eq_true rfl) (by decide) (by first | rfl | simp [lft, rf_cat]) rfl (inc_nI _) rfl ?_
          refine R.goto (tgt := 19) dX13_bestBuyer_68 (by decide) ?_
          exact ih (k + 1) r (by omega) hr hq2
    refine R.aload_n dX13_bestBuyer_5 rfl (by first | rfl | exact rfv_rf _) ?_
    refine R.iload_n dX13_bestBuyer_6 rfl ?_
    refine cl_X13_395 rfl rfl (by first | exact Nat.le_of_ble_eq_true rfl | simp [rf_cat, Value.category]) dX13_bestBuyer_7 ?_
    refine m_noCS hL hR hV.f4 hx ?_
    refine R.if_eq (tgt := 15) dX13_bestBuyer_10 (by decide) (fun _ => ?_) (fun c9 => absurd (rfl) c9)
    refine R.iconst (v := (-1)) dX13_bestBuyer_15 rfl ?_
    refine R.istore_n dX13_bestBuyer_16 (Nat.le_of_ble_eq_true rfl) (by decide) (by first | rfl | simp [lft, rf_cat]) rfl ?_
    refine R.iconst (v := nI 0) dX13_bestBuyer_17 rfl ?_
    refine R.istore_n dX13_bestBuyer_18 (Nat.le_of_ble_eq_true rfl) (by decide) (by first | rfl | simp [lft, rf_cat]) rfl ?_
    exact key b 0 none (by omega) (fun c e => nomatch e) hq
def QMf (Q : Out → Mem → Prop) (M : Mem) (S : KS) (T : Nat) (v : UInt32) : Prop := ∀ M', MSt M' S T → mI M' 11 0 7 = 0 → Fr inM M M' → Q (.inl (some (.float v))) M'
set_option maxHeartbeats 2000000 in
set_option maxRecDepth 4000 in
theorem n_averageTrust {d T : Nat} {S : KS} {M : Mem} {Q : Out → Mem → Prop} (h : MSt M S T) (hT : T ≤ 57000) (hNF : NF) (hq : QMf Q M S T (avT (kY S))) : WPc (d + 20) mX13_averageTrust [.ref (rf 11 0)] M Q := by
  refine WPc.of (by decide +kernel) (Nat.le_of_ble_eq_true rfl) rfl ?_
  refine R.aload_n dX13_averageTrust_0 rfl (by first | rfl | exact rfv_rf _) ?_
  refine R.iconst (v := 0) dX13_averageTrust_1 rfl ?_
  refine R.putI dX13_averageTrust_2 fl_X13_65 (fun q hq => by cases hq; exact Or.inl rfl) (by decide) rfl rfl rfl ?_
  have h1 := h.th 0
  have F1 := Fr_th M 0
  have z1 : mI (sI M 11 0 7 0) 11 0 7 = 0 := th7 M 0
  generalize sI M 11 0 7 0 = M1 at h1 F1 z1 ⊢
  obtain ⟨m, b, hR, hV⟩ := h1.y
  have hL := h1.l
  have hm16 := hV.m16
  have hb6 := hV.b6
  rw [← bW (M := M1) rfl]
  generalize hw : mI M1 14 0 = w at hR ⊢
  have key : ∀ (f k : Nat) (a : Int32), k + f = b → QMf Q M S T (if yF (kY S) 5 = 0 then 0 else FP.fdiv (FP.i2f (trF (kY S) (6 - k) k a)) (FP.i2f (yF (kY S) 5))) → WP mX13_averageTrust (d + 20) 9 [.ref (rf 11 0), .int a, .int (nI k)] [] (sW M1 w) Q := by
    intro f
    induction f with
    | zero =>
      intro k a hk hq2
      have ek : k = b := by omega
      subst ek
      rw [trF_z _ _ _ (fun j h1 h2 => (hV.z.2 j (by omega) h1).2)] at hq2
      by_cases z5 : yF (kY S) 5 = 0
      · rw [if_pos z5] at hq2
        refine R.iload_n dX13_averageTrust_9 rfl ?_
        refine R.aload_n dX13_averageTrust_10 rfl (by first | rfl | exact rfv_rf _) ?_
        refine R.getS (hL.w) dX13_averageTrust_11 fl_X13_7 (by decide) rfl ?_
        refine R.iconst (v := nI 1) dX13_averageTrust_14 rfl ?_
        refine R.ialdN (k := 1) dX13_averageTrust_15 (by omega) (by show _ < mN M1 14 0; rw [hL.n]; omega) ?_
        rw [mI_sWc]
        rw [hR.h.1, hV.f5]
        refine R.geT (tgt := 35) (Int32.le_refl _) dX13_averageTrust_16 (by decide) ?_
        refine R.aload_n dX13_averageTrust_35 rfl (by first | rfl | exact rfv_rf _) ?_
        refine R.getS (hL.w) dX13_averageTrust_36 fl_X13_7 (by decide) rfl ?_
        refine R.iconst (v := nI 1) dX13_averageTrust_39 rfl ?_
        refine R.ialdN (k := 1) dX13_averageTrust_40 (by omega) (by show _ < mN M1 14 0; rw [hL.n]; omega) ?_
        rw [mI_sWc]
        rw [hR.h.1]
        refine R.if_ne (tgt := 48) dX13_averageTrust_41 (by decide) (fun c9 => absurd (z5) c9) (fun _ => ?_)
        refine R.fconst0 dX13_averageTrust_44 ?_
        refine R.goto (tgt := 58) dX13_averageTrust_45 (by decide) ?_
        refine WP.ret (ov := some (.float _)) dX13_averageTrust_58 ⟨rfl, rfl⟩ ?_
        rw [bW hw]
        exact hq2 _ h1 z1 F1
      · rw [if_neg z5] at hq2
        refine R.iload_n dX13_averageTrust_9 rfl ?_
        refine R.aload_n dX13_averageTrust_10 rfl (by first | rfl | exact rfv_rf _) ?_
        refine R.getS (hL.w) dX13_averageTrust_11 fl_X13_7 (by decide) rfl ?_
        refine R.iconst (v := nI 1) dX13_averageTrust_14 rfl ?_
        refine R.ialdN (k := 1) dX13_averageTrust_15 (by omega) (by show _ < mN M1 14 0; rw [hL.n]; omega) ?_
        rw [mI_sWc]
        rw [hR.h.1, hV.f5]
        refine R.geT (tgt := 35) (Int32.le_refl _) dX13_averageTrust_16 (by decide) ?_
        refine R.aload_n dX13_averageTrust_35 rfl (by first | rfl | exact rfv_rf _) ?_
        refine R.getS (hL.w) dX13_averageTrust_36 fl_X13_7 (by decide) rfl ?_
        refine R.iconst (v := nI 1) dX13_averageTrust_39 rfl ?_
        refine R.ialdN (k := 1) dX13_averageTrust_40 (by omega) (by show _ < mN M1 14 0; rw [hL.n]; omega) ?_
        rw [mI_sWc]
        rw [hR.h.1]
        refine R.if_ne (tgt := 48) dX13_averageTrust_41 (by decide) (fun _ => ?_) (fun c9 => absurd c9 (z5))
        refine R.iload_n dX13_averageTrust_48 rfl ?_
        refine R.i2f dX13_averageTrust_49 ?_
        refine R.aload_n dX13_averageTrust_50 rfl (by first | rfl | exact rfv_rf _) ?_
        refine R.getS (hL.w) dX13_averageTrust_51 fl_X13_7 (by decide) rfl ?_
        refine R.iconst (v := nI 1) dX13_averageTrust_54 rfl ?_
        refine R.ialdN (k := 1) dX13_averageTrust_55 (by omega) (by show _ < mN M1 14 0; rw [hL.n]; omega) ?_
        rw [mI_sWc]
        rw [hR.h.1]
        refine R.i2f dX13_averageTrust_56 ?_
        refine R.fdiv dX13_averageTrust_57 (hNF.2.2 _ _ z5) ?_
        refine WP.ret (ov := some (.float _)) dX13_averageTrust_58 ⟨rfl, rfl⟩ ?_
        rw [bW hw]
        exact hq2 _ h1 z1 F1
    | succ f ih =>
      intro k a hf hq2
      have hk : k < b := by omega
      rw [show 6 - k = (6 - (k + 1)) + 1 by omega, trF] at hq2
      refine R.iload_n dX13_averageTrust_9 rfl ?_
      refine R.aload_n dX13_averageTrust_10 rfl (by first | rfl | exact rfv_rf _) ?_
      refine R.getS (hL.w) dX13_averageTrust_11 fl_X13_7 (by decide) rfl ?_
      refine R.iconst (v := nI 1) dX13_averageTrust_14 rfl ?_
      refine R.ialdN (k := 1) dX13_averageTrust_15 (by omega) (by show _ < mN M1 14 0; rw [hL.n]; omega) ?_
      rw [mI_sWc]
      rw [hR.h.1, hV.f5]
      refine R.geF (tgt := 35) (nI_ge (show k < b by omega) (by omega)) dX13_averageTrust_16 (by decide) ?_
      refine R.iload_n dX13_averageTrust_19 rfl ?_
      refine R.aload_n dX13_averageTrust_20 rfl (by first | rfl | exact rfv_rf _) ?_
      refine R.iload_n dX13_averageTrust_21 rfl ?_
      refine R.bipush (v := nI 9) dX13_averageTrust_22 (by decide) ?_
      refine cl_X13_154 rfl rfl (by first | exact Nat.le_of_ble_eq_true rfl | simp [rf_cat, Value.category]) dX13_averageTrust_24 ?_
      refine m_ofB hL (by omega) (by omega) ?_
      rw [(hR.bu (by omega : k < 6)).2.2.1]
      refine R.iadd dX13_averageTrust_27 ?_
      refine R.istore_n dX13_averageTrust_28 (Nat.le_of_ble_eq_true rfl) (by decide) (by first | rfl | simp [lft, rf_cat]) rfl ?_
      refine R.iinc dX13_averageTrust_29 (Nat.le_of_ble_eq_true rfl) (by decide) (by first | rfl | simp [lft, rf_cat]) rfl (inc_nI _) rfl ?_
      refine R.goto (tgt := 9) dX13_averageTrust_32 (by decide) ?_
      exact ih (k + 1) _ (by omega) hq2
  refine R.iconst (v := 0) dX13_averageTrust_5 rfl ?_
  refine R.istore_n dX13_averageTrust_6 (Nat.le_of_ble_eq_true rfl) (by decide) (by first | rfl | simp [lft, rf_cat]) rfl ?_
  refine R.iconst (v := nI 0) dX13_averageTrust_7 rfl ?_
  refine R.istore_n dX13_averageTrust_8 (Nat.le_of_ble_eq_true rfl) (by decide) (by first | rfl | simp [lft, rf_cat]) rfl ?_
  exact key b 0 0 (by omega) hq
theorem i_arc (a b c : Int32) : a + b + c = a + c + b := by rw [Int32.add_assoc, Int32.add_comm b c, ← Int32.add_assoc]
theorem Fr_sA9 (M : Mem) (v : Nat) (g : Nat → Int32) : Fr inM M (sA M v g) := ⟨rfl, rfl, rfl, rfl, fun k i hn => ⟨mI_sAn M v g (fun z => hn (Or.inr z.1)), rfl, rfl, rfl⟩⟩
theorem gc_own {Y : Yd} {m b T : Nat} (h : PV Y m b T) (hT : T < 2 ^ 31) : ∀ n i, i < 16 → (∀ x, x < 16 → itO (yP Y) (n + 1) (some x) ≠ some i) → gcF Y n i = yC Y i 4 := by
  intro n
  induction n with
  | zero =>
    intro i hi hN
    rw [gcF, h.l i hi, sm_z, az]
    intro c hc
    rw [if_neg]
    intro e
    exact hN c hc e
  | succ n ih =>
    intro i hi hN
    rw [gcF, h.l i hi]
    have hD := h.sb hT
    have := gcL_e hD (gcF Y n) 17 0 (yC Y i 2 + yC Y i 3) (Nat.lt_succ_of_le (nG_le Y i 0))
    rw [show caF Y i 0 16 0 none = fCh Y i from rfl] at this
    rw [this]
    refine congrArg (HAdd.hAdd _) (sm_c fun k hk => ?_)
    by_cases e : yP Y k = some i
    · rw [if_pos e, if_pos ⟨e, hD.1 k hk i e⟩]
      exact ih k hk fun x hx q => hN x hx (it_st q e)
    · rw [if_neg e, if_neg (fun q => e q.1)]
theorem ga_own {Y : Yd} {i : Nat} : ∀ (n k : Nat) (a : Int32), k + n = 16 → gaF Y i n k a + sm (fun c => if inO 6 (yP Y) (some c) i = true then yC Y c 2 + yC Y c 3 else 0) k = a + sm (fun c => if inO 6 (yP Y) (some c) i = true then yC Y c 2 + yC Y c 3 else 0) 16 := by
  intro n
  induction n with
  | zero =>
    intro k a hk
    rw [gaF, show k = 16 by omega]
  | succ n ih =>
    intro k a hk
    have q := ih (k + 1) (if ins Y k i = true then a + (yC Y k 2 + yC Y k 3) else a) (by omega)
    rw [sm] at q
    rw [gaF]
    unfold ins at q ⊢
    by_cases z : inO 6 (yP Y) (some k) i = true
    · rw [if_pos z, if_pos z] at q
      rw [if_pos z]
      rw [i_arc a] at q
      refine (Int32.add_left_inj (yC Y k 2 + yC Y k 3)).mp ?_
      rw [Int32.add_assoc]
      exact q
    · rw [if_neg z, if_neg z, Int32.add_zero] at q
      rw [if_neg z]
      exact q
theorem ao_1 {Y : Yd} {m b T : Nat} (h : PV Y m b T) (hT : T ≤ 57000) : ∀ n i, i + n = 16 → aoF Y n i = 1 := by
  intro n
  induction n with
  | zero => intro i _; rfl
  | succ n ih =>
    intro i hi
    have g5 := gc_own h (by omega) 5 i (by omega) (fun x hx q => by rw [h.i6 x hx] at q; cases q)
    have gA := ga_own (Y := Y) (i := i) 16 0 0 (by omega)
    rw [sm, Int32.add_zero, Int32.zero_add, ← h.un (by omega)] at gA
    rw [aoF, if_pos ⟨g5, g5.trans gA.symm, (h.sq (by omega) (by omega)).2⟩]
    exact ih (i + 1) (by omega)
theorem mo_a {Y : Yd} : ∀ (n i : Nat) (a c : Int32), moF Y n i (a + c) = moF Y n i a + c := by
  intro n
  induction n with
  | zero => intro i a c; rfl
  | succ n ih =>
    intro i a c
    rw [moF, moF, ← ih, i_arc]
theorem co_eq {Y : Yd} {m b T : Nat} (h : PV Y m b T) (hT : T ≤ 57000) : coY Y = if moF Y 6 0 0 + yT Y 4 - yT Y 5 = yT Y 6 ∧ yT Y 0 = stF Y 16 0 0 + yT Y 1 then 1 else 0 := by
  unfold coY
  rw [ao_1 h hT 16 0 (by omega), if_neg (by decide)]
  have e : moF Y 6 0 (yT Y 4 - yT Y 5) = moF Y 6 0 0 + yT Y 4 - yT Y 5 := by
    rw [show yT Y 4 - yT Y 5 = 0 + (yT Y 4 - yT Y 5) from (Int32.zero_add _).symm, mo_a, Int32.sub_eq_add_neg, Int32.sub_eq_add_neg, Int32.add_assoc]
  rw [e]
  by_cases z1 : moF Y 6 0 0 + yT Y 4 - yT Y 5 = yT Y 6
  · by_cases z2 : yT Y 0 = stF Y 16 0 0 + yT Y 1
    · rw [if_neg (fun q => q z1), if_neg (fun q => q z2), if_pos ⟨z1, z2⟩]
    · rw [if_neg (fun q => q z1), if_pos z2, if_neg (fun q => z2 q.2)]
  · rw [if_pos z1, if_neg (fun q => z1 q.1)]
theorem n_isConsistent {d T : Nat} {S : KS} {M : Mem} {Q : Out → Mem → Prop} (h : MSt M S T) (hT : T ≤ 57000) (hq : QMa Q M S T cdA (.inl (coY (kY S)))) : WPc (d + 20) mX13_isConsistent [.ref (rf 11 0)] M Q := by
  obtain ⟨m, b, hR, hV⟩ := h.y
  have hm := hV.m16
  refine atW rfl (m_cons (d := d + 10) h.l hR hV.l hV.acy (fun c hc => hV.sq (by omega) (by omega)) hV.f5 hV.z (fun g => ?_))
  rw [← co_eq hV hT]
  have e9 : sA (sW (sI M 11 0 7 0) (mI M 14 0)) 9 g = sA (sI M 11 0 7 0) 9 g := by
    rw [bW (show mI (sI M 11 0 7 0) 14 0 = mI M 14 0 from rfl)]
  rw [e9]
  refine hq _ ((h.th 0).fr rfl rfl (fun i hi => mI_sAn _ _ _ (by omega)) (fun f _ => by rw [mI_sAn _ _ _ (by decide)])) ?_ ((Fr_th M 0).tr ?_)
  · rw [mI_sAn _ _ _ (by decide)]; exact th7 M 0
  · exact Fr_sA9 _ _ _
set_option maxHeartbeats 2000000 in
set_option maxRecDepth 4000 in
theorem n_outputByte {d T : Nat} {S : KS} {M : Mem} {Q : Out → Mem → Prop} {x : Int32} (h : MSt M S T) (hT : T ≤ 57000) (hq : QMa Q M S T cdA (.inl (aOut S x))) : WPc (d + 20) mX13_outputByte [.ref (rf 11 0), .int x] M Q := by
  refine WPc.of (by decide +kernel) (Nat.le_of_ble_eq_true rfl) rfl ?_
  refine R.aload_n dX13_outputByte_0 rfl (by first | rfl | exact rfv_rf _) ?_
  refine R.iconst (v := 0) dX13_outputByte_1 rfl ?_
  refine R.putI dX13_outputByte_2 fl_X13_65 (fun q hq => by cases hq; exact Or.inl rfl) (by decide) rfl rfl rfl ?_
  have h1 := h.th 0
  have F1 := Fr_th M 0
  have z1 : mI (sI M 11 0 7 0) 11 0 7 = 0 := th7 M 0
  generalize sI M 11 0 7 0 = M1 at h1 F1 z1 ⊢
  obtain ⟨m, b, hR, hV⟩ := h1.y
  have hL := h1.l
  have hm16 := hV.m16
  have hb6 := hV.b6
  have ho := h1.o
  have hb := h1.ob.1
  have hN10 : mN M1 14 10 = 400 := hL.2.2.2.2.2.2.2.2.2.2.2
  unfold aOut at hq
  by_cases c0 : x < 0
  · rw [if_pos c0] at hq
    refine R.iload_n dX13_outputByte_5 rfl ?_
    refine R.iconst (v := 0) dX13_outputByte_6 rfl ?_
    refine R.aload_n dX13_outputByte_7 rfl (by first | rfl | exact rfv_rf _) ?_
    refine R.getI dX13_outputByte_8 fl_X13_435 (by decide) rfl ?_
    rw [ho.1]
    refine R.iconst (v := 1) dX13_outputByte_11 rfl ?_
    refine R.isub dX13_outputByte_12 ?_
    refine cl_X13_140 rfl rfl (by first | exact Nat.le_of_ble_eq_true rfl | simp [rf_cat, Value.category]) dX13_outputByte_13 ?_
    refine m_inR ?_
    rw [if_neg (fun q => (rg_any (by omega)).mp q (Or.inl c0))]
    refine R.if_eq (tgt := 28) dX13_outputByte_16 (by decide) (fun _ => ?_) (fun c9 => absurd (rfl) c9)
    refine R.iconst (v := (-1)) dX13_outputByte_28 rfl ?_
    refine WP.ret (ov := some (.int _)) dX13_outputByte_29 ⟨rfl, _, rfl, by first | rfl | assumption | exact nar_b01 (by assumption)⟩ ?_
    exact hq _ h1 z1 F1
  · rw [if_neg c0] at hq
    obtain ⟨j, hj, ex⟩ := nI_of c0
    subst ex
    rw [nI_clamp hj] at hq
    cases ej : (kO S)[j]? with
    | none =>
      simp only [ej] at hq
      have hl := List.getElem?_eq_none_iff.mp ej
      refine R.iload_n dX13_outputByte_5 rfl ?_
      refine R.iconst (v := 0) dX13_outputByte_6 rfl ?_
      refine R.aload_n dX13_outputByte_7 rfl (by first | rfl | exact rfv_rf _) ?_
      refine R.getI dX13_outputByte_8 fl_X13_435 (by decide) rfl ?_
      rw [ho.1]
      refine R.iconst (v := 1) dX13_outputByte_11 rfl ?_
      refine R.isub dX13_outputByte_12 ?_
      refine cl_X13_140 rfl rfl (by first | exact Nat.le_of_ble_eq_true rfl | simp [rf_cat, Value.category]) dX13_outputByte_13 ?_
      refine m_inR ?_
      rw [if_neg (fun q => (rg_any (by omega)).mp q (Or.inr (nI_le hl hj)))]
      refine R.if_eq (tgt := 28) dX13_outputByte_16 (by decide) (fun _ => ?_) (fun c9 => absurd (rfl) c9)
      refine R.iconst (v := (-1)) dX13_outputByte_28 rfl ?_
      refine WP.ret (ov := some (.int _)) dX13_outputByte_29 ⟨rfl, _, rfl, by first | rfl | assumption | exact nar_b01 (by assumption)⟩ ?_
      exact hq _ h1 z1 F1
    | some c =>
      simp only [ej] at hq
      have hjl := (List.getElem?_eq_some_iff.mp ej).1
      refine R.iload_n dX13_outputByte_5 rfl ?_
      refine R.iconst (v := 0) dX13_outputByte_6 rfl ?_
      refine R.aload_n dX13_outputByte_7 rfl (by first | rfl | exact rfv_rf _) ?_
      refine R.getI dX13_outputByte_8 fl_X13_435 (by decide) rfl ?_
      rw [ho.1]
      refine R.iconst (v := 1) dX13_outputByte_11 rfl ?_
      refine R.isub dX13_outputByte_12 ?_
      refine cl_X13_140 rfl rfl (by first | exact Nat.le_of_ble_eq_true rfl | simp [rf_cat, Value.category]) dX13_outputByte_13 ?_
      refine m_inR ?_
      rw [if_pos ((rg_any (by omega)).mpr (fun q => q.elim (nI_pos hj) (nI_ge hjl (by omega))))]
      refine R.if_eq (tgt := 28) dX13_outputByte_16 (by decide) (fun c9 => absurd c9 (by decide)) (fun _ => ?_)
      refine R.aload_n dX13_outputByte_19 rfl (by first | rfl | exact rfv_rf _) ?_
      refine R.getS (hL.1.2.2.2.2.2.2.2.2.2.2) dX13_outputByte_20 fl_X13_44 (by decide) rfl ?_
      refine R.iload_n dX13_outputByte_23 rfl ?_
      refine R.ialdN (k := j) dX13_outputByte_24 (by omega) (by rw [hN10]; omega) ?_
      rw [ho.2 j c ej]
      refine R.goto (tgt := 29) dX13_outputByte_25 (by decide) ?_
      refine WP.ret (ov := some (.int _)) dX13_outputByte_29 ⟨rfl, _, rfl, by first | rfl | assumption | exact nar_b01 (by assumption)⟩ ?_
      exact hq _ h1 z1 F1
