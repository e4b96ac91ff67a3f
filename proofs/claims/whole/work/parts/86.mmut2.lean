/-! the model's further changes -/
theorem rC_c {S : KS} {x : Int32} {f g : Nat → Rr} (h : ∀ i, kC (kY S) x = some i → f i = g i) : rC S x f = rC S x g := by
  unfold rC
  cases e : kC (kY S) x with
  | none => rfl
  | some i => exact h i e
theorem add_5 {x z : Int32} {g : Nat} (hx : x = nI g) (hg : g ≤ 500) (h1 : 1 ≤ z) (h2 : z ≤ 500) : (0 ≤ x + z ∧ x + z ≤ 500 ↔ x + z ≤ 500) ∧ (0 ≤ x + -z ∧ x + -z ≤ 500 ↔ z ≤ x) := by
  obtain ⟨k, hk, e⟩ := nI_of (x := z) (fun q => absurd (Int32.le_trans (show (0 : Int32) ≤ 1 by decide) h1) (i_nle q))
  have e5 : (500 : Int32) = nI 500 := rfl
  rw [e, e5] at h2
  have hk5 := (nI_leI hk (by omega)).mp h2
  subst e
  subst hx
  have e6 : nI g + -nI k = nI g - nI k := (Int32.sub_eq_add_neg _ _).symm
  rw [e6, nI_add9, e5, nI_leI (by omega) (by omega), nI_leI (by omega) (by omega)]
  refine ⟨⟨fun q => q.2, fun q => ⟨nI_pos' (by omega), q⟩⟩, ?_⟩
  rw [Int32.le_iff_toInt_le, Int32.le_iff_toInt_le, pk_sub_toInt (by omega) (by omega), nI_toInt (by omega), show (0 : Int32).toInt = 0 by decide]
  omega
theorem QMr.mo {Q Q' : Out → Mem → Prop} {M : Mem} {S : KS} {T : Nat} {cd : String → Int32} {r : Rr} (h : QMr Q M S T cd r) (k : ∀ v M', Q (.inl (some (.int v))) M' → Q' (.inl (some (.int v))) M') : QMr Q' M S T cd r := by
  cases r with
  | inl E => exact fun M' h1 h2 h3 => k _ _ (h M' h1 h2 h3)
  | inr t => exact fun M' h1 h2 h3 => k _ _ (h M' h1 h2 h3)
set_option maxHeartbeats 2000000 in
theorem n_addGoods {d T p : Nat} {S : KS} {M : Mem} {Q : Out → Mem → Prop} {x z : Int32} (h : MSt M S T) (hT : T ≤ 57000) (hq : QMr Q M S T cdC (rC S x fun i => if 1 ≤ z ∧ z ≤ 500 then (if (if ¬ yC (kY S) i 7 = 0 ∧ yC (kY S) i 3 + z ≤ 500 then (1 : Int32) else 0) = 0 then .inl eS else r1 S p (yC (cgY (kY S) i z) i 4) (cgY (kY S) i z)) else .inl eA)) : WPc (d + 20) mX13_addGoods [.ref (rf 11 0), .int x, .int z] M Q := by
  refine WPc.of (by decide +kernel) (Nat.le_of_ble_eq_true rfl) rfl ?_
  have hq2 : QMr Q M S T cdC (rC S x fun i => if 1 ≤ z ∧ z ≤ 500 then (if (if ¬ yC (kY S) i 7 = 0 ∧ 0 ≤ yC (kY S) i 3 + z ∧ yC (kY S) i 3 + z ≤ 500 then (1 : Int32) else 0) = 0 then .inl eS else r1 S p (yC (cgY (kY S) i z) i 4) (cgY (kY S) i z)) else .inl eA) := by
    rw [rC_c (g := fun i => if 1 ≤ z ∧ z ≤ 500 then (if (if ¬ yC (kY S) i 7 = 0 ∧ yC (kY S) i 3 + z ≤ 500 then (1 : Int32) else 0) = 0 then .inl eS else r1 S p (yC (cgY (kY S) i z) i 4) (cgY (kY S) i z)) else .inl eA) (fun i e => ?_)]
    · exact hq
    · obtain ⟨m, b, hR, hV⟩ := h.y
      obtain ⟨ex, hi⟩ := kC_m e hV.m16 hV.f4
      obtain ⟨ta, go, -, -, d3, d4⟩ := hV.d i (by have := hV.m16; omega)
      by_cases hr : 1 ≤ z ∧ z ≤ 500
      · have k := (add_5 d3 d4 hr.1 hr.2).1
        simp only [if_pos hr, k]
      · simp only [if_neg hr]
  refine R.aload_n dX13_addGoods_0 rfl (by first | rfl | exact rfv_rf _) ?_
  refine R.iconst (v := 0) dX13_addGoods_1 rfl ?_
  refine R.putI dX13_addGoods_2 fl_X13_65 (fun q hq => by cases hq; exact Or.inl rfl) (by decide) rfl rfl rfl ?_
  refine R.aload_n dX13_addGoods_5 rfl (by first | rfl | exact rfv_rf _) ?_
  refine R.iload_n dX13_addGoods_6 rfl ?_
  refine R.iload_n dX13_addGoods_7 rfl ?_
  refine R.iload_n dX13_addGoods_8 rfl ?_
  refine cl_X13_431 rfl rfl (by first | exact Nat.le_of_ble_eq_true rfl | simp [rf_cat, Value.category]) dX13_addGoods_9 ?_
  refine n_chg (d := d) (p := p) (y := z) (h.th 0) hT (Fr_th M 0) (th7 M 0) ?_
  refine QMr.mo hq2 (fun v M9 q9 => ?_)
  refine WP.ret (ov := some (.int _)) dX13_addGoods_12 ⟨rfl, _, rfl, by first | rfl | assumption | exact nar_b01 (by assumption)⟩ ?_
  exact q9
set_option maxHeartbeats 2000000 in
theorem n_removeGoods {d T p : Nat} {S : KS} {M : Mem} {Q : Out → Mem → Prop} {x z : Int32} (h : MSt M S T) (hT : T ≤ 57000) (hq : QMr Q M S T cdC (rC S x fun i => if 1 ≤ z ∧ z ≤ 500 then (if (if ¬ yC (kY S) i 7 = 0 ∧ z ≤ yC (kY S) i 3 then (1 : Int32) else 0) = 0 then .inl eS else r1 S p (yC (cgY (kY S) i (-z)) i 4) (cgY (kY S) i (-z))) else .inl eA)) : WPc (d + 20) mX13_removeGoods [.ref (rf 11 0), .int x, .int z] M Q := by
  refine WPc.of (by decide +kernel) (Nat.le_of_ble_eq_true rfl) rfl ?_
  have hq2 : QMr Q M S T cdC (rC S x fun i => if 1 ≤ z ∧ z ≤ 500 then (if (if ¬ yC (kY S) i 7 = 0 ∧ 0 ≤ yC (kY S) i 3 + (-z) ∧ yC (kY S) i 3 + (-z) ≤ 500 then (1 : Int32) else 0) = 0 then .inl eS else r1 S p (yC (cgY (kY S) i (-z)) i 4) (cgY (kY S) i (-z))) else .inl eA) := by
    rw [rC_c (g := fun i => if 1 ≤ z ∧ z ≤ 500 then (if (if ¬ yC (kY S) i 7 = 0 ∧ z ≤ yC (kY S) i 3 then (1 : Int32) else 0) = 0 then .inl eS else r1 S p (yC (cgY (kY S) i (-z)) i 4) (cgY (kY S) i (-z))) else .inl eA) (fun i e => ?_)]
    · exact hq
    · obtain ⟨m, b, hR, hV⟩ := h.y
      obtain ⟨ex, hi⟩ := kC_m e hV.m16 hV.f4
      obtain ⟨ta, go, -, -, d3, d4⟩ := hV.d i (by have := hV.m16; omega)
      by_cases hr : 1 ≤ z ∧ z ≤ 500
      · have k := (add_5 d3 d4 hr.1 hr.2).2
        simp only [if_pos hr, k]
      · simp only [if_neg hr]
  refine R.aload_n dX13_removeGoods_0 rfl (by first | rfl | exact rfv_rf _) ?_
  refine R.iconst (v := 0) dX13_removeGoods_1 rfl ?_
  refine R.putI dX13_removeGoods_2 fl_X13_65 (fun q hq => by cases hq; exact Or.inl rfl) (by decide) rfl rfl rfl ?_
  refine R.aload_n dX13_removeGoods_5 rfl (by first | rfl | exact rfv_rf _) ?_
  refine R.iload_n dX13_removeGoods_6 rfl ?_
  refine R.iload_n dX13_removeGoods_7 rfl ?_
  refine R.iload_n dX13_removeGoods_8 rfl ?_
  refine R.ineg dX13_removeGoods_9 ?_
  refine cl_X13_431 rfl rfl (by first | exact Nat.le_of_ble_eq_true rfl | simp [rf_cat, Value.category]) dX13_removeGoods_10 ?_
  refine n_chg (d := d) (p := p) (y := (-z)) (h.th 0) hT (Fr_th M 0) (th7 M 0) ?_
  refine QMr.mo hq2 (fun v M9 q9 => ?_)
  refine WP.ret (ov := some (.int _)) dX13_removeGoods_13 ⟨rfl, _, rfl, by first | rfl | assumption | exact nar_b01 (by assumption)⟩ ?_
  exact q9
