/-! the model does an order -/
/-- readings an order costs -/
def ct (t : St) : Nat := if t.1 = 0 then t.2.2.2.toNatClampNeg else 1
section EXS
variable {Y : Yd} {c9 o9 : Nat} {y9 : Int32}
theorem exY_0 : exY Y (0, c9, o9, y9) = if yC Y c9 7 = 0 then (0, Y) else (1, tkN c9 y9.toNatClampNeg Y) := rfl
theorem exY_1 : exY Y (1, c9, o9, y9) = if yC Y c9 7 = 0 then (0, Y) else if ¬ yC Y c9 7 = 0 ∧ yC Y c9 3 + y9 ≤ 500 then (1, cgY Y c9 y9) else (0, Y) := rfl
theorem exY_2 : exY Y (2, c9, o9, y9) = if yC Y c9 7 = 0 then (0, Y) else if ¬ yC Y c9 7 = 0 ∧ y9 ≤ yC Y c9 3 then (1, cgY Y c9 (-y9)) else (0, Y) := rfl
theorem exY_3 : exY Y (3, c9, o9, y9) = if yC Y c9 7 = 0 then (0, Y) else if yCan Y c9 o9 = 0 then (0, Y) else (1, neY Y c9 o9) := rfl
theorem exY_4 : exY Y (4, c9, o9, y9) = if yC Y c9 7 = 0 then ((0 : Int32), Y) else match yP Y c9 with
    | none => ((0 : Int32), Y)
    | some _ => ((1 : Int32), unY Y c9) := rfl
theorem exY_5 : exY Y (5, c9, o9, y9) = (1, spY Y) := rfl
theorem exY_6 : exY Y (6, c9, o9, y9) = if yC Y c9 7 = 0 then (0, Y) else if yRef Y c9 o9 = 0 then (1, trY Y c9 o9) else (0, Y) := rfl
theorem exY_7 : exY Y (7, c9, o9, y9) = (1, uS Y 1 y9) := rfl
theorem exY_8 : exY Y (8, c9, o9, y9) = (1, uS Y 2 y9) := rfl
end EXS
theorem CV.cm {Y : Yd} {m b9 T v c o9 : Nat} {y9 : Int32} (hC : CV Y (v, c, o9, y9)) (hV : PV Y m b9 T) (e : nCr v = true) : c < m := by
  obtain ⟨h1, h2⟩ := hC.1 e
  have h1 : c < 16 := h1
  have h2 : ¬ yF Y 4 ≤ nI c := h2
  have hm := hV.m16
  rw [hV.f4] at h2
  have : ¬ m ≤ c := fun z => h2 ((nI_leI (by omega) (by omega)).mpr z)
  omega
theorem CV.om {Y : Yd} {m b9 T c o9 : Nat} {y9 : Int32} (hC : CV Y (3, c, o9, y9)) (hV : PV Y m b9 T) : o9 < m := by
  obtain ⟨h1, h2⟩ := hC.2.1 rfl
  have h1 : o9 < 16 := h1
  have h2 : ¬ yF Y 4 ≤ nI o9 := h2
  have hm := hV.m16
  rw [hV.f4] at h2
  have : ¬ m ≤ o9 := fun z => h2 ((nI_leI (by omega) (by omega)).mpr z)
  omega
theorem CV.ob {Y : Yd} {m b9 T c o9 : Nat} {y9 : Int32} (hC : CV Y (6, c, o9, y9)) (hV : PV Y m b9 T) : o9 < b9 := by
  obtain ⟨h1, h2⟩ := hC.2.2.1 rfl
  have h1 : o9 < 6 := h1
  have h2 : ¬ yF Y 5 ≤ nI o9 := h2
  have hm := hV.b6
  rw [hV.f5] at h2
  have : ¬ b9 ≤ o9 := fun z => h2 ((nI_leI (by omega) (by omega)).mpr z)
  omega
set_option maxHeartbeats 2000000 in
set_option maxRecDepth 4000 in
theorem p_do0 {d T m b9 k c o9 : Nat} {y9 : Int32} {Y : Yd} {w : Nat → Int32} {M : Mem} {Q : Out → Mem → Prop} (hL : ML M) (hR : RW Y m b9 T w) (hV : PV Y m b9 T) (hk : k < 30) (hT : T + ct (0, c, o9, y9) ≤ 57000) (hO : OT (0, c, o9, y9) (mI M 14 7 k) (mI M 14 8 (2 * k)) (mI M 14 8 (2 * k + 1))) (hC : CV Y (0, c, o9, y9)) (hN : NV (0, c, o9, y9)) (hq : ∀ w', YI (exY Y (0, c, o9, y9)).2 (T + ct (0, c, o9, y9)) w' → Q (.inl (some (.int (exY Y (0, c, o9, y9)).1))) (sW M w')) : WPc (d + 13) mX13_does [.ref (rf 11 0), .int (nI k)] (sW M w) Q := by
  refine WPc.of (by decide +kernel) (Nat.le_of_ble_eq_true rfl) rfl ?_
  obtain ⟨o1, -, o3, o4, o5, o6⟩ := hO
  have o1n : mI M 14 7 k = nI 1 := o1
  have e7 : mI (sW M w) 14 7 = mI M 14 7 := mI_sWn _ _ (by decide)
  have e8 : mI (sW M w) 14 8 = mI M 14 8 := mI_sWn _ _ (by decide)
  have ea : mI M 14 8 (2 * k) = nI c := o3 rfl
  have hc : c < m := hC.cm hV rfl
  have hm16 := hV.m16
  obtain ⟨n9, en, hn⟩ := hC.2.2.2 rfl
  have en : y9 = nI n9 := en
  subst en
  have ex : mI M 14 8 (2 * k + 1) = nI n9 := o4 (Or.inl rfl)
  have ec : ct (0, c, o9, nI n9) = n9 := by show (nI n9).toNatClampNeg = n9; rw [nI_clamp (by omega)]
  rw [ec] at hT hq
  by_cases c7 : yC Y c 7 = 0
  · rw [exY_0, if_pos c7] at hq
    refine R.aload_n dX13_does_0 rfl (by first | rfl | exact rfv_rf _) ?_
    refine R.getS (hL.1.2.2.2.2.2.2.2.2.1) dX13_does_1 fl_X13_38 (by decide) rfl ?_
    refine R.iconst (v := nI 2) dX13_does_4 rfl ?_
    refine R.iload_n dX13_does_5 rfl ?_
    refine R.imul dX13_does_6 ?_
    rw [pk_mul]
    refine R.ialdN (k := 2 * k) dX13_does_7 (by omega) (by show _ < mN M 14 8; rw [hL.2.2.2.2.2.2.2.2.2.1]; omega) ?_
    rw [e8, ea]
    refine R.istore_n dX13_does_8 (Nat.le_of_ble_eq_true rfl) (by decide) (by first | rfl | simp [lft, rf_cat]) rfl ?_
    refine R.aload_n dX13_does_9 rfl (by first | rfl | exact rfv_rf _) ?_
    refine R.getS (hL.1.2.2.2.2.2.2.2.2.1) dX13_does_10 fl_X13_38 (by decide) rfl ?_
    refine R.iconst (v := nI 2) dX13_does_13 rfl ?_
    refine R.iload_n dX13_does_14 rfl ?_
    refine R.imul dX13_does_15 ?_
    rw [pk_mul]
    refine R.iconst (v := nI 1) dX13_does_16 rfl ?_
    refine R.iadd dX13_does_17 ?_
    rw [nI_add9]
    refine R.ialdN (k := 2 * k + 1) dX13_does_18 (by omega) (by show _ < mN M 14 8; rw [hL.2.2.2.2.2.2.2.2.2.1]; omega) ?_
    rw [e8, ex]
    refine R.istore_n dX13_does_19 (Nat.le_of_ble_eq_true rfl) (by decide) (by first | rfl | simp [lft, rf_cat]) rfl ?_
    refine R.iconst (v := 0) dX13_does_20 rfl ?_
    refine R.istore dX13_does_21 (Nat.le_of_ble_eq_true rfl) (by decide) (by first | rfl | simp [lft, rf_cat]) rfl ?_
    refine R.aload_n dX13_does_23 rfl (by first | rfl | exact rfv_rf _) ?_
    refine R.getS (hL.1.2.2.2.2.2.2.2.1) dX13_does_24 fl_X13_35 (by decide) rfl ?_
    refine R.iload_n dX13_does_27 rfl ?_
    refine R.ialdN (k := k) dX13_does_28 (by omega) (by show _ < mN M 14 7; rw [hL.2.2.2.2.2.2.2.2.1]; omega) ?_
    rw [e7, o1n]
    refine R.tableIn (tgt := 72) dX13_does_29 (by decide) (by decide) rfl (by decide) ?_
    refine R.aload_n dX13_does_72 rfl (by first | rfl | exact rfv_rf _) ?_
    refine R.iload_n dX13_does_73 rfl ?_
    refine cl_X13_136 rfl rfl (by first | exact Nat.le_of_ble_eq_true rfl | simp [rf_cat, Value.category]) dX13_does_74 ?_
    refine m_th hL hR hc ?_
    rw [if_pos c7]
    refine R.if_ne (tgt := 82) dX13_does_77 (by decide) (fun c9 => absurd (rfl) c9) (fun _ => ?_)
    refine R.iconst (v := 0) dX13_does_80 rfl ?_
    refine WP.ret (ov := some (.int _)) dX13_does_81 ⟨rfl, _, rfl, by first | rfl | assumption | exact nar_b01 (by assumption)⟩ ?_
    exact hq w ⟨m, b9, hR.mono (by omega), hV.mono (by omega)⟩
  · rw [exY_0, if_neg c7, nI_clamp (by omega)] at hq
    refine R.aload_n dX13_does_0 rfl (by first | rfl | exact rfv_rf _) ?_
    refine R.getS (hL.1.2.2.2.2.2.2.2.2.1) dX13_does_1 fl_X13_38 (by decide) rfl ?_
    refine R.iconst (v := nI 2) dX13_does_4 rfl ?_
    refine R.iload_n dX13_does_5 rfl ?_
    refine R.imul dX13_does_6 ?_
    rw [pk_mul]
    refine R.ialdN (k := 2 * k) dX13_does_7 (by omega) (by show _ < mN M 14 8; rw [hL.2.2.2.2.2.2.2.2.2.1]; omega) ?_
    rw [e8, ea]
    refine R.istore_n dX13_does_8 (Nat.le_of_ble_eq_true rfl) (by decide) (by first | rfl | simp [lft, rf_cat]) rfl ?_
    refine R.aload_n dX13_does_9 rfl (by first | rfl | exact rfv_rf _) ?_
    refine R.getS (hL.1.2.2.2.2.2.2.2.2.1) dX13_does_10 fl_X13_38 (by decide) rfl ?_
    refine R.iconst (v := nI 2) dX13_does_13 rfl ?_
    refine R.iload_n dX13_does_14 rfl ?_
    refine R.imul dX13_does_15 ?_
    rw [pk_mul]
    refine R.iconst (v := nI 1) dX13_does_16 rfl ?_
    refine R.iadd dX13_does_17 ?_
    rw [nI_add9]
    refine R.ialdN (k := 2 * k + 1) dX13_does_18 (by omega) (by show _ < mN M 14 8; rw [hL.2.2.2.2.2.2.2.2.2.1]; omega) ?_
    rw [e8, ex]
    refine R.istore_n dX13_does_19 (Nat.le_of_ble_eq_true rfl) (by decide) (by first | rfl | simp [lft, rf_cat]) rfl ?_
    refine R.iconst (v := 0) dX13_does_20 rfl ?_
    refine R.istore dX13_does_21 (Nat.le_of_ble_eq_true rfl) (by decide) (by first | rfl | simp [lft, rf_cat]) rfl ?_
    refine R.aload_n dX13_does_23 rfl (by first | rfl | exact rfv_rf _) ?_
    refine R.getS (hL.1.2.2.2.2.2.2.2.1) dX13_does_24 fl_X13_35 (by decide) rfl ?_
    refine R.iload_n dX13_does_27 rfl ?_
    refine R.ialdN (k := k) dX13_does_28 (by omega) (by show _ < mN M 14 7; rw [hL.2.2.2.2.2.2.2.2.1]; omega) ?_
    rw [e7, o1n]
    refine R.tableIn (tgt := 72) dX13_does_29 (by decide) (by decide) rfl (by decide) ?_
    refine R.aload_n dX13_does_72 rfl (by first | rfl | exact rfv_rf _) ?_
    refine R.iload_n dX13_does_73 rfl ?_
    refine cl_X13_136 rfl rfl (by first | exact Nat.le_of_ble_eq_true rfl | simp [rf_cat, Value.category]) dX13_does_74 ?_
    refine m_th hL hR hc ?_
    rw [if_neg c7]
    refine R.if_ne (tgt := 82) dX13_does_77 (by decide) (fun _ => ?_) (fun c9 => absurd c9 (by decide))
    refine R.aload_n dX13_does_82 rfl (by first | rfl | exact rfv_rf _) ?_
    refine R.iload_n dX13_does_83 rfl ?_
    refine R.iload_n dX13_does_84 rfl ?_
    refine cl_X13_352 rfl rfl (by first | exact Nat.le_of_ble_eq_true rfl | simp [rf_cat, Value.category]) dX13_does_85 ?_
    refine m_wMany (t := n9) hL hR (by omega) (by omega) (fun a ha => (PV.tkn (c := c) a Y T hV (by omega) hc).wg (by omega) (by omega)) (fun v9 w9 hR9 => ?_)
    refine R.istore dX13_does_88 (Nat.le_of_ble_eq_true rfl) (by decide) (by first | rfl | simp [lft, rf_cat]) rfl ?_
    refine R.iconst (v := 1) dX13_does_90 rfl ?_
    refine WP.ret (ov := some (.int _)) dX13_does_91 ⟨rfl, _, rfl, by first | rfl | assumption | exact nar_b01 (by assumption)⟩ ?_
    exact hq w9 ⟨m, b9, hR9.mono (by omega), PV.tkn (c := c) n9 Y T hV (by omega) hc⟩
set_option maxHeartbeats 2000000 in
set_option maxRecDepth 4000 in
theorem p_do1 {d T m b9 k c o9 : Nat} {y9 : Int32} {Y : Yd} {w : Nat → Int32} {M : Mem} {Q : Out → Mem → Prop} (hL : ML M) (hR : RW Y m b9 T w) (hV : PV Y m b9 T) (hk : k < 30) (hT : T + ct (1, c, o9, y9) ≤ 57000) (hO : OT (1, c, o9, y9) (mI M 14 7 k) (mI M 14 8 (2 * k)) (mI M 14 8 (2 * k + 1))) (hC : CV Y (1, c, o9, y9)) (hN : NV (1, c, o9, y9)) (hq : ∀ w', YI (exY Y (1, c, o9, y9)).2 (T + ct (1, c, o9, y9)) w' → Q (.inl (some (.int (exY Y (1, c, o9, y9)).1))) (sW M w')) : WPc (d + 13) mX13_does [.ref (rf 11 0), .int (nI k)] (sW M w) Q := by
  refine WPc.of (by decide +kernel) (Nat.le_of_ble_eq_true rfl) rfl ?_
  obtain ⟨o1, -, o3, o4, o5, o6⟩ := hO
  have o1n : mI M 14 7 k = nI 2 := o1
  have e7 : mI (sW M w) 14 7 = mI M 14 7 := mI_sWn _ _ (by decide)
  have e8 : mI (sW M w) 14 8 = mI M 14 8 := mI_sWn _ _ (by decide)
  have ea : mI M 14 8 (2 * k) = nI c := o3 rfl
  have hc : c < m := hC.cm hV rfl
  have hm16 := hV.m16
  have ex : mI M 14 8 (2 * k + 1) = y9 := o4 (Or.inr (Or.inl rfl))
  obtain ⟨n1, n2⟩ := hN.2.1 (Or.inl rfl)
  have n1 : 1 ≤ y9 := n1
  have n2 : y9 ≤ 500 := n2
  obtain ⟨ta, go, -, -, d3, d4⟩ := hV.d c (by omega)
  have kk := (add_5 d3 d4 n1 n2).1
  have hT1 : T + 1 ≤ 57000 := hT
  by_cases hm : ¬ yC Y c 7 = 0 ∧ 0 ≤ yC Y c 3 + y9 ∧ yC Y c 3 + y9 ≤ 500
  · rw [exY_1, if_neg hm.1, if_pos ⟨hm.1, kk.mp hm.2⟩] at hq
    obtain ⟨g2, hk2, eg⟩ := nI_of (x := yC Y c 3 + y9) (fun q => absurd hm.2.1 (i_nle q))
    have hg : g2 ≤ 500 := (nI_leI hk2 (by omega)).mp (by rw [← eg]; exact hm.2.2)
    refine R.aload_n dX13_does_0 rfl (by first | rfl | exact rfv_rf _) ?_
    refine R.getS (hL.1.2.2.2.2.2.2.2.2.1) dX13_does_1 fl_X13_38 (by decide) rfl ?_
    refine R.iconst (v := nI 2) dX13_does_4 rfl ?_
    refine R.iload_n dX13_does_5 rfl ?_
    refine R.imul dX13_does_6 ?_
    rw [pk_mul]
    refine R.ialdN (k := 2 * k) dX13_does_7 (by omega) (by show _ < mN M 14 8; rw [hL.2.2.2.2.2.2.2.2.2.1]; omega) ?_
    rw [e8, ea]
    refine R.istore_n dX13_does_8 (Nat.le_of_ble_eq_true rfl) (by decide) (by first | rfl | simp [lft, rf_cat]) rfl ?_
    refine R.aload_n dX13_does_9 rfl (by first | rfl | exact rfv_rf _) ?_
    refine R.getS (hL.1.2.2.2.2.2.2.2.2.1) dX13_does_10 fl_X13_38 (by decide) rfl ?_
    refine R.iconst (v := nI 2) dX13_does_13 rfl ?_
    refine R.iload_n dX13_does_14 rfl ?_
    refine R.imul dX13_does_15 ?_
    rw [pk_mul]
    refine R.iconst (v := nI 1) dX13_does_16 rfl ?_
    refine R.iadd dX13_does_17 ?_
    rw [nI_add9]
    refine R.ialdN (k := 2 * k + 1) dX13_does_18 (by omega) (by show _ < mN M 14 8; rw [hL.2.2.2.2.2.2.2.2.2.1]; omega) ?_
    rw [e8, ex]
    refine R.istore_n dX13_does_19 (Nat.le_of_ble_eq_true rfl) (by decide) (by first | rfl | simp [lft, rf_cat]) rfl ?_
    refine R.iconst (v := 0) dX13_does_20 rfl ?_
    refine R.istore dX13_does_21 (Nat.le_of_ble_eq_true rfl) (by decide) (by first | rfl | simp [lft, rf_cat]) rfl ?_
    refine R.aload_n dX13_does_23 rfl (by first | rfl | exact rfv_rf _) ?_
    refine R.getS (hL.1.2.2.2.2.2.2.2.1) dX13_does_24 fl_X13_35 (by decide) rfl ?_
    refine R.iload_n dX13_does_27 rfl ?_
    refine R.ialdN (k := k) dX13_does_28 (by omega) (by show _ < mN M 14 7; rw [hL.2.2.2.2.2.2.2.2.1]; omega) ?_
    rw [e7, o1n]
    refine R.tableIn (tgt := 92) dX13_does_29 (by decide) (by decide) rfl (by decide) ?_
    refine R.aload_n dX13_does_92 rfl (by first | rfl | exact rfv_rf _) ?_
    refine R.getS (hL.1.2.2.2.2.2.2.2.1) dX13_does_93 fl_X13_35 (by decide) rfl ?_
    refine R.iload_n dX13_does_96 rfl ?_
    refine R.ialdN (k := k) dX13_does_97 (by omega) (by show _ < mN M 14 7; rw [hL.2.2.2.2.2.2.2.2.1]; omega) ?_
    rw [e7, o1n]
    refine R.iconst (v := nI 2) dX13_does_98 rfl ?_
    refine R.icmp_ne (tgt := 106) dX13_does_99 (by decide) (fun c9 => absurd (rfl) c9) (fun _ => ?_)
    refine R.iload_n dX13_does_102 rfl ?_
    refine R.goto (tgt := 108) dX13_does_103 (by decide) ?_
    refine R.istore dX13_does_108 (Nat.le_of_ble_eq_true rfl) (by decide) (by first | rfl | simp [lft, rf_cat]) rfl ?_
    refine R.aload_n dX13_does_110 rfl (by first | rfl | exact rfv_rf _) ?_
    refine R.iload_n dX13_does_111 rfl ?_
    refine R.iload dX13_does_112 rfl ?_
    refine cl_X13_355 rfl rfl (by first | exact Nat.le_of_ble_eq_true rfl | simp [rf_cat, Value.category]) dX13_does_114 ?_
    refine m_mayAdd hL hR hc ?_
    rw [if_pos hm]
    refine R.if_ne (tgt := 122) dX13_does_117 (by decide) (fun _ => ?_) (fun c9 => absurd c9 (by decide))
    refine R.aload_n dX13_does_122 rfl (by first | rfl | exact rfv_rf _) ?_
    refine R.iload_n dX13_does_123 rfl ?_
    refine R.iload dX13_does_124 rfl ?_
    refine cl_X13_358 rfl rfl (by first | exact Nat.le_of_ble_eq_true rfl | simp [rf_cat, Value.category]) dX13_does_126 ?_
    refine m_adds hL hR hc hV.acy (PV.cg hV (by omega) eg hg).l (fun w9 hR9 => ?_)
    refine R.istore dX13_does_129 (Nat.le_of_ble_eq_true rfl) (by decide) (by first | rfl | simp [lft, rf_cat]) rfl ?_
    refine R.iconst (v := 1) dX13_does_131 rfl ?_
    refine WP.ret (ov := some (.int _)) dX13_does_132 ⟨rfl, _, rfl, by first | rfl | assumption | exact nar_b01 (by assumption)⟩ ?_
    exact hq w9 ⟨m, b9, hR9.mono (Nat.le_succ T), (hV.cg (by omega) eg hg).mono (Nat.le_succ T)⟩
  · have e9 : exY Y (1, c, o9, y9) = (0, Y) := by
      rw [exY_1]
      by_cases c7 : yC Y c 7 = 0
      · rw [if_pos c7]
      · rw [if_neg c7, if_neg (fun q => hm ⟨c7, kk.mpr q.2⟩)]
    rw [e9] at hq
    refine R.aload_n dX13_does_0 rfl (by first | rfl | exact rfv_rf _) ?_
    refine R.getS (hL.1.2.2.2.2.2.2.2.2.1) dX13_does_1 fl_X13_38 (by decide) rfl ?_
    refine R.iconst (v := nI 2) dX13_does_4 rfl ?_
    refine R.iload_n dX13_does_5 rfl ?_
    refine R.imul dX13_does_6 ?_
    rw [pk_mul]
    refine R.ialdN (k := 2 * k) dX13_does_7 (by omega) (by show _ < mN M 14 8; rw [hL.2.2.2.2.2.2.2.2.2.1]; omega) ?_
    rw [e8, ea]
    refine R.istore_n dX13_does_8 (Nat.le_of_ble_eq_true rfl) (by decide) (by first | rfl | simp [lft, rf_cat]) rfl ?_
    refine R.aload_n dX13_does_9 rfl (by first | rfl | exact rfv_rf _) ?_
    refine R.getS (hL.1.2.2.2.2.2.2.2.2.1) dX13_does_10 fl_X13_38 (by decide) rfl ?_
    refine R.iconst (v := nI 2) dX13_does_13 rfl ?_
    refine R.iload_n dX13_does_14 rfl ?_
    refine R.imul dX13_does_15 ?_
    rw [pk_mul]
    refine R.iconst (v := nI 1) dX13_does_16 rfl ?_
    refine R.iadd dX13_does_17 ?_
    rw [nI_add9]
    refine R.ialdN (k := 2 * k + 1) dX13_does_18 (by omega) (by show _ < mN M 14 8; rw [hL.2.2.2.2.2.2.2.2.2.1]; omega) ?_
    rw [e8, ex]
    refine R.istore_n dX13_does_19 (Nat.le_of_ble_eq_true rfl) (by decide) (by first | rfl | simp [lft, rf_cat]) rfl ?_
    refine R.iconst (v := 0) dX13_does_20 rfl ?_
    refine R.istore dX13_does_21 (Nat.le_of_ble_eq_true rfl) (by decide) (by first | rfl | simp [lft, rf_cat]) rfl ?_
    refine R.aload_n dX13_does_23 rfl (by first | rfl | exact rfv_rf _) ?_
    refine R.getS (hL.1.2.2.2.2.2.2.2.1) dX13_does_24 fl_X13_35 (by decide) rfl ?_
    refine R.iload_n dX13_does_27 rfl ?_
    refine R.ialdN (k := k) dX13_does_28 (by omega) (by show _ < mN M 14 7; rw [hL.2.2.2.2.2.2.2.2.1]; omega) ?_
    rw [e7, o1n]
    refine R.tableIn (tgt := 92) dX13_does_29 (by decide) (by decide) rfl (by decide) ?_
    refine R.aload_n dX13_does_92 rfl (by first | rfl | exact rfv_rf _) ?_
    refine R.getS (hL.1.2.2.2.2.2.2.2.1) dX13_does_93 fl_X13_35 (by decide) rfl ?_
    refine R.iload_n dX13_does_96 rfl ?_
    refine R.ialdN (k := k) dX13_does_97 (by omega) (by show _ < mN M 14 7; rw [hL.2.2.2.2.2.2.2.2.1]; omega) ?_
    rw [e7, o1n]
    refine R.iconst (v := nI 2) dX13_does_98 rfl ?_
    refine R.icmp_ne (tgt := 106) dX13_does_99 (by decide) (fun c9 => absurd (rfl) c9) (fun _ => ?_)
    refine R.iload_n dX13_does_102 rfl ?_
    refine R.goto (tgt := 108) dX13_does_103 (by decide) ?_
    refine R.istore dX13_does_108 (Nat.le_of_ble_eq_true rfl) (by decide) (by first | rfl | simp [lft, rf_cat]) rfl ?_
    refine R.aload_n dX13_does_110 rfl (by first | rfl | exact rfv_rf _) ?_
    refine R.iload_n dX13_does_111 rfl ?_
    refine R.iload dX13_does_112 rfl ?_
    refine cl_X13_355 rfl rfl (by first | exact Nat.le_of_ble_eq_true rfl | simp [rf_cat, Value.category]) dX13_does_114 ?_
    refine m_mayAdd hL hR hc ?_
    rw [if_neg hm]
    refine R.if_ne (tgt := 122) dX13_does_117 (by decide) (fun c9 => absurd (rfl) c9) (fun _ => ?_)
    refine R.iconst (v := 0) dX13_does_120 rfl ?_
    refine WP.ret (ov := some (.int _)) dX13_does_121 ⟨rfl, _, rfl, by first | rfl | assumption | exact nar_b01 (by assumption)⟩ ?_
    exact hq w ⟨m, b9, hR.mono (by omega), hV.mono (by omega)⟩
set_option maxHeartbeats 2000000 in
set_option maxRecDepth 4000 in
theorem p_do2 {d T m b9 k c o9 : Nat} {y9 : Int32} {Y : Yd} {w : Nat → Int32} {M : Mem} {Q : Out → Mem → Prop} (hL : ML M) (hR : RW Y m b9 T w) (hV : PV Y m b9 T) (hk : k < 30) (hT : T + ct (2, c, o9, y9) ≤ 57000) (hO : OT (2, c, o9, y9) (mI M 14 7 k) (mI M 14 8 (2 * k)) (mI M 14 8 (2 * k + 1))) (hC : CV Y (2, c, o9, y9)) (hN : NV (2, c, o9, y9)) (hq : ∀ w', YI (exY Y (2, c, o9, y9)).2 (T + ct (2, c, o9, y9)) w' → Q (.inl (some (.int (exY Y (2, c, o9, y9)).1))) (sW M w')) : WPc (d + 13) mX13_does [.ref (rf 11 0), .int (nI k)] (sW M w) Q := by
  refine WPc.of (by decide +kernel) (Nat.le_of_ble_eq_true rfl) rfl ?_
  obtain ⟨o1, -, o3, o4, o5, o6⟩ := hO
  have o1n : mI M 14 7 k = nI 3 := o1
  have e7 : mI (sW M w) 14 7 = mI M 14 7 := mI_sWn _ _ (by decide)
  have e8 : mI (sW M w) 14 8 = mI M 14 8 := mI_sWn _ _ (by decide)
  have ea : mI M 14 8 (2 * k) = nI c := o3 rfl
  have hc : c < m := hC.cm hV rfl
  have hm16 := hV.m16
  have ex : mI M 14 8 (2 * k + 1) = y9 := o4 (Or.inr (Or.inr rfl))
  obtain ⟨n1, n2⟩ := hN.2.1 (Or.inr rfl)
  have n1 : 1 ≤ y9 := n1
  have n2 : y9 ≤ 500 := n2
  obtain ⟨ta, go, -, -, d3, d4⟩ := hV.d c (by omega)
  have kk := (add_5 d3 d4 n1 n2).2
  have hT1 : T + 1 ≤ 57000 := hT
  by_cases hm : ¬ yC Y c 7 = 0 ∧ 0 ≤ yC Y c 3 + (-y9) ∧ yC Y c 3 + (-y9) ≤ 500
  · rw [exY_2, if_neg hm.1, if_pos ⟨hm.1, kk.mp hm.2⟩] at hq
    obtain ⟨g2, hk2, eg⟩ := nI_of (x := yC Y c 3 + (-y9)) (fun q => absurd hm.2.1 (i_nle q))
    have hg : g2 ≤ 500 := (nI_leI hk2 (by omega)).mp (by rw [← eg]; exact hm.2.2)
    refine R.aload_n dX13_does_0 rfl (by first | rfl | exact rfv_rf _) ?_
    refine R.getS (hL.1.2.2.2.2.2.2.2.2.1) dX13_does_1 fl_X13_38 (by decide) rfl ?_
    refine R.iconst (v := nI 2) dX13_does_4 rfl ?_
    refine R.iload_n dX13_does_5 rfl ?_
    refine R.imul dX13_does_6 ?_
    rw [pk_mul]
    refine R.ialdN (k := 2 * k) dX13_does_7 (by omega) (by show _ < mN M 14 8; rw [hL.2.2.2.2.2.2.2.2.2.1]; omega) ?_
    rw [e8, ea]
    refine R.istore_n dX13_does_8 (Nat.le_of_ble_eq_true rfl) (by decide) (by first | rfl | simp [lft, rf_cat]) rfl ?_
    refine R.aload_n dX13_does_9 rfl (by first | rfl | exact rfv_rf _) ?_
    refine R.getS (hL.1.2.2.2.2.2.2.2.2.1) dX13_does_10 fl_X13_38 (by decide) rfl ?_
    refine R.iconst (v := nI 2) dX13_does_13 rfl ?_
    refine R.iload_n dX13_does_14 rfl ?_
    refine R.imul dX13_does_15 ?_
    rw [pk_mul]
    refine R.iconst (v := nI 1) dX13_does_16 rfl ?_
    refine R.iadd dX13_does_17 ?_
    rw [nI_add9]
    refine R.ialdN (k := 2 * k + 1) dX13_does_18 (by omega) (by show _ < mN M 14 8; rw [hL.2.2.2.2.2.2.2.2.2.1]; omega) ?_
    rw [e8, ex]
    refine R.istore_n dX13_does_19 (Nat.le_of_ble_eq_true rfl) (by decide) (by first | rfl | simp [lft, rf_cat]) rfl ?_
    refine R.iconst (v := 0) dX13_does_20 rfl ?_
    refine R.istore dX13_does_21 (Nat.le_of_ble_eq_true rfl) (by decide) (by first | rfl | simp [lft, rf_cat]) rfl ?_
    refine R.aload_n dX13_does_23 rfl (by first | rfl | exact rfv_rf _) ?_
    refine R.getS (hL.1.2.2.2.2.2.2.2.1) dX13_does_24 fl_X13_35 (by decide) rfl ?_
    refine R.iload_n dX13_does_27 rfl ?_
    refine R.ialdN (k := k) dX13_does_28 (by omega) (by show _ < mN M 14 7; rw [hL.2.2.2.2.2.2.2.2.1]; omega) ?_
    rw [e7, o1n]
    refine R.tableIn (tgt := 92) dX13_does_29 (by decide) (by decide) rfl (by decide) ?_
    refine R.aload_n dX13_does_92 rfl (by first | rfl | exact rfv_rf _) ?_
    refine R.getS (hL.1.2.2.2.2.2.2.2.1) dX13_does_93 fl_X13_35 (by decide) rfl ?_
    refine R.iload_n dX13_does_96 rfl ?_
    refine R.ialdN (k := k) dX13_does_97 (by omega) (by show _ < mN M 14 7; rw [hL.2.2.2.2.2.2.2.2.1]; omega) ?_
    rw [e7, o1n]
    refine R.iconst (v := nI 2) dX13_does_98 rfl ?_
    refine R.icmp_ne (tgt := 106) dX13_does_99 (by decide) (fun _ => ?_) (fun c9 => absurd c9 (by decide))
    refine R.iload_n dX13_does_106 rfl ?_
    refine R.ineg dX13_does_107 ?_
    refine R.istore dX13_does_108 (Nat.le_of_ble_eq_true rfl) (by decide) (by first | rfl | simp [lft, rf_cat]) rfl ?_
    refine R.aload_n dX13_does_110 rfl (by first | rfl | exact rfv_rf _) ?_
    refine R.iload_n dX13_does_111 rfl ?_
    refine R.iload dX13_does_112 rfl ?_
    refine cl_X13_355 rfl rfl (by first | exact Nat.le_of_ble_eq_true rfl | simp [rf_cat, Value.category]) dX13_does_114 ?_
    refine m_mayAdd hL hR hc ?_
    rw [if_pos hm]
    refine R.if_ne (tgt := 122) dX13_does_117 (by decide) (fun _ => ?_) (fun c9 => absurd c9 (by decide))
    refine R.aload_n dX13_does_122 rfl (by first | rfl | exact rfv_rf _) ?_
    refine R.iload_n dX13_does_123 rfl ?_
    refine R.iload dX13_does_124 rfl ?_
    refine cl_X13_358 rfl rfl (by first | exact Nat.le_of_ble_eq_true rfl | simp [rf_cat, Value.category]) dX13_does_126 ?_
    refine m_adds hL hR hc hV.acy (PV.cg hV (by omega) eg hg).l (fun w9 hR9 => ?_)
    refine R.istore dX13_does_129 (Nat.le_of_ble_eq_true rfl) (by decide) (by first | rfl | simp [lft, rf_cat]) rfl ?_
    refine R.iconst (v := 1) dX13_does_131 rfl ?_
    refine WP.ret (ov := some (.int _)) dX13_does_132 ⟨rfl, _, rfl, by first | rfl | assumption | exact nar_b01 (by assumption)⟩ ?_
    exact hq w9 ⟨m, b9, hR9.mono (Nat.le_succ T), (hV.cg (by omega) eg hg).mono (Nat.le_succ T)⟩
  · have e9 : exY Y (2, c, o9, y9) = (0, Y) := by
      rw [exY_2]
      by_cases c7 : yC Y c 7 = 0
      · rw [if_pos c7]
      · rw [if_neg c7, if_neg (fun q => hm ⟨c7, kk.mpr q.2⟩)]
    rw [e9] at hq
    refine R.aload_n dX13_does_0 rfl (by first | rfl | exact rfv_rf _) ?_
    refine R.getS (hL.1.2.2.2.2.2.2.2.2.1) dX13_does_1 fl_X13_38 (by decide) rfl ?_
    refine R.iconst (v := nI 2) dX13_does_4 rfl ?_
    refine R.iload_n dX13_does_5 rfl ?_
    refine R.imul dX13_does_6 ?_
    rw [pk_mul]
    refine R.ialdN (k := 2 * k) dX13_does_7 (by omega) (by show _ < mN M 14 8; rw [hL.2.2.2.2.2.2.2.2.2.1]; omega) ?_
    rw [e8, ea]
    refine R.istore_n dX13_does_8 (Nat.le_of_ble_eq_true rfl) (by decide) (by first | rfl | simp [lft, rf_cat]) rfl ?_
    refine R.aload_n dX13_does_9 rfl (by first | rfl | exact rfv_rf _) ?_
    refine R.getS (hL.1.2.2.2.2.2.2.2.2.1) dX13_does_10 fl_X13_38 (by decide) rfl ?_
    refine R.iconst (v := nI 2) dX13_does_13 rfl ?_
    refine R.iload_n dX13_does_14 rfl ?_
    refine R.imul dX13_does_15 ?_
    rw [pk_mul]
    refine R.iconst (v := nI 1) dX13_does_16 rfl ?_
    refine R.iadd dX13_does_17 ?_
    rw [nI_add9]
    refine R.ialdN (k := 2 * k + 1) dX13_does_18 (by omega) (by show _ < mN M 14 8; rw [hL.2.2.2.2.2.2.2.2.2.1]; omega) ?_
    rw [e8, ex]
    refine R.istore_n dX13_does_19 (Nat.le_of_ble_eq_true rfl) (by decide) (by first | rfl | simp [lft, rf_cat]) rfl ?_
    refine R.iconst (v := 0) dX13_does_20 rfl ?_
    refine R.istore dX13_does_21 (Nat.le_of_ble_eq_true rfl) (by decide) (by first | rfl | simp [lft, rf_cat]) rfl ?_
    refine R.aload_n dX13_does_23 rfl (by first | rfl | exact rfv_rf _) ?_
    refine R.getS (hL.1.2.2.2.2.2.2.2.1) dX13_does_24 fl_X13_35 (by decide) rfl ?_
    refine R.iload_n dX13_does_27 rfl ?_
    refine R.ialdN (k := k) dX13_does_28 (by omega) (by show _ < mN M 14 7; rw [hL.2.2.2.2.2.2.2.2.1]; omega) ?_
    rw [e7, o1n]
    refine R.tableIn (tgt := 92) dX13_does_29 (by decide) (by decide) rfl (by decide) ?_
    refine R.aload_n dX13_does_92 rfl (by first | rfl | exact rfv_rf _) ?_
    refine R.getS (hL.1.2.2.2.2.2.2.2.1) dX13_does_93 fl_X13_35 (by decide) rfl ?_
    refine R.iload_n dX13_does_96 rfl ?_
    refine R.ialdN (k := k) dX13_does_97 (by omega) (by show _ < mN M 14 7; rw [hL.2.2.2.2.2.2.2.2.1]; omega) ?_
    rw [e7, o1n]
    refine R.iconst (v := nI 2) dX13_does_98 rfl ?_
    refine R.icmp_ne (tgt := 106) dX13_does_99 (by decide) (fun _ => ?_) (fun c9 => absurd c9 (by decide))
    refine R.iload_n dX13_does_106 rfl ?_
    refine R.ineg dX13_does_107 ?_
    refine R.istore dX13_does_108 (Nat.le_of_ble_eq_true rfl) (by decide) (by first | rfl | simp [lft, rf_cat]) rfl ?_
    refine R.aload_n dX13_does_110 rfl (by first | rfl | exact rfv_rf _) ?_
    refine R.iload_n dX13_does_111 rfl ?_
    refine R.iload dX13_does_112 rfl ?_
    refine cl_X13_355 rfl rfl (by first | exact Nat.le_of_ble_eq_true rfl | simp [rf_cat, Value.category]) dX13_does_114 ?_
    refine m_mayAdd hL hR hc ?_
    rw [if_neg hm]
    refine R.if_ne (tgt := 122) dX13_does_117 (by decide) (fun c9 => absurd (rfl) c9) (fun _ => ?_)
    refine R.iconst (v := 0) dX13_does_120 rfl ?_
    refine WP.ret (ov := some (.int _)) dX13_does_121 ⟨rfl, _, rfl, by first | rfl | assumption | exact nar_b01 (by assumption)⟩ ?_
    exact hq w ⟨m, b9, hR.mono (by omega), hV.mono (by omega)⟩
set_option maxHeartbeats 2000000 in
set_option maxRecDepth 4000 in
theorem p_do3 {d T m b9 k c o9 : Nat} {y9 : Int32} {Y : Yd} {w : Nat → Int32} {M : Mem} {Q : Out → Mem → Prop} (hL : ML M) (hR : RW Y m b9 T w) (hV : PV Y m b9 T) (hk : k < 30) (hT : T + ct (3, c, o9, y9) ≤ 57000) (hO : OT (3, c, o9, y9) (mI M 14 7 k) (mI M 14 8 (2 * k)) (mI M 14 8 (2 * k + 1))) (hC : CV Y (3, c, o9, y9)) (hN : NV (3, c, o9, y9)) (hq : ∀ w', YI (exY Y (3, c, o9, y9)).2 (T + ct (3, c, o9, y9)) w' → Q (.inl (some (.int (exY Y (3, c, o9, y9)).1))) (sW M w')) : WPc (d + 13) mX13_does [.ref (rf 11 0), .int (nI k)] (sW M w) Q := by
  refine WPc.of (by decide +kernel) (Nat.le_of_ble_eq_true rfl) rfl ?_
  obtain ⟨o1, -, o3, o4, o5, o6⟩ := hO
  have o1n : mI M 14 7 k = nI 4 := o1
  have e7 : mI (sW M w) 14 7 = mI M 14 7 := mI_sWn _ _ (by decide)
  have e8 : mI (sW M w) 14 8 = mI M 14 8 := mI_sWn _ _ (by decide)
  have ea : mI M 14 8 (2 * k) = nI c := o3 rfl
  have hc : c < m := hC.cm hV rfl
  have hm16 := hV.m16
  have ex : mI M 14 8 (2 * k + 1) = nI o9 := o5 (Or.inl rfl)
  have hj : o9 < m := hC.om hV
  have hT1 : T + 1 ≤ 57000 := hT
  by_cases hm : yCan Y c o9 = 0
  · have e9 : exY Y (3, c, o9, y9) = (0, Y) := by
      rw [exY_3, if_pos hm]
      split <;> rfl
    rw [e9] at hq
    refine R.aload_n dX13_does_0 rfl (by first | rfl | exact rfv_rf _) ?_
    refine R.getS (hL.1.2.2.2.2.2.2.2.2.1) dX13_does_1 fl_X13_38 (by decide) rfl ?_
    refine R.iconst (v := nI 2) dX13_does_4 rfl ?_
    refine R.iload_n dX13_does_5 rfl ?_
    refine R.imul dX13_does_6 ?_
    rw [pk_mul]
    refine R.ialdN (k := 2 * k) dX13_does_7 (by omega) (by show _ < mN M 14 8; rw [hL.2.2.2.2.2.2.2.2.2.1]; omega) ?_
    rw [e8, ea]
    refine R.istore_n dX13_does_8 (Nat.le_of_ble_eq_true rfl) (by decide) (by first | rfl | simp [lft, rf_cat]) rfl ?_
    refine R.aload_n dX13_does_9 rfl (by first | rfl | exact rfv_rf _) ?_
    refine R.getS (hL.1.2.2.2.2.2.2.2.2.1) dX13_does_10 fl_X13_38 (by decide) rfl ?_
    refine R.iconst (v := nI 2) dX13_does_13 rfl ?_
    refine R.iload_n dX13_does_14 rfl ?_
    refine R.imul dX13_does_15 ?_
    rw [pk_mul]
    refine R.iconst (v := nI 1) dX13_does_16 rfl ?_
    refine R.iadd dX13_does_17 ?_
    rw [nI_add9]
    refine R.ialdN (k := 2 * k + 1) dX13_does_18 (by omega) (by show _ < mN M 14 8; rw [hL.2.2.2.2.2.2.2.2.2.1]; omega) ?_
    rw [e8, ex]
    refine R.istore_n dX13_does_19 (Nat.le_of_ble_eq_true rfl) (by decide) (by first | rfl | simp [lft, rf_cat]) rfl ?_
    refine R.iconst (v := 0) dX13_does_20 rfl ?_
    refine R.istore dX13_does_21 (Nat.le_of_ble_eq_true rfl) (by decide) (by first | rfl | simp [lft, rf_cat]) rfl ?_
    refine R.aload_n dX13_does_23 rfl (by first | rfl | exact rfv_rf _) ?_
    refine R.getS (hL.1.2.2.2.2.2.2.2.1) dX13_does_24 fl_X13_35 (by decide) rfl ?_
    refine R.iload_n dX13_does_27 rfl ?_
    refine R.ialdN (k := k) dX13_does_28 (by omega) (by show _ < mN M 14 7; rw [hL.2.2.2.2.2.2.2.2.1]; omega) ?_
    rw [e7, o1n]
    refine R.tableIn (tgt := 133) dX13_does_29 (by decide) (by decide) rfl (by decide) ?_
    refine R.aload_n dX13_does_133 rfl (by first | rfl | exact rfv_rf _) ?_
    refine R.iload_n dX13_does_134 rfl ?_
    refine R.iload_n dX13_does_135 rfl ?_
    refine cl_X13_361 rfl rfl (by first | exact Nat.le_of_ble_eq_true rfl | simp [rf_cat, Value.category]) dX13_does_136 ?_
    refine m_mayMove hL hR hc hj hV.acy ?_
    refine R.if_ne (tgt := 144) dX13_does_139 (by decide) (fun c9 => absurd (hm) c9) (fun _ => ?_)
    refine R.iconst (v := 0) dX13_does_142 rfl ?_
    refine WP.ret (ov := some (.int _)) dX13_does_143 ⟨rfl, _, rfl, by first | rfl | assumption | exact nar_b01 (by assumption)⟩ ?_
    exact hq w ⟨m, b9, hR.mono (by omega), hV.mono (by omega)⟩
  · obtain ⟨q1, q2, q3, q4⟩ := (can_iff (o := o9) hV.acy (show c < 16 by omega)).mp hm
    rw [exY_3, if_neg q1, if_neg hm] at hq
    have hA2 : Acy (neY Y c o9) := acy_can hV.acy (by omega) (by omega) q3 q4
    have hA0 : Acy (neY0 Y c o9) := acy_eq (by rw [yP_neY0, yP_neY]) hA2
    obtain ⟨s1, s2, s3, s4⟩ := aw_st 5 Y (yP Y c) (-(yC Y c 4))
    obtain ⟨t, t1, t2, t3, t4⟩ := hV.s
    have hF : ∃ f, yF (awO 5 Y (yP Y c) (- (yC Y c 4))) 8 = nI f ∧ f < 2 ^ 31 - 1 := ⟨t, by rw [s2]; exact t2, by omega⟩
    have hb9 : ∀ k, k < 16 → yP (awO 5 Y (yP Y c) (- (yC Y c 4))) k ≠ none → (yC (awO 5 Y (yP Y c) (- (yC Y c 4))) k 6).toInt ≤ (yF (awO 5 Y (yP Y c) (- (yC Y c 4))) 8).toInt := fun k hk _ => by
      obtain ⟨s, u1, u2, u3⟩ := t3 k hk
      rw [s2, t2, y7_awO _ _ _ _ _ _ (by omega), u2, nI_toInt (by omega), nI_toInt (by omega)]
      omega
    refine R.aload_n dX13_does_0 rfl (by first | rfl | exact rfv_rf _) ?_
    refine R.getS (hL.1.2.2.2.2.2.2.2.2.1) dX13_does_1 fl_X13_38 (by decide) rfl ?_
    refine R.iconst (v := nI 2) dX13_does_4 rfl ?_
    refine R.iload_n dX13_does_5 rfl ?_
    refine R.imul dX13_does_6 ?_
    rw [pk_mul]
    refine R.ialdN (k := 2 * k) dX13_does_7 (by omega) (by show _ < mN M 14 8; rw [hL.2.2.2.2.2.2.2.2.2.1]; omega) ?_
    rw [e8, ea]
    refine R.istore_n dX13_does_8 (Nat.le_of_ble_eq_true rfl) (by decide) (by first | rfl | simp [lft, rf_cat]) rfl ?_
    refine R.aload_n dX13_does_9 rfl (by first | rfl | exact rfv_rf _) ?_
    refine R.getS (hL.1.2.2.2.2.2.2.2.2.1) dX13_does_10 fl_X13_38 (by decide) rfl ?_
    refine R.iconst (v := nI 2) dX13_does_13 rfl ?_
    refine R.iload_n dX13_does_14 rfl ?_
    refine R.imul dX13_does_15 ?_
    rw [pk_mul]
    refine R.iconst (v := nI 1) dX13_does_16 rfl ?_
    refine R.iadd dX13_does_17 ?_
    rw [nI_add9]
    refine R.ialdN (k := 2 * k + 1) dX13_does_18 (by omega) (by show _ < mN M 14 8; rw [hL.2.2.2.2.2.2.2.2.2.1]; omega) ?_
    rw [e8, ex]
    refine R.istore_n dX13_does_19 (Nat.le_of_ble_eq_true rfl) (by decide) (by first | rfl | simp [lft, rf_cat]) rfl ?_
    refine R.iconst (v := 0) dX13_does_20 rfl ?_
    refine R.istore dX13_does_21 (Nat.le_of_ble_eq_true rfl) (by decide) (by first | rfl | simp [lft, rf_cat]) rfl ?_
    refine R.aload_n dX13_does_23 rfl (by first | rfl | exact rfv_rf _) ?_
    refine R.getS (hL.1.2.2.2.2.2.2.2.1) dX13_does_24 fl_X13_35 (by decide) rfl ?_
    refine R.iload_n dX13_does_27 rfl ?_
    refine R.ialdN (k := k) dX13_does_28 (by omega) (by show _ < mN M 14 7; rw [hL.2.2.2.2.2.2.2.2.1]; omega) ?_
    rw [e7, o1n]
    refine R.tableIn (tgt := 133) dX13_does_29 (by decide) (by decide) rfl (by decide) ?_
    refine R.aload_n dX13_does_133 rfl (by first | rfl | exact rfv_rf _) ?_
    refine R.iload_n dX13_does_134 rfl ?_
    refine R.iload_n dX13_does_135 rfl ?_
    refine cl_X13_361 rfl rfl (by first | exact Nat.le_of_ble_eq_true rfl | simp [rf_cat, Value.category]) dX13_does_136 ?_
    refine m_mayMove hL hR hc hj hV.acy ?_
    refine R.if_ne (tgt := 144) dX13_does_139 (by decide) (fun _ => ?_) (fun c9 => absurd c9 (hm))
    refine R.aload_n dX13_does_144 rfl (by first | rfl | exact rfv_rf _) ?_
    refine R.iload_n dX13_does_145 rfl ?_
    refine R.iload_n dX13_does_146 rfl ?_
    refine cl_X13_364 rfl rfl (by first | exact Nat.le_of_ble_eq_true rfl | simp [rf_cat, Value.category]) dX13_does_147 ?_
    refine m_moves hL hR hc hj hV.acy hA0 hF hb9 (by omega) (fun w9 hR9 => ?_)
    refine R.istore dX13_does_150 (Nat.le_of_ble_eq_true rfl) (by decide) (by first | rfl | simp [lft, rf_cat]) rfl ?_
    refine R.iconst (v := 1) dX13_does_152 rfl ?_
    refine WP.ret (ov := some (.int _)) dX13_does_153 ⟨rfl, _, rfl, by first | rfl | assumption | exact nar_b01 (by assumption)⟩ ?_
    exact hq w9 ⟨m, b9, hR9, hV.ne (by omega) hc hj hA2⟩
set_option maxHeartbeats 2000000 in
set_option maxRecDepth 4000 in
theorem p_do4 {d T m b9 k c o9 : Nat} {y9 : Int32} {Y : Yd} {w : Nat → Int32} {M : Mem} {Q : Out → Mem → Prop} (hL : ML M) (hR : RW Y m b9 T w) (hV : PV Y m b9 T) (hk : k < 30) (hT : T + ct (4, c, o9, y9) ≤ 57000) (hO : OT (4, c, o9, y9) (mI M 14 7 k) (mI M 14 8 (2 * k)) (mI M 14 8 (2 * k + 1))) (hC : CV Y (4, c, o9, y9)) (hN : NV (4, c, o9, y9)) (hq : ∀ w', YI (exY Y (4, c, o9, y9)).2 (T + ct (4, c, o9, y9)) w' → Q (.inl (some (.int (exY Y (4, c, o9, y9)).1))) (sW M w')) : WPc (d + 13) mX13_does [.ref (rf 11 0), .int (nI k)] (sW M w) Q := by
  refine WPc.of (by decide +kernel) (Nat.le_of_ble_eq_true rfl) rfl ?_
  obtain ⟨o1, -, o3, o4, o5, o6⟩ := hO
  have o1n : mI M 14 7 k = nI 5 := o1
  have e7 : mI (sW M w) 14 7 = mI M 14 7 := mI_sWn _ _ (by decide)
  have e8 : mI (sW M w) 14 8 = mI M 14 8 := mI_sWn _ _ (by decide)
  have ea : mI M 14 8 (2 * k) = nI c := o3 rfl
  have hc : c < m := hC.cm hV rfl
  have hm16 := hV.m16
  have hT1 : T + 1 ≤ 57000 := hT
  cases ep : yP Y c with
  | none =>
    have hm : ¬ (¬ yC Y c 7 = 0 ∧ ¬ yP Y c = none) := fun q => q.2 ep
    have e9 : exY Y (4, c, o9, y9) = (0, Y) := by
      rw [exY_4, ep]
      split <;> rfl
    rw [e9] at hq
    refine R.aload_n dX13_does_0 rfl (by first | rfl | exact rfv_rf _) ?_
    refine R.getS (hL.1.2.2.2.2.2.2.2.2.1) dX13_does_1 fl_X13_38 (by decide) rfl ?_
    refine R.iconst (v := nI 2) dX13_does_4 rfl ?_
    refine R.iload_n dX13_does_5 rfl ?_
    refine R.imul dX13_does_6 ?_
    rw [pk_mul]
    refine R.ialdN (k := 2 * k) dX13_does_7 (by omega) (by show _ < mN M 14 8; rw [hL.2.2.2.2.2.2.2.2.2.1]; omega) ?_
    rw [e8, ea]
    refine R.istore_n dX13_does_8 (Nat.le_of_ble_eq_true rfl) (by decide) (by first | rfl | simp [lft, rf_cat]) rfl ?_
    refine R.aload_n dX13_does_9 rfl (by first | rfl | exact rfv_rf _) ?_
    refine R.getS (hL.1.2.2.2.2.2.2.2.2.1) dX13_does_10 fl_X13_38 (by decide) rfl ?_
    refine R.iconst (v := nI 2) dX13_does_13 rfl ?_
    refine R.iload_n dX13_does_14 rfl ?_
    refine R.imul dX13_does_15 ?_
    rw [pk_mul]
    refine R.iconst (v := nI 1) dX13_does_16 rfl ?_
    refine R.iadd dX13_does_17 ?_
    rw [nI_add9]
    refine R.ialdN (k := 2 * k + 1) dX13_does_18 (by omega) (by show _ < mN M 14 8; rw [hL.2.2.2.2.2.2.2.2.2.1]; omega) ?_
    rw [e8]
    refine R.istore_n dX13_does_19 (Nat.le_of_ble_eq_true rfl) (by decide) (by first | rfl | simp [lft, rf_cat]) rfl ?_
    refine R.iconst (v := 0) dX13_does_20 rfl ?_
    refine R.istore dX13_does_21 (Nat.le_of_ble_eq_true rfl) (by decide) (by first | rfl | simp [lft, rf_cat]) rfl ?_
    refine R.aload_n dX13_does_23 rfl (by first | rfl | exact rfv_rf _) ?_
    refine R.getS (hL.1.2.2.2.2.2.2.2.1) dX13_does_24 fl_X13_35 (by decide) rfl ?_
    refine R.iload_n dX13_does_27 rfl ?_
    refine R.ialdN (k := k) dX13_does_28 (by omega) (by show _ < mN M 14 7; rw [hL.2.2.2.2.2.2.2.2.1]; omega) ?_
    rw [e7, o1n]
    refine R.tableIn (tgt := 154) dX13_does_29 (by decide) (by decide) rfl (by decide) ?_
    refine R.aload_n dX13_does_154 rfl (by first | rfl | exact rfv_rf _) ?_
    refine R.iload_n dX13_does_155 rfl ?_
    refine cl_X13_367 rfl rfl (by first | exact Nat.le_of_ble_eq_true rfl | simp [rf_cat, Value.category]) dX13_does_156 ?_
    refine m_mayTake hL hR hc ?_
    rw [if_neg hm]
    refine R.if_ne (tgt := 164) dX13_does_159 (by decide) (fun c9 => absurd (rfl) c9) (fun _ => ?_)
    refine R.iconst (v := 0) dX13_does_162 rfl ?_
    refine WP.ret (ov := some (.int _)) dX13_does_163 ⟨rfl, _, rfl, by first | rfl | assumption | exact nar_b01 (by assumption)⟩ ?_
    exact hq w ⟨m, b9, hR.mono (by omega), hV.mono (by omega)⟩
  | some j =>
    by_cases c7 : yC Y c 7 = 0
    · have hm : ¬ (¬ yC Y c 7 = 0 ∧ ¬ yP Y c = none) := fun q => q.1 c7
      rw [exY_4, if_pos c7] at hq
      refine R.aload_n dX13_does_0 rfl (by first | rfl | exact rfv_rf _) ?_
      refine R.getS (hL.1.2.2.2.2.2.2.2.2.1) dX13_does_1 fl_X13_38 (by decide) rfl ?_
      refine R.iconst (v := nI 2) dX13_does_4 rfl ?_
      refine R.iload_n dX13_does_5 rfl ?_
      refine R.imul dX13_does_6 ?_
      rw [pk_mul]
      refine R.ialdN (k := 2 * k) dX13_does_7 (by omega) (by show _ < mN M 14 8; rw [hL.2.2.2.2.2.2.2.2.2.1]; omega) ?_
      rw [e8, ea]
      refine R.istore_n dX13_does_8 (Nat.le_of_ble_eq_true rfl) (by decide) (by first | rfl | simp [lft, rf_cat]) rfl ?_
      refine R.aload_n dX13_does_9 rfl (by first | rfl | exact rfv_rf _) ?_
      refine R.getS (hL.1.2.2.2.2.2.2.2.2.1) dX13_does_10 fl_X13_38 (by decide) rfl ?_
      refine R.iconst (v := nI 2) dX13_does_13 rfl ?_
      refine R.iload_n dX13_does_14 rfl ?_
      refine R.imul dX13_does_15 ?_
      rw [pk_mul]
      refine R.iconst (v := nI 1) dX13_does_16 rfl ?_
      refine R.iadd dX13_does_17 ?_
      rw [nI_add9]
      refine R.ialdN (k := 2 * k + 1) dX13_does_18 (by omega) (by show _ < mN M 14 8; rw [hL.2.2.2.2.2.2.2.2.2.1]; omega) ?_
      rw [e8]
      refine R.istore_n dX13_does_19 (Nat.le_of_ble_eq_true rfl) (by decide) (by first | rfl | simp [lft, rf_cat]) rfl ?_
      refine R.iconst (v := 0) dX13_does_20 rfl ?_
      refine R.istore dX13_does_21 (Nat.le_of_ble_eq_true rfl) (by decide) (by first | rfl | simp [lft, rf_cat]) rfl ?_
      refine R.aload_n dX13_does_23 rfl (by first | rfl | exact rfv_rf _) ?_
      refine R.getS (hL.1.2.2.2.2.2.2.2.1) dX13_does_24 fl_X13_35 (by decide) rfl ?_
      refine R.iload_n dX13_does_27 rfl ?_
      refine R.ialdN (k := k) dX13_does_28 (by omega) (by show _ < mN M 14 7; rw [hL.2.2.2.2.2.2.2.2.1]; omega) ?_
      rw [e7, o1n]
      refine R.tableIn (tgt := 154) dX13_does_29 (by decide) (by decide) rfl (by decide) ?_
      refine R.aload_n dX13_does_154 rfl (by first | rfl | exact rfv_rf _) ?_
      refine R.iload_n dX13_does_155 rfl ?_
      refine cl_X13_367 rfl rfl (by first | exact Nat.le_of_ble_eq_true rfl | simp [rf_cat, Value.category]) dX13_does_156 ?_
      refine m_mayTake hL hR hc ?_
      rw [if_neg hm]
      refine R.if_ne (tgt := 164) dX13_does_159 (by decide) (fun c9 => absurd (rfl) c9) (fun _ => ?_)
      refine R.iconst (v := 0) dX13_does_162 rfl ?_
      refine WP.ret (ov := some (.int _)) dX13_does_163 ⟨rfl, _, rfl, by first | rfl | assumption | exact nar_b01 (by assumption)⟩ ?_
      exact hq w ⟨m, b9, hR.mono (by omega), hV.mono (by omega)⟩
    · have hm : ¬ yC Y c 7 = 0 ∧ ¬ yP Y c = none := ⟨c7, fun q => by rw [ep] at q; cases q⟩
      have e9 : exY Y (4, c, o9, y9) = (1, unY Y c) := by rw [exY_4, if_neg c7, ep]
      rw [e9] at hq
      refine R.aload_n dX13_does_0 rfl (by first | rfl | exact rfv_rf _) ?_
      refine R.getS (hL.1.2.2.2.2.2.2.2.2.1) dX13_does_1 fl_X13_38 (by decide) rfl ?_
      refine R.iconst (v := nI 2) dX13_does_4 rfl ?_
      refine R.iload_n dX13_does_5 rfl ?_
      refine R.imul dX13_does_6 ?_
      rw [pk_mul]
      refine R.ialdN (k := 2 * k) dX13_does_7 (by omega) (by show _ < mN M 14 8; rw [hL.2.2.2.2.2.2.2.2.2.1]; omega) ?_
      rw [e8, ea]
      refine R.istore_n dX13_does_8 (Nat.le_of_ble_eq_true rfl) (by decide) (by first | rfl | simp [lft, rf_cat]) rfl ?_
      refine R.aload_n dX13_does_9 rfl (by first | rfl | exact rfv_rf _) ?_
      refine R.getS (hL.1.2.2.2.2.2.2.2.2.1) dX13_does_10 fl_X13_38 (by decide) rfl ?_
      refine R.iconst (v := nI 2) dX13_does_13 rfl ?_
      refine R.iload_n dX13_does_14 rfl ?_
      refine R.imul dX13_does_15 ?_
      rw [pk_mul]
      refine R.iconst (v := nI 1) dX13_does_16 rfl ?_
      refine R.iadd dX13_does_17 ?_
      rw [nI_add9]
      refine R.ialdN (k := 2 * k + 1) dX13_does_18 (by omega) (by show _ < mN M 14 8; rw [hL.2.2.2.2.2.2.2.2.2.1]; omega) ?_
      rw [e8]
      refine R.istore_n dX13_does_19 (Nat.le_of_ble_eq_true rfl) (by decide) (by first | rfl | simp [lft, rf_cat]) rfl ?_
      refine R.iconst (v := 0) dX13_does_20 rfl ?_
      refine R.istore dX13_does_21 (Nat.le_of_ble_eq_true rfl) (by decide) (by first | rfl | simp [lft, rf_cat]) rfl ?_
      refine R.aload_n dX13_does_23 rfl (by first | rfl | exact rfv_rf _) ?_
      refine R.getS (hL.1.2.2.2.2.2.2.2.1) dX13_does_24 fl_X13_35 (by decide) rfl ?_
      refine R.iload_n dX13_does_27 rfl ?_
      refine R.ialdN (k := k) dX13_does_28 (by omega) (by show _ < mN M 14 7; rw [hL.2.2.2.2.2.2.2.2.1]; omega) ?_
      rw [e7, o1n]
      refine R.tableIn (tgt := 154) dX13_does_29 (by decide) (by decide) rfl (by decide) ?_
      refine R.aload_n dX13_does_154 rfl (by first | rfl | exact rfv_rf _) ?_
      refine R.iload_n dX13_does_155 rfl ?_
      refine cl_X13_367 rfl rfl (by first | exact Nat.le_of_ble_eq_true rfl | simp [rf_cat, Value.category]) dX13_does_156 ?_
      refine m_mayTake hL hR hc ?_
      rw [if_pos hm]
      refine R.if_ne (tgt := 164) dX13_does_159 (by decide) (fun _ => ?_) (fun c9 => absurd c9 (by decide))
      refine R.aload_n dX13_does_164 rfl (by first | rfl | exact rfv_rf _) ?_
      refine R.iload_n dX13_does_165 rfl ?_
      refine cl_X13_370 rfl rfl (by first | exact Nat.le_of_ble_eq_true rfl | simp [rf_cat, Value.category]) dX13_does_166 ?_
      refine m_takes hL hR hc ep hV.acy (acy_un hV.acy) (PV.uo hV (by omega)).l (fun w9 hR9 => ?_)
      refine R.istore dX13_does_169 (Nat.le_of_ble_eq_true rfl) (by decide) (by first | rfl | simp [lft, rf_cat]) rfl ?_
      refine R.iconst (v := 1) dX13_does_171 rfl ?_
      refine WP.ret (ov := some (.int _)) dX13_does_172 ⟨rfl, _, rfl, by first | rfl | assumption | exact nar_b01 (by assumption)⟩ ?_
      exact hq w9 ⟨m, b9, hR9.mono (Nat.le_succ T), (hV.uo (by omega)).mono (Nat.le_succ T)⟩
set_option maxHeartbeats 2000000 in
set_option maxRecDepth 4000 in
theorem p_do5 {d T m b9 k c o9 : Nat} {y9 : Int32} {Y : Yd} {w : Nat → Int32} {M : Mem} {Q : Out → Mem → Prop} (hL : ML M) (hR : RW Y m b9 T w) (hV : PV Y m b9 T) (hk : k < 30) (hT : T + ct (5, c, o9, y9) ≤ 57000) (hO : OT (5, c, o9, y9) (mI M 14 7 k) (mI M 14 8 (2 * k)) (mI M 14 8 (2 * k + 1))) (hC : CV Y (5, c, o9, y9)) (hN : NV (5, c, o9, y9)) (hq : ∀ w', YI (exY Y (5, c, o9, y9)).2 (T + ct (5, c, o9, y9)) w' → Q (.inl (some (.int (exY Y (5, c, o9, y9)).1))) (sW M w')) : WPc (d + 13) mX13_does [.ref (rf 11 0), .int (nI k)] (sW M w) Q := by
  refine WPc.of (by decide +kernel) (Nat.le_of_ble_eq_true rfl) rfl ?_
  obtain ⟨o1, -, o3, o4, o5, o6⟩ := hO
  have o1n : mI M 14 7 k = nI 6 := o1
  have e7 : mI (sW M w) 14 7 = mI M 14 7 := mI_sWn _ _ (by decide)
  have e8 : mI (sW M w) 14 8 = mI M 14 8 := mI_sWn _ _ (by decide)
  rw [exY_5] at hq
  refine R.aload_n dX13_does_0 rfl (by first | rfl | exact rfv_rf _) ?_
  refine R.getS (hL.1.2.2.2.2.2.2.2.2.1) dX13_does_1 fl_X13_38 (by decide) rfl ?_
  refine R.iconst (v := nI 2) dX13_does_4 rfl ?_
  refine R.iload_n dX13_does_5 rfl ?_
  refine R.imul dX13_does_6 ?_
  rw [pk_mul]
  refine R.ialdN (k := 2 * k) dX13_does_7 (by omega) (by show _ < mN M 14 8; rw [hL.2.2.2.2.2.2.2.2.2.1]; omega) ?_
  rw [e8]
  refine R.istore_n dX13_does_8 (Nat.le_of_ble_eq_true rfl) (by decide) (by first | rfl | simp [lft, rf_cat]) rfl ?_
  refine R.aload_n dX13_does_9 rfl (by first | rfl | exact rfv_rf _) ?_
  refine R.getS (hL.1.2.2.2.2.2.2.2.2.1) dX13_does_10 fl_X13_38 (by decide) rfl ?_
  refine R.iconst (v := nI 2) dX13_does_13 rfl ?_
  refine R.iload_n dX13_does_14 rfl ?_
  refine R.imul dX13_does_15 ?_
  rw [pk_mul]
  refine R.iconst (v := nI 1) dX13_does_16 rfl ?_
  refine R.iadd dX13_does_17 ?_
  rw [nI_add9]
  refine R.ialdN (k := 2 * k + 1) dX13_does_18 (by omega) (by show _ < mN M 14 8; rw [hL.2.2.2.2.2.2.2.2.2.1]; omega) ?_
  rw [e8]
  refine R.istore_n dX13_does_19 (Nat.le_of_ble_eq_true rfl) (by decide) (by first | rfl | simp [lft, rf_cat]) rfl ?_
  refine R.iconst (v := 0) dX13_does_20 rfl ?_
  refine R.istore dX13_does_21 (Nat.le_of_ble_eq_true rfl) (by decide) (by first | rfl | simp [lft, rf_cat]) rfl ?_
  refine R.aload_n dX13_does_23 rfl (by first | rfl | exact rfv_rf _) ?_
  refine R.getS (hL.1.2.2.2.2.2.2.2.1) dX13_does_24 fl_X13_35 (by decide) rfl ?_
  refine R.iload_n dX13_does_27 rfl ?_
  refine R.ialdN (k := k) dX13_does_28 (by omega) (by show _ < mN M 14 7; rw [hL.2.2.2.2.2.2.2.2.1]; omega) ?_
  rw [e7, o1n]
  refine R.tableIn (tgt := 173) dX13_does_29 (by decide) (by decide) rfl (by decide) ?_
  refine R.aload_n dX13_does_173 rfl (by first | rfl | exact rfv_rf _) ?_
  refine cl_X13_373 rfl rfl (by first | exact Nat.le_of_ble_eq_true rfl | simp [rf_cat, Value.category]) dX13_does_174 ?_
  refine m_repl hL hR (fun w9 hR9 => ?_)
  refine R.istore dX13_does_177 (Nat.le_of_ble_eq_true rfl) (by decide) (by first | rfl | simp [lft, rf_cat]) rfl ?_
  refine R.iconst (v := 1) dX13_does_179 rfl ?_
  refine WP.ret (ov := some (.int _)) dX13_does_180 ⟨rfl, _, rfl, by first | rfl | assumption | exact nar_b01 (by assumption)⟩ ?_
  exact hq w9 ⟨m, b9, hR9.mono (Nat.le_succ T), hV.sp.mono (Nat.le_succ T)⟩
set_option maxHeartbeats 2000000 in
set_option maxRecDepth 4000 in
theorem p_do6 {d T m b9 k c o9 : Nat} {y9 : Int32} {Y : Yd} {w : Nat → Int32} {M : Mem} {Q : Out → Mem → Prop} (hL : ML M) (hR : RW Y m b9 T w) (hV : PV Y m b9 T) (hk : k < 30) (hT : T + ct (6, c, o9, y9) ≤ 57000) (hO : OT (6, c, o9, y9) (mI M 14 7 k) (mI M 14 8 (2 * k)) (mI M 14 8 (2 * k + 1))) (hC : CV Y (6, c, o9, y9)) (hN : NV (6, c, o9, y9)) (hq : ∀ w', YI (exY Y (6, c, o9, y9)).2 (T + ct (6, c, o9, y9)) w' → Q (.inl (some (.int (exY Y (6, c, o9, y9)).1))) (sW M w')) : WPc (d + 13) mX13_does [.ref (rf 11 0), .int (nI k)] (sW M w) Q := by
  refine WPc.of (by decide +kernel) (Nat.le_of_ble_eq_true rfl) rfl ?_
  obtain ⟨o1, -, o3, o4, o5, o6⟩ := hO
  have o1n : mI M 14 7 k = nI 7 := o1
  have e7 : mI (sW M w) 14 7 = mI M 14 7 := mI_sWn _ _ (by decide)
  have e8 : mI (sW M w) 14 8 = mI M 14 8 := mI_sWn _ _ (by decide)
  have ea : mI M 14 8 (2 * k) = nI c := o3 rfl
  have hc : c < m := hC.cm hV rfl
  have hm16 := hV.m16
  have ex : mI M 14 8 (2 * k + 1) = nI o9 := o5 (Or.inr rfl)
  have hj : o9 < b9 := hC.ob hV
  have hT1 : T + 1 ≤ 57000 := hT
  by_cases e0 : yRef Y c o9 = 0
  · have c7 : ¬ yC Y c 7 = 0 := fun z => by
      unfold yRef at e0
      rw [if_pos z] at e0
      exact absurd e0 (by decide)
    rw [exY_6, if_neg c7, if_pos e0] at hq
    refine R.aload_n dX13_does_0 rfl (by first | rfl | exact rfv_rf _) ?_
    refine R.getS (hL.1.2.2.2.2.2.2.2.2.1) dX13_does_1 fl_X13_38 (by decide) rfl ?_
    refine R.iconst (v := nI 2) dX13_does_4 rfl ?_
    refine R.iload_n dX13_does_5 rfl ?_
    refine R.imul dX13_does_6 ?_
    rw [pk_mul]
    refine R.ialdN (k := 2 * k) dX13_does_7 (by omega) (by show _ < mN M 14 8; rw [hL.2.2.2.2.2.2.2.2.2.1]; omega) ?_
    rw [e8, ea]
    refine R.istore_n dX13_does_8 (Nat.le_of_ble_eq_true rfl) (by decide) (by first | rfl | simp [lft, rf_cat]) rfl ?_
    refine R.aload_n dX13_does_9 rfl (by first | rfl | exact rfv_rf _) ?_
    refine R.getS (hL.1.2.2.2.2.2.2.2.2.1) dX13_does_10 fl_X13_38 (by decide) rfl ?_
    refine R.iconst (v := nI 2) dX13_does_13 rfl ?_
    refine R.iload_n dX13_does_14 rfl ?_
    refine R.imul dX13_does_15 ?_
    rw [pk_mul]
    refine R.iconst (v := nI 1) dX13_does_16 rfl ?_
    refine R.iadd dX13_does_17 ?_
    rw [nI_add9]
    refine R.ialdN (k := 2 * k + 1) dX13_does_18 (by omega) (by show _ < mN M 14 8; rw [hL.2.2.2.2.2.2.2.2.2.1]; omega) ?_
    rw [e8, ex]
    refine R.istore_n dX13_does_19 (Nat.le_of_ble_eq_true rfl) (by decide) (by first | rfl | simp [lft, rf_cat]) rfl ?_
    refine R.iconst (v := 0) dX13_does_20 rfl ?_
    refine R.istore dX13_does_21 (Nat.le_of_ble_eq_true rfl) (by decide) (by first | rfl | simp [lft, rf_cat]) rfl ?_
    refine R.aload_n dX13_does_23 rfl (by first | rfl | exact rfv_rf _) ?_
    refine R.getS (hL.1.2.2.2.2.2.2.2.1) dX13_does_24 fl_X13_35 (by decide) rfl ?_
    refine R.iload_n dX13_does_27 rfl ?_
    refine R.ialdN (k := k) dX13_does_28 (by omega) (by show _ < mN M 14 7; rw [hL.2.2.2.2.2.2.2.2.1]; omega) ?_
    rw [e7, o1n]
    refine R.tableIn (tgt := 181) dX13_does_29 (by decide) (by decide) rfl (by decide) ?_
    refine R.aload_n dX13_does_181 rfl (by first | rfl | exact rfv_rf _) ?_
    refine R.iload_n dX13_does_182 rfl ?_
    refine R.iload_n dX13_does_183 rfl ?_
    refine cl_X13_160 rfl rfl (by first | exact Nat.le_of_ble_eq_true rfl | simp [rf_cat, Value.category]) dX13_does_184 ?_
    refine m_refuses hL hR hc (hV.mo (by omega) (by omega)) hV.r6 hj ?_
    rw [e0]
    refine R.if_eq (tgt := 192) dX13_does_187 (by decide) (fun _ => ?_) (fun c9 => absurd (rfl) c9)
    refine R.aload_n dX13_does_192 rfl (by first | rfl | exact rfv_rf _) ?_
    refine R.iload_n dX13_does_193 rfl ?_
    refine R.iload_n dX13_does_194 rfl ?_
    refine cl_X13_376 rfl rfl (by first | exact Nat.le_of_ble_eq_true rfl | simp [rf_cat, Value.category]) dX13_does_195 ?_
    refine m_sells hL hR hc hV.l hV.acy (hV.mo (by omega) (by omega)) (ref_p hV.r6 e0) hj (fun w9 hR9 => ?_)
    refine R.istore dX13_does_198 (Nat.le_of_ble_eq_true rfl) (by decide) (by first | rfl | simp [lft, rf_cat]) rfl ?_
    refine R.iconst (v := 1) dX13_does_200 rfl ?_
    refine WP.ret (ov := some (.int _)) dX13_does_201 ⟨rfl, _, rfl, by first | rfl | assumption | exact nar_b01 (by assumption)⟩ ?_
    exact hq w9 ⟨m, b9, hR9.mono (Nat.le_succ T), (hV.tr hj).mono (Nat.le_succ T)⟩
  · have e9 : exY Y (6, c, o9, y9) = (0, Y) := by
      rw [exY_6, if_neg e0]
      split <;> rfl
    rw [e9] at hq
    refine R.aload_n dX13_does_0 rfl (by first | rfl | exact rfv_rf _) ?_
    refine R.getS (hL.1.2.2.2.2.2.2.2.2.1) dX13_does_1 fl_X13_38 (by decide) rfl ?_
    refine R.iconst (v := nI 2) dX13_does_4 rfl ?_
    refine R.iload_n dX13_does_5 rfl ?_
    refine R.imul dX13_does_6 ?_
    rw [pk_mul]
    refine R.ialdN (k := 2 * k) dX13_does_7 (by omega) (by show _ < mN M 14 8; rw [hL.2.2.2.2.2.2.2.2.2.1]; omega) ?_
    rw [e8, ea]
    refine R.istore_n dX13_does_8 (Nat.le_of_ble_eq_true rfl) (by decide) (by first | rfl | simp [lft, rf_cat]) rfl ?_
    refine R.aload_n dX13_does_9 rfl (by first | rfl | exact rfv_rf _) ?_
    refine R.getS (hL.1.2.2.2.2.2.2.2.2.1) dX13_does_10 fl_X13_38 (by decide) rfl ?_
    refine R.iconst (v := nI 2) dX13_does_13 rfl ?_
    refine R.iload_n dX13_does_14 rfl ?_
    refine R.imul dX13_does_15 ?_
    rw [pk_mul]
    refine R.iconst (v := nI 1) dX13_does_16 rfl ?_
    refine R.iadd dX13_does_17 ?_
    rw [nI_add9]
    refine R.ialdN (k := 2 * k + 1) dX13_does_18 (by omega) (by show _ < mN M 14 8; rw [hL.2.2.2.2.2.2.2.2.2.1]; omega) ?_
    rw [e8, ex]
    refine R.istore_n dX13_does_19 (Nat.le_of_ble_eq_true rfl) (by decide) (by first | rfl | simp [lft, rf_cat]) rfl ?_
    refine R.iconst (v := 0) dX13_does_20 rfl ?_
    refine R.istore dX13_does_21 (Nat.le_of_ble_eq_true rfl) (by decide) (by first | rfl | simp [lft, rf_cat]) rfl ?_
    refine R.aload_n dX13_does_23 rfl (by first | rfl | exact rfv_rf _) ?_
    refine R.getS (hL.1.2.2.2.2.2.2.2.1) dX13_does_24 fl_X13_35 (by decide) rfl ?_
    refine R.iload_n dX13_does_27 rfl ?_
    refine R.ialdN (k := k) dX13_does_28 (by omega) (by show _ < mN M 14 7; rw [hL.2.2.2.2.2.2.2.2.1]; omega) ?_
    rw [e7, o1n]
    refine R.tableIn (tgt := 181) dX13_does_29 (by decide) (by decide) rfl (by decide) ?_
    refine R.aload_n dX13_does_181 rfl (by first | rfl | exact rfv_rf _) ?_
    refine R.iload_n dX13_does_182 rfl ?_
    refine R.iload_n dX13_does_183 rfl ?_
    refine cl_X13_160 rfl rfl (by first | exact Nat.le_of_ble_eq_true rfl | simp [rf_cat, Value.category]) dX13_does_184 ?_
    refine m_refuses hL hR hc (hV.mo (by omega) (by omega)) hV.r6 hj ?_
    refine R.if_eq (tgt := 192) dX13_does_187 (by decide) (fun c9 => absurd c9 (e0)) (fun _ => ?_)
    refine R.iconst (v := 0) dX13_does_190 rfl ?_
    refine WP.ret (ov := some (.int _)) dX13_does_191 ⟨rfl, _, rfl, by first | rfl | assumption | exact nar_b01 (by assumption)⟩ ?_
    exact hq w ⟨m, b9, hR.mono (by omega), hV.mono (by omega)⟩
set_option maxHeartbeats 2000000 in
set_option maxRecDepth 4000 in
theorem p_do7 {d T m b9 k c o9 : Nat} {y9 : Int32} {Y : Yd} {w : Nat → Int32} {M : Mem} {Q : Out → Mem → Prop} (hL : ML M) (hR : RW Y m b9 T w) (hV : PV Y m b9 T) (hk : k < 30) (hT : T + ct (7, c, o9, y9) ≤ 57000) (hO : OT (7, c, o9, y9) (mI M 14 7 k) (mI M 14 8 (2 * k)) (mI M 14 8 (2 * k + 1))) (hC : CV Y (7, c, o9, y9)) (hN : NV (7, c, o9, y9)) (hq : ∀ w', YI (exY Y (7, c, o9, y9)).2 (T + ct (7, c, o9, y9)) w' → Q (.inl (some (.int (exY Y (7, c, o9, y9)).1))) (sW M w')) : WPc (d + 13) mX13_does [.ref (rf 11 0), .int (nI k)] (sW M w) Q := by
  refine WPc.of (by decide +kernel) (Nat.le_of_ble_eq_true rfl) rfl ?_
  obtain ⟨o1, -, o3, o4, o5, o6⟩ := hO
  have o1n : mI M 14 7 k = nI 8 := o1
  have e7 : mI (sW M w) 14 7 = mI M 14 7 := mI_sWn _ _ (by decide)
  have e8 : mI (sW M w) 14 8 = mI M 14 8 := mI_sWn _ _ (by decide)
  have ey : mI M 14 8 (2 * k) = y9 := o6 (Or.inl rfl)
  have hT1 : T + 1 ≤ 57000 := hT
  obtain ⟨n1, n2⟩ := hN.2.2.1 rfl
  have n1 : 0 ≤ y9 := n1
  have n2 : y9 ≤ 50 := n2
  obtain ⟨j, hj, ej⟩ := nI_of (x := y9) (fun q => absurd (Int32.le_trans (show (0 : Int32) ≤ 0 by decide) n1) (i_nle q))
  have l1 : 0 ≤ j := (nI_leI (by omega) hj).mp (by rw [← ej]; exact n1)
  have l2 : j ≤ 50 := (nI_leI hj (by omega)).mp (by rw [← ej]; exact n2)
  subst ej
  rw [exY_7] at hq
  refine R.aload_n dX13_does_0 rfl (by first | rfl | exact rfv_rf _) ?_
  refine R.getS (hL.1.2.2.2.2.2.2.2.2.1) dX13_does_1 fl_X13_38 (by decide) rfl ?_
  refine R.iconst (v := nI 2) dX13_does_4 rfl ?_
  refine R.iload_n dX13_does_5 rfl ?_
  refine R.imul dX13_does_6 ?_
  rw [pk_mul]
  refine R.ialdN (k := 2 * k) dX13_does_7 (by omega) (by show _ < mN M 14 8; rw [hL.2.2.2.2.2.2.2.2.2.1]; omega) ?_
  rw [e8, ey]
  refine R.istore_n dX13_does_8 (Nat.le_of_ble_eq_true rfl) (by decide) (by first | rfl | simp [lft, rf_cat]) rfl ?_
  refine R.aload_n dX13_does_9 rfl (by first | rfl | exact rfv_rf _) ?_
  refine R.getS (hL.1.2.2.2.2.2.2.2.2.1) dX13_does_10 fl_X13_38 (by decide) rfl ?_
  refine R.iconst (v := nI 2) dX13_does_13 rfl ?_
  refine R.iload_n dX13_does_14 rfl ?_
  refine R.imul dX13_does_15 ?_
  rw [pk_mul]
  refine R.iconst (v := nI 1) dX13_does_16 rfl ?_
  refine R.iadd dX13_does_17 ?_
  rw [nI_add9]
  refine R.ialdN (k := 2 * k + 1) dX13_does_18 (by omega) (by show _ < mN M 14 8; rw [hL.2.2.2.2.2.2.2.2.2.1]; omega) ?_
  rw [e8]
  refine R.istore_n dX13_does_19 (Nat.le_of_ble_eq_true rfl) (by decide) (by first | rfl | simp [lft, rf_cat]) rfl ?_
  refine R.iconst (v := 0) dX13_does_20 rfl ?_
  refine R.istore dX13_does_21 (Nat.le_of_ble_eq_true rfl) (by decide) (by first | rfl | simp [lft, rf_cat]) rfl ?_
  refine R.aload_n dX13_does_23 rfl (by first | rfl | exact rfv_rf _) ?_
  refine R.getS (hL.1.2.2.2.2.2.2.2.1) dX13_does_24 fl_X13_35 (by decide) rfl ?_
  refine R.iload_n dX13_does_27 rfl ?_
  refine R.ialdN (k := k) dX13_does_28 (by omega) (by show _ < mN M 14 7; rw [hL.2.2.2.2.2.2.2.2.1]; omega) ?_
  rw [e7, o1n]
  refine R.tableOut (tgt := 202) dX13_does_29 (by decide) (by decide) ?_
  refine R.aload_n dX13_does_202 rfl (by first | rfl | exact rfv_rf _) ?_
  refine R.aload_n dX13_does_203 rfl (by first | rfl | exact rfv_rf _) ?_
  refine R.getS (hL.1.2.2.2.2.2.2.2.1) dX13_does_204 fl_X13_35 (by decide) rfl ?_
  refine R.iload_n dX13_does_207 rfl ?_
  refine R.ialdN (k := k) dX13_does_208 (by omega) (by show _ < mN M 14 7; rw [hL.2.2.2.2.2.2.2.2.1]; omega) ?_
  rw [e7, o1n]
  refine R.bipush (v := nI 8) dX13_does_209 (by decide) ?_
  refine R.icmp_ne (tgt := 218) dX13_does_211 (by decide) (fun c9 => absurd (rfl) c9) (fun _ => ?_)
  refine R.iconst (v := nI 2) dX13_does_214 rfl ?_
  refine R.goto (tgt := 219) dX13_does_215 (by decide) ?_
  refine R.iload_n dX13_does_219 rfl ?_
  refine cl_X13_379 rfl rfl (by first | exact Nat.le_of_ble_eq_true rfl | simp [rf_cat, Value.category]) dX13_does_220 ?_
  refine m_set_amp hL hR (fun w9 hR9 => ?_)
  refine R.istore dX13_does_223 (Nat.le_of_ble_eq_true rfl) (by decide) (by first | rfl | simp [lft, rf_cat]) rfl ?_
  refine R.iconst (v := 1) dX13_does_225 rfl ?_
  refine WP.ret (ov := some (.int _)) dX13_does_226 ⟨rfl, _, rfl, by first | rfl | assumption | exact nar_b01 (by assumption)⟩ ?_
  exact hq w9 ⟨m, b9, hR9.mono (Nat.le_succ T), (hV.am l2).mono (Nat.le_succ T)⟩
set_option maxHeartbeats 2000000 in
set_option maxRecDepth 4000 in
theorem p_do8 {d T m b9 k c o9 : Nat} {y9 : Int32} {Y : Yd} {w : Nat → Int32} {M : Mem} {Q : Out → Mem → Prop} (hL : ML M) (hR : RW Y m b9 T w) (hV : PV Y m b9 T) (hk : k < 30) (hT : T + ct (8, c, o9, y9) ≤ 57000) (hO : OT (8, c, o9, y9) (mI M 14 7 k) (mI M 14 8 (2 * k)) (mI M 14 8 (2 * k + 1))) (hC : CV Y (8, c, o9, y9)) (hN : NV (8, c, o9, y9)) (hq : ∀ w', YI (exY Y (8, c, o9, y9)).2 (T + ct (8, c, o9, y9)) w' → Q (.inl (some (.int (exY Y (8, c, o9, y9)).1))) (sW M w')) : WPc (d + 13) mX13_does [.ref (rf 11 0), .int (nI k)] (sW M w) Q := by
  refine WPc.of (by decide +kernel) (Nat.le_of_ble_eq_true rfl) rfl ?_
  obtain ⟨o1, -, o3, o4, o5, o6⟩ := hO
  have o1n : mI M 14 7 k = nI 9 := o1
  have e7 : mI (sW M w) 14 7 = mI M 14 7 := mI_sWn _ _ (by decide)
  have e8 : mI (sW M w) 14 8 = mI M 14 8 := mI_sWn _ _ (by decide)
  have ey : mI M 14 8 (2 * k) = y9 := o6 (Or.inr rfl)
  have hT1 : T + 1 ≤ 57000 := hT
  obtain ⟨n1, n2⟩ := hN.2.2.2 rfl
  have n1 : 1 ≤ y9 := n1
  have n2 : y9 ≤ 100 := n2
  obtain ⟨j, hj, ej⟩ := nI_of (x := y9) (fun q => absurd (Int32.le_trans (show (0 : Int32) ≤ 1 by decide) n1) (i_nle q))
  have l1 : 1 ≤ j := (nI_leI (by omega) hj).mp (by rw [← ej]; exact n1)
  have l2 : j ≤ 100 := (nI_leI hj (by omega)).mp (by rw [← ej]; exact n2)
  subst ej
  rw [exY_8] at hq
  refine R.aload_n dX13_does_0 rfl (by first | rfl | exact rfv_rf _) ?_
  refine R.getS (hL.1.2.2.2.2.2.2.2.2.1) dX13_does_1 fl_X13_38 (by decide) rfl ?_
  refine R.iconst (v := nI 2) dX13_does_4 rfl ?_
  refine R.iload_n dX13_does_5 rfl ?_
  refine R.imul dX13_does_6 ?_
  rw [pk_mul]
  refine R.ialdN (k := 2 * k) dX13_does_7 (by omega) (by show _ < mN M 14 8; rw [hL.2.2.2.2.2.2.2.2.2.1]; omega) ?_
  rw [e8, ey]
  refine R.istore_n dX13_does_8 (Nat.le_of_ble_eq_true rfl) (by decide) (by first | rfl | simp [lft, rf_cat]) rfl ?_
  refine R.aload_n dX13_does_9 rfl (by first | rfl | exact rfv_rf _) ?_
  refine R.getS (hL.1.2.2.2.2.2.2.2.2.1) dX13_does_10 fl_X13_38 (by decide) rfl ?_
  refine R.iconst (v := nI 2) dX13_does_13 rfl ?_
  refine R.iload_n dX13_does_14 rfl ?_
  refine R.imul dX13_does_15 ?_
  rw [pk_mul]
  refine R.iconst (v := nI 1) dX13_does_16 rfl ?_
  refine R.iadd dX13_does_17 ?_
  rw [nI_add9]
  refine R.ialdN (k := 2 * k + 1) dX13_does_18 (by omega) (by show _ < mN M 14 8; rw [hL.2.2.2.2.2.2.2.2.2.1]; omega) ?_
  rw [e8]
  refine R.istore_n dX13_does_19 (Nat.le_of_ble_eq_true rfl) (by decide) (by first | rfl | simp [lft, rf_cat]) rfl ?_
  refine R.iconst (v := 0) dX13_does_20 rfl ?_
  refine R.istore dX13_does_21 (Nat.le_of_ble_eq_true rfl) (by decide) (by first | rfl | simp [lft, rf_cat]) rfl ?_
  refine R.aload_n dX13_does_23 rfl (by first | rfl | exact rfv_rf _) ?_
  refine R.getS (hL.1.2.2.2.2.2.2.2.1) dX13_does_24 fl_X13_35 (by decide) rfl ?_
  refine R.iload_n dX13_does_27 rfl ?_
  refine R.ialdN (k := k) dX13_does_28 (by omega) (by show _ < mN M 14 7; rw [hL.2.2.2.2.2.2.2.2.1]; omega) ?_
  rw [e7, o1n]
  refine R.tableOut (tgt := 202) dX13_does_29 (by decide) (by decide) ?_
  refine R.aload_n dX13_does_202 rfl (by first | rfl | exact rfv_rf _) ?_
  refine R.aload_n dX13_does_203 rfl (by first | rfl | exact rfv_rf _) ?_
  refine R.getS (hL.1.2.2.2.2.2.2.2.1) dX13_does_204 fl_X13_35 (by decide) rfl ?_
  refine R.iload_n dX13_does_207 rfl ?_
  refine R.ialdN (k := k) dX13_does_208 (by omega) (by show _ < mN M 14 7; rw [hL.2.2.2.2.2.2.2.2.1]; omega) ?_
  rw [e7, o1n]
  refine R.bipush (v := nI 8) dX13_does_209 (by decide) ?_
  refine R.icmp_ne (tgt := 218) dX13_does_211 (by decide) (fun _ => ?_) (fun c9 => absurd c9 (by decide))
  refine R.iconst (v := nI 4) dX13_does_218 rfl ?_
  refine R.iload_n dX13_does_219 rfl ?_
  refine cl_X13_379 rfl rfl (by first | exact Nat.le_of_ble_eq_true rfl | simp [rf_cat, Value.category]) dX13_does_220 ?_
  refine m_set_aging hL hR (fun w9 hR9 => ?_)
  refine R.istore dX13_does_223 (Nat.le_of_ble_eq_true rfl) (by decide) (by first | rfl | simp [lft, rf_cat]) rfl ?_
  refine R.iconst (v := 1) dX13_does_225 rfl ?_
  refine WP.ret (ov := some (.int _)) dX13_does_226 ⟨rfl, _, rfl, by first | rfl | assumption | exact nar_b01 (by assumption)⟩ ?_
  exact hq w9 ⟨m, b9, hR9.mono (Nat.le_succ T), (hV.ag l1 l2).mono (Nat.le_succ T)⟩
theorem p_do {d T k : Nat} {t : St} {Y : Yd} {w : Nat → Int32} {M : Mem} {Q : Out → Mem → Prop} (hL : ML M) (hY : YI Y T w) (hk : k < 30) (hT : T + ct t ≤ 57000) (hO : OT t (mI M 14 7 k) (mI M 14 8 (2 * k)) (mI M 14 8 (2 * k + 1))) (hC : CV Y t) (hN : NV t) (hq : ∀ w', YI (exY Y t).2 (T + ct t) w' → Q (.inl (some (.int (exY Y t).1))) (sW M w')) : WPc (d + 13) mX13_does [.ref (rf 11 0), .int (nI k)] (sW M w) Q := by
  obtain ⟨m, b9, hR, hV⟩ := hY
  obtain ⟨v, c, o9, y9⟩ := t
  have hv : v < 9 := hO.2.1
  rcases v with _ | _ | _ | _ | _ | _ | _ | _ | _ | v
  · exact p_do0 hL hR hV hk hT hO hC hN hq
  · exact p_do1 hL hR hV hk hT hO hC hN hq
  · exact p_do2 hL hR hV hk hT hO hC hN hq
  · exact p_do3 hL hR hV hk hT hO hC hN hq
  · exact p_do4 hL hR hV hk hT hO hC hN hq
  · exact p_do5 hL hR hV hk hT hO hC hN hq
  · exact p_do6 hL hR hV hk hT hO hC hN hq
  · exact p_do7 hL hR hV hk hT hO hC hN hq
  · exact p_do8 hL hR hV hk hT hO hC hN hq
  · omega
