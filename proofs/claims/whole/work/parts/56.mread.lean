/-! the model's readings -/
theorem t32a (x y : Int64) : (x + y).toInt32 = x.toInt32 + y.toInt32 := Int64.toInt32_add x y
theorem t32b (x : Int32) : x.toInt64.toInt32 = x := Int32.toInt32_toInt64 x
theorem rem2 {r : Nat} (hr : r < 2 ^ 31) : rem (nI r) 2 = nI (r % 2) := by
  show nI r - nI r / nI 2 * nI 2 = _
  exact pk_rem hr (by decide) (by decide)
set_option maxHeartbeats 1000000 in
set_option maxRecDepth 4000 in
theorem m_errO {d : Nat} {w : Nat → Int32} {M : Mem} {Q : Out → Mem → Prop} {c : Nat} (hL : ML M) (hc : c < 16) (h1 : w (16 + 18 * c + 16) = nI 1) (hq : Q (.inl (some (.int (- (upW w (16 + 18 * c + 16) 0) (16 + 18 * c + 17))))) (sW M (upW w (16 + 18 * c + 16) 0))) : WPc (d + 1) mX13_errorTerm [.ref (rf 11 0), .int (nI c)] (sW M w) Q := by
  refine WPc.of (by decide +kernel) (Nat.le_of_ble_eq_true rfl) rfl ?_
  refine R.aload_n dX13_errorTerm_0 rfl (by first | rfl | exact rfv_rf _) ?_
  refine R.iload_n dX13_errorTerm_1 rfl ?_
  refine R.bipush (v := nI 16) dX13_errorTerm_2 (by decide) ?_
  refine cl_X13_68 rfl rfl (by first | exact Nat.le_of_ble_eq_true rfl | simp [rf_cat, Value.category]) dX13_errorTerm_4 ?_
  refine m_of hL hc (by omega) ?_
  refine R.iconst (v := nI 1) dX13_errorTerm_7 rfl ?_
  refine R.icmp_ne (tgt := 28) dX13_errorTerm_8 (by decide) (fun c9 => absurd h1 c9) (fun _ => ?_)
  refine R.aload_n dX13_errorTerm_11 rfl (by first | rfl | exact rfv_rf _) ?_
  refine R.iload_n dX13_errorTerm_12 rfl ?_
  refine R.bipush (v := nI 16) dX13_errorTerm_13 (by decide) ?_
  refine R.iconst (v := 0) dX13_errorTerm_15 rfl ?_
  refine cl_X13_72 rfl rfl (by first | exact Nat.le_of_ble_eq_true rfl | simp [rf_cat, Value.category]) dX13_errorTerm_16 ?_
  refine m_puts hL hc (by omega) ?_
  refine R.aload_n dX13_errorTerm_19 rfl (by first | rfl | exact rfv_rf _) ?_
  refine R.iload_n dX13_errorTerm_20 rfl ?_
  refine R.bipush (v := nI 17) dX13_errorTerm_21 (by decide) ?_
  refine cl_X13_68 rfl rfl (by first | exact Nat.le_of_ble_eq_true rfl | simp [rf_cat, Value.category]) dX13_errorTerm_23 ?_
  refine m_of hL hc (by omega) ?_
  refine R.ineg dX13_errorTerm_26 ?_
  refine WP.ret (ov := some (.int _)) dX13_errorTerm_27 ⟨rfl, _, rfl, by first | rfl | assumption | exact nar_b01 (by assumption)⟩ ?_
  exact hq
set_option maxHeartbeats 1000000 in
set_option maxRecDepth 4000 in
theorem m_errN {d : Nat} {w : Nat → Int32} {M : Mem} {Q : Out → Mem → Prop} {c : Nat} (hL : ML M) (hc : c < 16) (h1 : ¬ w (16 + 18 * c + 16) = nI 1) (ha : ¬ 2 * (upW (upW w 3 (nxG (w 3))) (16 + 18 * c + 16) 1) 2 + 1 = 0) (hq : Q (.inl (some (.int ((upW (upW (upW w 3 (nxG (w 3))) (16 + 18 * c + 16) 1) (16 + 18 * c + 17) (fNz ((upW (upW w 3 (nxG (w 3))) (16 + 18 * c + 16) 1) 3) ((upW (upW w 3 (nxG (w 3))) (16 + 18 * c + 16) 1) 2))) (16 + 18 * c + 17))))) (sW M (upW (upW (upW w 3 (nxG (w 3))) (16 + 18 * c + 16) 1) (16 + 18 * c + 17) (fNz ((upW (upW w 3 (nxG (w 3))) (16 + 18 * c + 16) 1) 3) ((upW (upW w 3 (nxG (w 3))) (16 + 18 * c + 16) 1) 2))))) : WPc (d + 1) mX13_errorTerm [.ref (rf 11 0), .int (nI c)] (sW M w) Q := by
  refine WPc.of (by decide +kernel) (Nat.le_of_ble_eq_true rfl) rfl ?_
  refine R.aload_n dX13_errorTerm_0 rfl (by first | rfl | exact rfv_rf _) ?_
  refine R.iload_n dX13_errorTerm_1 rfl ?_
  refine R.bipush (v := nI 16) dX13_errorTerm_2 (by decide) ?_
  refine cl_X13_68 rfl rfl (by first | exact Nat.le_of_ble_eq_true rfl | simp [rf_cat, Value.category]) dX13_errorTerm_4 ?_
  refine m_of hL hc (by omega) ?_
  refine R.iconst (v := nI 1) dX13_errorTerm_7 rfl ?_
  refine R.icmp_ne (tgt := 28) dX13_errorTerm_8 (by decide) (fun _ => ?_) (fun c9 => absurd c9 h1)
  refine R.aload_n dX13_errorTerm_28 rfl (by first | rfl | exact rfv_rf _) ?_
  refine cl_X13_101 rfl rfl (by first | exact Nat.le_of_ble_eq_true rfl | simp [rf_cat, Value.category]) dX13_errorTerm_29 ?_
  refine m_steps hL ?_
  refine R.aload_n dX13_errorTerm_32 rfl (by first | rfl | exact rfv_rf _) ?_
  refine R.iload_n dX13_errorTerm_33 rfl ?_
  refine R.bipush (v := nI 16) dX13_errorTerm_34 (by decide) ?_
  refine R.iconst (v := 1) dX13_errorTerm_36 rfl ?_
  refine cl_X13_72 rfl rfl (by first | exact Nat.le_of_ble_eq_true rfl | simp [rf_cat, Value.category]) dX13_errorTerm_37 ?_
  refine m_puts hL hc (by omega) ?_
  refine R.aload_n dX13_errorTerm_40 rfl (by first | rfl | exact rfv_rf _) ?_
  refine R.iload_n dX13_errorTerm_41 rfl ?_
  refine R.bipush (v := nI 17) dX13_errorTerm_42 (by decide) ?_
  refine R.aload_n dX13_errorTerm_44 rfl (by first | rfl | exact rfv_rf _) ?_
  refine cl_X13_104 rfl rfl (by first | exact Nat.le_of_ble_eq_true rfl | simp [rf_cat, Value.category]) dX13_errorTerm_45 ?_
  refine m_noise hL ha ?_
  refine cl_X13_72 rfl rfl (by first | exact Nat.le_of_ble_eq_true rfl | simp [rf_cat, Value.category]) dX13_errorTerm_48 ?_
  refine m_puts hL hc (by omega) ?_
  refine R.aload_n dX13_errorTerm_51 rfl (by first | rfl | exact rfv_rf _) ?_
  refine R.iload_n dX13_errorTerm_52 rfl ?_
  refine R.bipush (v := nI 17) dX13_errorTerm_53 (by decide) ?_
  refine cl_X13_68 rfl rfl (by first | exact Nat.le_of_ble_eq_true rfl | simp [rf_cat, Value.category]) dX13_errorTerm_55 ?_
  refine m_of hL hc (by omega) ?_
  refine WP.ret (ov := some (.int _)) dX13_errorTerm_58 ⟨rfl, _, rfl, by first | rfl | assumption | exact nar_b01 (by assumption)⟩ ?_
  exact hq
/-- what a reading makes of the array -/
def wgF (w u : Nat → Int32) (c : Nat) (g e : Int32) : Nat → Int32 :=
  let r := g + w 7 / w 4 + e
  let W4 := upW u (16 + 18 * c + 12) (u (16 + 18 * c + 12) + 1)
  let W5 := upW W4 (16 + 18 * c + 13) (W4 (16 + 18 * c + 13) + r)
  let W6 := upW W5 (16 + 18 * c + 15) (W5 (16 + 18 * c + 15) + w 7 / w 4)
  let W7 := upW W6 (16 + 18 * c + 14) r
  let W8 := upW W7 7 (W7 7 + 1)
  upW W8 8 (W8 8 + 1)
set_option maxHeartbeats 1000000 in
set_option maxRecDepth 4000 in
theorem m_wgO {d : Nat} {w : Nat → Int32} {M : Mem} {Q : Out → Mem → Prop} {c m : Nat} {Y : Yd} (hL : ML M) (hT : TW Y m w) (hG : LG Y) (hW : ∀ k, k < 16 → w (16 + 18 * k + 7) + w (16 + 18 * k + 8) = yC Y k 2 + yC Y k 3) (hc : c < 16) (hN : ∀ x, x < 16 → itO (yP Y) 6 (some x) ≠ some c) (ha4 : ¬ w 4 = 0) (h1 : w (16 + 18 * c + 16) = nI 1) (hq : Q (.inl (some (.int (yC Y c 4 + w 7 / w 4 + - (upW w (16 + 18 * c + 16) 0) (16 + 18 * c + 17))))) (sW M (wgF w (upW w (16 + 18 * c + 16) 0) c (yC Y c 4) (- (upW w (16 + 18 * c + 16) 0) (16 + 18 * c + 17))))) : WPc (d + 9) mX13_weighs [.ref (rf 11 0), .int (nI c)] (sW M w) Q := by
  refine WPc.of (by decide +kernel) (Nat.le_of_ble_eq_true rfl) rfl ?_
  refine R.aload_n dX13_weighs_0 rfl (by first | rfl | exact rfv_rf _) ?_
  refine cl_X13_108 rfl rfl (by first | exact Nat.le_of_ble_eq_true rfl | simp [rf_cat, Value.category]) dX13_weighs_1 ?_
  refine m_sag hL ha4 ?_
  refine R.istore_n dX13_weighs_4 (Nat.le_of_ble_eq_true rfl) (by decide) (by first | rfl | simp [lft, rf_cat]) rfl ?_
  refine R.aload_n dX13_weighs_5 rfl (by first | rfl | exact rfv_rf _) ?_
  refine R.iload_n dX13_weighs_6 rfl ?_
  refine cl_X13_82 rfl rfl (by first | exact Nat.le_of_ble_eq_true rfl | simp [rf_cat, Value.category]) dX13_weighs_7 ?_
  refine m_gross (d := d) hL hT hG hW 6 c hc hN ?_
  refine R.iload_n dX13_weighs_10 rfl ?_
  refine R.iadd dX13_weighs_11 ?_
  refine R.aload_n dX13_weighs_12 rfl (by first | rfl | exact rfv_rf _) ?_
  refine R.iload_n dX13_weighs_13 rfl ?_
  refine cl_X13_111 rfl rfl (by first | exact Nat.le_of_ble_eq_true rfl | simp [rf_cat, Value.category]) dX13_weighs_14 ?_
  refine m_errO hL hc h1 ?_
  refine R.iadd dX13_weighs_17 ?_
  refine R.istore_n dX13_weighs_18 (Nat.le_of_ble_eq_true rfl) (by decide) (by first | rfl | simp [lft, rf_cat]) rfl ?_
  refine R.aload_n dX13_weighs_19 rfl (by first | rfl | exact rfv_rf _) ?_
  refine R.iload_n dX13_weighs_20 rfl ?_
  refine R.bipush (v := nI 12) dX13_weighs_21 (by decide) ?_
  refine R.iconst (v := 1) dX13_weighs_23 rfl ?_
  refine cl_X13_114 rfl rfl (by first | exact Nat.le_of_ble_eq_true rfl | simp [rf_cat, Value.category]) dX13_weighs_24 ?_
  refine m_grows hL hc (by omega) ?_
  refine R.aload_n dX13_weighs_27 rfl (by first | rfl | exact rfv_rf _) ?_
  refine R.iload_n dX13_weighs_28 rfl ?_
  refine R.bipush (v := nI 13) dX13_weighs_29 (by decide) ?_
  refine R.iload_n dX13_weighs_31 rfl ?_
  refine cl_X13_114 rfl rfl (by first | exact Nat.le_of_ble_eq_true rfl | simp [rf_cat, Value.category]) dX13_weighs_32 ?_
  refine m_grows hL hc (by omega) ?_
  refine R.aload_n dX13_weighs_35 rfl (by first | rfl | exact rfv_rf _) ?_
  refine R.iload_n dX13_weighs_36 rfl ?_
  refine R.bipush (v := nI 15) dX13_weighs_37 (by decide) ?_
  refine R.iload_n dX13_weighs_39 rfl ?_
  refine cl_X13_114 rfl rfl (by first | exact Nat.le_of_ble_eq_true rfl | simp [rf_cat, Value.category]) dX13_weighs_40 ?_
  refine m_grows hL hc (by omega) ?_
  refine R.aload_n dX13_weighs_43 rfl (by first | rfl | exact rfv_rf _) ?_
  refine R.iload_n dX13_weighs_44 rfl ?_
  refine R.bipush (v := nI 14) dX13_weighs_45 (by decide) ?_
  refine R.iload_n dX13_weighs_47 rfl ?_
  refine cl_X13_72 rfl rfl (by first | exact Nat.le_of_ble_eq_true rfl | simp [rf_cat, Value.category]) dX13_weighs_48 ?_
  refine m_puts hL hc (by omega) ?_
  refine R.aload_n dX13_weighs_51 rfl (by first | rfl | exact rfv_rf _) ?_
  refine R.getS (hL.w) dX13_weighs_52 fl_X13_7 (by decide) rfl ?_
  refine R.bipush (v := nI 7) dX13_weighs_55 (by decide) ?_
  refine R.dup2 dX13_weighs_57 rfl rfl ?_
  refine R.ialdN (k := 7) dX13_weighs_58 (by omega) (by show _ < mN M 14 0; rw [hL.n]; omega) ?_
  rw [mI_sWc]
  refine R.iconst (v := 1) dX13_weighs_59 rfl ?_
  refine R.iadd dX13_weighs_60 ?_
  refine R.iastN (k := 7) dX13_weighs_61 (by omega) (by show _ < mN M 14 0; rw [hL.n]; omega) ?_
  rw [sI_sW]
  refine R.aload_n dX13_weighs_62 rfl (by first | rfl | exact rfv_rf _) ?_
  refine R.getS (hL.w) dX13_weighs_63 fl_X13_7 (by decide) rfl ?_
  refine R.bipush (v := nI 8) dX13_weighs_66 (by decide) ?_
  refine R.dup2 dX13_weighs_68 rfl rfl ?_
  refine R.ialdN (k := 8) dX13_weighs_69 (by omega) (by show _ < mN M 14 0; rw [hL.n]; omega) ?_
  rw [mI_sWc]
  refine R.iconst (v := 1) dX13_weighs_70 rfl ?_
  refine R.iadd dX13_weighs_71 ?_
  refine R.iastN (k := 8) dX13_weighs_72 (by omega) (by show _ < mN M 14 0; rw [hL.n]; omega) ?_
  rw [sI_sW]
  refine R.iload_n dX13_weighs_73 rfl ?_
  refine WP.ret (ov := some (.int _)) dX13_weighs_74 ⟨rfl, _, rfl, by first | rfl | assumption | exact nar_b01 (by assumption)⟩ ?_
  exact hq
set_option maxHeartbeats 1000000 in
set_option maxRecDepth 4000 in
theorem m_wgN {d : Nat} {w : Nat → Int32} {M : Mem} {Q : Out → Mem → Prop} {c m : Nat} {Y : Yd} (hL : ML M) (hT : TW Y m w) (hG : LG Y) (hW : ∀ k, k < 16 → w (16 + 18 * k + 7) + w (16 + 18 * k + 8) = yC Y k 2 + yC Y k 3) (hc : c < 16) (hN : ∀ x, x < 16 → itO (yP Y) 6 (some x) ≠ some c) (ha4 : ¬ w 4 = 0) (h1 : ¬ w (16 + 18 * c + 16) = nI 1) (ha : ¬ 2 * (upW (upW w 3 (nxG (w 3))) (16 + 18 * c + 16) 1) 2 + 1 = 0) (hq : Q (.inl (some (.int (yC Y c 4 + w 7 / w 4 + (upW (upW (upW w 3 (nxG (w 3))) (16 + 18 * c + 16) 1) (16 + 18 * c + 17) (fNz ((upW (upW w 3 (nxG (w 3))) (16 + 18 * c + 16) 1) 3) ((upW (upW w 3 (nxG (w 3))) (16 + 18 * c + 16) 1) 2))) (16 + 18 * c + 17))))) (sW M (wgF w (upW (upW (upW w 3 (nxG (w 3))) (16 + 18 * c + 16) 1) (16 + 18 * c + 17) (fNz ((upW (upW w 3 (nxG (w 3))) (16 + 18 * c + 16) 1) 3) ((upW (upW w 3 (nxG (w 3))) (16 + 18 * c + 16) 1) 2))) c (yC Y c 4) ((upW (upW (upW w 3 (nxG (w 3))) (16 + 18 * c + 16) 1) (16 + 18 * c + 17) (fNz ((upW (upW w 3 (nxG (w 3))) (16 + 18 * c + 16) 1) 3) ((upW (upW w 3 (nxG (w 3))) (16 + 18 * c + 16) 1) 2))) (16 + 18 * c + 17))))) : WPc (d + 9) mX13_weighs [.ref (rf 11 0), .int (nI c)] (sW M w) Q := by
  refine WPc.of (by decide +kernel) (Nat.le_of_ble_eq_true rfl) rfl ?_
  refine R.aload_n dX13_weighs_0 rfl (by first | rfl | exact rfv_rf _) ?_
  refine cl_X13_108 rfl rfl (by first | exact Nat.le_of_ble_eq_true rfl | simp [rf_cat, Value.category]) dX13_weighs_1 ?_
  refine m_sag hL ha4 ?_
  refine R.istore_n dX13_weighs_4 (Nat.le_of_ble_eq_true rfl) (by decide) (by first | rfl | simp [lft, rf_cat]) rfl ?_
  refine R.aload_n dX13_weighs_5 rfl (by first | rfl | exact rfv_rf _) ?_
  refine R.iload_n dX13_weighs_6 rfl ?_
  refine cl_X13_82 rfl rfl (by first | exact Nat.le_of_ble_eq_true rfl | simp [rf_cat, Value.category]) dX13_weighs_7 ?_
  refine m_gross (d := d) hL hT hG hW 6 c hc hN ?_
  refine R.iload_n dX13_weighs_10 rfl ?_
  refine R.iadd dX13_weighs_11 ?_
  refine R.aload_n dX13_weighs_12 rfl (by first | rfl | exact rfv_rf _) ?_
  refine R.iload_n dX13_weighs_13 rfl ?_
  refine cl_X13_111 rfl rfl (by first | exact Nat.le_of_ble_eq_true rfl | simp [rf_cat, Value.category]) dX13_weighs_14 ?_
  refine m_errN hL hc h1 ha ?_
  refine R.iadd dX13_weighs_17 ?_
  refine R.istore_n dX13_weighs_18 (Nat.le_of_ble_eq_true rfl) (by decide) (by first | rfl | simp [lft, rf_cat]) rfl ?_
  refine R.aload_n dX13_weighs_19 rfl (by first | rfl | exact rfv_rf _) ?_
  refine R.iload_n dX13_weighs_20 rfl ?_
  refine R.bipush (v := nI 12) dX13_weighs_21 (by decide) ?_
  refine R.iconst (v := 1) dX13_weighs_23 rfl ?_
  refine cl_X13_114 rfl rfl (by first | exact Nat.le_of_ble_eq_true rfl | simp [rf_cat, Value.category]) dX13_weighs_24 ?_
  refine m_grows hL hc (by omega) ?_
  refine R.aload_n dX13_weighs_27 rfl (by first | rfl | exact rfv_rf _) ?_
  refine R.iload_n dX13_weighs_28 rfl ?_
  refine R.bipush (v := nI 13) dX13_weighs_29 (by decide) ?_
  refine R.iload_n dX13_weighs_31 rfl ?_
  refine cl_X13_114 rfl rfl (by first | exact Nat.le_of_ble_eq_true rfl | simp [rf_cat, Value.category]) dX13_weighs_32 ?_
  refine m_grows hL hc (by omega) ?_
  refine R.aload_n dX13_weighs_35 rfl (by first | rfl | exact rfv_rf _) ?_
  refine R.iload_n dX13_weighs_36 rfl ?_
  refine R.bipush (v := nI 15) dX13_weighs_37 (by decide) ?_
  refine R.iload_n dX13_weighs_39 rfl ?_
  refine cl_X13_114 rfl rfl (by first | exact Nat.le_of_ble_eq_true rfl | simp [rf_cat, Value.category]) dX13_weighs_40 ?_
  refine m_grows hL hc (by omega) ?_
  refine R.aload_n dX13_weighs_43 rfl (by first | rfl | exact rfv_rf _) ?_
  refine R.iload_n dX13_weighs_44 rfl ?_
  refine R.bipush (v := nI 14) dX13_weighs_45 (by decide) ?_
  refine R.iload_n dX13_weighs_47 rfl ?_
  refine cl_X13_72 rfl rfl (by first | exact Nat.le_of_ble_eq_true rfl | simp [rf_cat, Value.category]) dX13_weighs_48 ?_
  refine m_puts hL hc (by omega) ?_
  refine R.aload_n dX13_weighs_51 rfl (by first | rfl | exact rfv_rf _) ?_
  refine R.getS (hL.w) dX13_weighs_52 fl_X13_7 (by decide) rfl ?_
  refine R.bipush (v := nI 7) dX13_weighs_55 (by decide) ?_
  refine R.dup2 dX13_weighs_57 rfl rfl ?_
  refine R.ialdN (k := 7) dX13_weighs_58 (by omega) (by show _ < mN M 14 0; rw [hL.n]; omega) ?_
  rw [mI_sWc]
  refine R.iconst (v := 1) dX13_weighs_59 rfl ?_
  refine R.iadd dX13_weighs_60 ?_
  refine R.iastN (k := 7) dX13_weighs_61 (by omega) (by show _ < mN M 14 0; rw [hL.n]; omega) ?_
  rw [sI_sW]
  refine R.aload_n dX13_weighs_62 rfl (by first | rfl | exact rfv_rf _) ?_
  refine R.getS (hL.w) dX13_weighs_63 fl_X13_7 (by decide) rfl ?_
  refine R.bipush (v := nI 8) dX13_weighs_66 (by decide) ?_
  refine R.dup2 dX13_weighs_68 rfl rfl ?_
  refine R.ialdN (k := 8) dX13_weighs_69 (by omega) (by show _ < mN M 14 0; rw [hL.n]; omega) ?_
  rw [mI_sWc]
  refine R.iconst (v := 1) dX13_weighs_70 rfl ?_
  refine R.iadd dX13_weighs_71 ?_
  refine R.iastN (k := 8) dX13_weighs_72 (by omega) (by show _ < mN M 14 0; rw [hL.n]; omega) ?_
  rw [sI_sW]
  refine R.iload_n dX13_weighs_73 rfl ?_
  refine WP.ret (ov := some (.int _)) dX13_weighs_74 ⟨rfl, _, rfl, by first | rfl | assumption | exact nar_b01 (by assumption)⟩ ?_
  exact hq
theorem f_sag {Y : Yd} (h : ¬ yS Y 2 < 1) : fSag (yS Y 2) (yS Y 3) = yS Y 3 / yS Y 2 := if_neg h
theorem tk_N {Y : Yd} {c : Nat} (h : rem (yC Y c 8) 2 = 0) : tkY Y c = rdYF (uC (uS (uT Y 0 (yT Y 0 + 1)) 0 (nxG (yS Y 0))) c 12 (fNz (nxG (yS Y 0)) (yS Y 1))) c (fNz (nxG (yS Y 0)) (yS Y 1)) := if_pos h
theorem tk_O {Y : Yd} {c : Nat} (h : ¬ rem (yC Y c 8) 2 = 0) : tkY Y c = rdYF (uT Y 0 (yT Y 0 + 1)) c (- yC Y c 12) := if_neg h
theorem rf_C (X : Yd) (c : Nat) (e : Int32) (i f : Nat) : yC (rdYF X c e).2 i f = if i = c ∧ f = 11 then yC X c 4 + fSag (yS X 2) (yS X 3) + e else if i = c ∧ f = 8 then yC X c 8 + 1 else yC X i f := rfl
theorem rf_L (X : Yd) (c : Nat) (e : Int32) (i f : Nat) : yL (rdYF X c e).2 i f = if i = c ∧ f = 10 then yL X c 10 + (fSag (yS X 2) (yS X 3)).toInt64 else if i = c ∧ f = 9 then yL X c 9 + (yC X c 4 + fSag (yS X 2) (yS X 3) + e).toInt64 else yL X i f := rfl
theorem rf_S (X : Yd) (c : Nat) (e : Int32) (f : Nat) : yS (rdYF X c e).2 f = if f = 3 then yS X 3 + 1 else yS X f := rfl
theorem par_s {r : Nat} (hr : r < 2 ^ 31 - 1) : rem (nI r + 1) 2 = if r % 2 = 0 then nI 1 else nI 0 := by
  rw [nI_s1, rem2 (by omega)]
  split
  · rw [show (r + 1) % 2 = 1 by omega]
  · rw [show (r + 1) % 2 = 0 by omega]
set_option maxHeartbeats 1000000 in
theorem rw_wgN {Y : Yd} {m b K c : Nat} {w : Nat → Int32} (h : RW Y m b K w) (hc : c < 16) {r : Nat} (hr : yC Y c 8 = nI r) (hr2 : r < 2 ^ 31 - 1) (h2 : r % 2 = 0) (hag : ¬ yS Y 2 < 1) : RW (tkY Y c).2 m b K (wgF w (upW (upW (upW w 3 (nxG (w 3))) (16 + 18 * c + 16) 1) (16 + 18 * c + 17) (fNz ((upW (upW w 3 (nxG (w 3))) (16 + 18 * c + 16) 1) 3) ((upW (upW w 3 (nxG (w 3))) (16 + 18 * c + 16) 1) 2))) c (yC Y c 4) ((upW (upW (upW w 3 (nxG (w 3))) (16 + 18 * c + 16) 1) (16 + 18 * c + 17) (fNz ((upW (upW w 3 (nxG (w 3))) (16 + 18 * c + 16) 1) 3) ((upW (upW w 3 (nxG (w 3))) (16 + 18 * c + 16) 1) 2))) (16 + 18 * c + 17))) ∧ yC Y c 4 + w 7 / w 4 + (upW (upW (upW w 3 (nxG (w 3))) (16 + 18 * c + 16) 1) (16 + 18 * c + 17) (fNz ((upW (upW w 3 (nxG (w 3))) (16 + 18 * c + 16) 1) 3) ((upW (upW w 3 (nxG (w 3))) (16 + 18 * c + 16) 1) 2))) (16 + 18 * c + 17) = (tkY Y c).1 := by
  have hz : rem (yC Y c 8) 2 = 0 := by rw [hr, rem2 (by omega), h2]; rfl
  rw [tk_N hz]
  obtain ⟨q1, q2, q3, q4, q5, q6, q7, q8, q9, -⟩ := h.h
  obtain ⟨d1, d2, d3, d4, d5, d6⟩ := h.d hc
  have ee : (upW (upW (upW w 3 (nxG (w 3))) (16 + 18 * c + 16) 1) (16 + 18 * c + 17) (fNz ((upW (upW w 3 (nxG (w 3))) (16 + 18 * c + 16) 1) 3) ((upW (upW w 3 (nxG (w 3))) (16 + 18 * c + 16) 1) 2))) (16 + 18 * c + 17) = fNz (nxG (yS Y 0)) (yS Y 1) := by
    simp (disch := omega) only [upW_n, upW_s]
    rw [q3, q2]
  have es : w 7 / w 4 = fSag (yS Y 2) (yS Y 3) := by rw [f_sag hag, q7, q4]
  have e4 : yC (uC (uS (uT Y 0 (yT Y 0 + 1)) 0 (nxG (yS Y 0))) c 12 (fNz (nxG (yS Y 0)) (yS Y 1))) c 4 = yC Y c 4 := if_neg (by omega)
  refine ⟨?_, by rw [ee, es, ← e4]; rfl⟩
  rw [ee]
  refine h.rd (c := c) (fun x hx => ?_) hc ?_ ?_ ?_ ?_ ⟨?_, ?_, ?_, ?_, ?_, ?_⟩ (fun i f hf => ?_) (fun i f hi => ?_) rfl rfl ⟨rfl, rfl⟩ (fun f hf => ?_) rfl
  · unfold wgF; simp (disch := omega) only [upW_n, upW_s]
  · unfold wgF; simp (disch := omega) only [upW_n, upW_s]; rw [q3]; rfl
  · unfold wgF; simp (disch := omega) only [upW_n, upW_s]; rw [q7]; rfl
  · unfold wgF; simp (disch := omega) only [upW_n, upW_s]; rw [q8]; rfl
  · unfold wgF; simp (disch := omega) only [upW_n, upW_s]; rw [q9]; rfl
  · unfold wgF; simp (disch := omega) only [upW_n, upW_s]; rw [d1, rf_C, if_neg (by omega), if_pos ⟨rfl, rfl⟩]; show _ = (if c = c ∧ 8 = 12 then _ else yC Y c 8) + 1; rw [if_neg (by omega)]
  · unfold wgF; simp (disch := omega) only [upW_n, upW_s]; rw [d2, rf_L, if_neg (by omega), if_pos ⟨rfl, rfl⟩, t32a, t32b, es, e4]; rfl
  · unfold wgF; simp (disch := omega) only [upW_n, upW_s]; rw [rf_C, if_pos ⟨rfl, rfl⟩, es, e4]; rfl
  · unfold wgF; simp (disch := omega) only [upW_n, upW_s]; rw [d4, rf_L, if_pos ⟨rfl, rfl⟩, t32a, t32b, es]; rfl
  · unfold wgF; simp (disch := omega) only [upW_n, upW_s]; rw [rf_C, if_neg (by omega), if_pos ⟨rfl, rfl⟩]; show _ = rem ((if c = c ∧ 8 = 12 then _ else yC Y c 8) + 1) 2; rw [if_neg (by omega), hr, par_s hr2, if_pos h2]; rfl
  · unfold wgF; simp (disch := omega) only [upW_n, upW_s]; rw [rf_C, if_neg (by omega), if_neg (by omega), q3, q2]; show _ = (if c = c ∧ 12 = 12 then _ else yC Y c 12); rw [if_pos ⟨rfl, rfl⟩]
  · rw [rf_C, if_neg (by omega), if_neg (by omega)]; show (if i = c ∧ f = 12 then _ else yC Y i f) = _; rw [if_neg (by omega)]
  · rw [rf_L, if_neg (by omega), if_neg (by omega)]; rfl
  · show (if f = 0 then _ else yT Y f) = _; rw [if_neg (by omega)]
set_option maxHeartbeats 1000000 in
theorem rw_wgO {Y : Yd} {m b K c : Nat} {w : Nat → Int32} (h : RW Y m b K w) (hc : c < 16) {r : Nat} (hr : yC Y c 8 = nI r) (hr2 : r < 2 ^ 31 - 1) (h2 : ¬ r % 2 = 0) (hag : ¬ yS Y 2 < 1) : RW (tkY Y c).2 m b K (wgF w (upW w (16 + 18 * c + 16) 0) c (yC Y c 4) (- (upW w (16 + 18 * c + 16) 0) (16 + 18 * c + 17))) ∧ yC Y c 4 + w 7 / w 4 + - (upW w (16 + 18 * c + 16) 0) (16 + 18 * c + 17) = (tkY Y c).1 := by
  have hz : ¬ rem (yC Y c 8) 2 = 0 := by
    rw [hr, rem2 (by omega)]
    intro q
    have q2 := (nI_inj (b := 0) (by omega) (by decide)).mp q
    exact h2 q2
  rw [tk_O hz]
  obtain ⟨q1, q2, q3, q4, q5, q6, q7, q8, q9, -⟩ := h.h
  obtain ⟨d1, d2, d3, d4, d5, d6⟩ := h.d hc
  have ee : - (upW w (16 + 18 * c + 16) 0) (16 + 18 * c + 17) = - yC Y c 12 := by
    simp (disch := omega) only [upW_n, upW_s]
    rw [d6]
  have es : w 7 / w 4 = fSag (yS Y 2) (yS Y 3) := by rw [f_sag hag, q7, q4]
  refine ⟨?_, by rw [ee, es]; rfl⟩
  rw [ee]
  refine h.rd (c := c) (fun x hx => ?_) hc ?_ ?_ ?_ ?_ ⟨?_, ?_, ?_, ?_, ?_, ?_⟩ (fun i f hf => ?_) (fun i f hi => ?_) rfl rfl ⟨rfl, rfl⟩ (fun f hf => ?_) rfl
  · unfold wgF; simp (disch := omega) only [upW_n, upW_s]
  · unfold wgF; simp (disch := omega) only [upW_n, upW_s]; rw [q3]; rfl
  · unfold wgF; simp (disch := omega) only [upW_n, upW_s]; rw [q7]; rfl
  · unfold wgF; simp (disch := omega) only [upW_n, upW_s]; rw [q8]; rfl
  · unfold wgF; simp (disch := omega) only [upW_n, upW_s]; rw [q9]; rfl
  · unfold wgF; simp (disch := omega) only [upW_n, upW_s]; rw [d1, rf_C, if_neg (by omega), if_pos ⟨rfl, rfl⟩]; rfl
  · unfold wgF; simp (disch := omega) only [upW_n, upW_s]; rw [d2, rf_L, if_neg (by omega), if_pos ⟨rfl, rfl⟩, t32a, t32b, es]; rfl
  · unfold wgF; simp (disch := omega) only [upW_n, upW_s]; rw [rf_C, if_pos ⟨rfl, rfl⟩, es]; rfl
  · unfold wgF; simp (disch := omega) only [upW_n, upW_s]; rw [d4, rf_L, if_pos ⟨rfl, rfl⟩, t32a, t32b, es]; rfl
  · unfold wgF; simp (disch := omega) only [upW_n, upW_s]; rw [rf_C, if_neg (by omega), if_pos ⟨rfl, rfl⟩]; show _ = rem (yC Y c 8 + 1) 2; rw [hr, par_s hr2, if_neg h2]; rfl
  · unfold wgF; simp (disch := omega) only [upW_n, upW_s]; rw [rf_C, if_neg (by omega), if_neg (by omega), d6]; rfl
  · rw [rf_C, if_neg (by omega), if_neg (by omega)]; rfl
  · rw [rf_L, if_neg (by omega), if_neg (by omega)]; rfl
  · show (if f = 0 then _ else yT Y f) = _; rw [if_neg (by omega)]
/-- what a reading wants of a yard -/
def WgO (Y : Yd) (c : Nat) : Prop := LG Y ∧ Acy Y ∧ (∃ r, yC Y c 8 = nI r ∧ r < 2 ^ 31 - 1) ∧ ¬ yS Y 2 < 1 ∧ ¬ 2 * yS Y 1 + 1 = 0
theorem m_weighs {d c b K m : Nat} {Y : Yd} {w : Nat → Int32} {M : Mem} {Q : Out → Mem → Prop} (hL : ML M) (h : RW Y m b K w) (hc : c < 16) (hO : WgO Y c) (hq : ∀ w', RW (tkY Y c).2 m b K w' → Q (.inl (some (.int (tkY Y c).1))) (sW M w')) : WPc (d + 9) mX13_weighs [.ref (rf 11 0), .int (nI c)] (sW M w) Q := by
  obtain ⟨hG, hA, ⟨r, hr, hr2⟩, hag, ham⟩ := hO
  obtain ⟨q1, q2, q3, q4, q5, q6, q7, q8, q9, -⟩ := h.h
  have hW : ∀ k, k < 16 → w (16 + 18 * k + 7) + w (16 + 18 * k + 8) = yC Y k 2 + yC Y k 3 := fun k hk => by rw [(h.g hk).1, (h.g hk).2.1]
  have h4 : ¬ w 4 = 0 := fun q => hag (by rw [← q4, q]; decide)
  have d5 := (h.d hc).2.2.2.2.1
  by_cases z : r % 2 = 0
  · have h1 : ¬ w (16 + 18 * c + 16) = nI 1 := by
      rw [d5, hr, rem2 (by omega), z]; decide
    have e := rw_wgN h hc hr hr2 z hag
    refine m_wgN hL h.t hG hW hc ?_ h4 h1 ?_ ?_
    · intro x hx q
      rw [it_6 hA hx] at q; cases q
    · rw [upW_n _ _ (by omega), upW_n _ _ (by omega), q2]; exact ham
    · rw [e.2]; exact hq _ e.1
  · have h1 : w (16 + 18 * c + 16) = nI 1 := by
      rw [d5, hr, rem2 (by omega), show r % 2 = 1 by omega]
    have e := rw_wgO h hc hr hr2 z hag
    refine m_wgO hL h.t hG hW hc ?_ h4 h1 ?_
    · intro x hx q
      rw [it_6 hA hx] at q; cases q
    · rw [e.2]; exact hq _ e.1
