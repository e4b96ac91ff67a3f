/-! put aside, and back -/
theorem m_aside {d : Nat} {w : Nat → Int32} {M : Mem} {Q : Out → Mem → Prop} (hL : ML M) (hq : ∀ g : Nat → Int32, (∀ x, x < 370 → g x = w x) → Q (.inl none) (sW (sA M 2 g) w)) : WPc (d + 1) mX13_goesAside [.ref (rf 11 0)] (sW M w) Q := by
  refine WPc.of (by decide +kernel) (Nat.le_of_ble_eq_true rfl) rfl ?_
  refine R.aload_n dX13_goesAside_0 rfl (by first | rfl | exact rfv_rf _) ?_
  refine R.getS (hL.w) dX13_goesAside_1 fl_X13_7 (by decide) rfl ?_
  refine R.iconst (v := nI 0) dX13_goesAside_4 rfl ?_
  refine R.aload_n dX13_goesAside_5 rfl (by first | rfl | exact rfv_rf _) ?_
  refine R.getS (hL.1.2.2.1) dX13_goesAside_6 fl_X13_16 (by decide) rfl ?_
  refine R.iconst (v := nI 0) dX13_goesAside_9 rfl ?_
  refine cl_X13_181 rfl rfl (by first | exact Nat.le_of_ble_eq_true rfl | simp [rf_cat, Value.category]) dX13_goesAside_10 ?_
  refine m_copies (u := 0) (v := 2) (a := 0) (i := 0) (by decide) (by show _ ≤ mN M 14 0; rw [hL.n]; omega) (by show _ ≤ mN M 14 2; rw [hL.2.2.2.1]; omega) (by omega) (by omega) ?_
  rw [sA_sW (by omega)]
  refine WP.ret (ov := none) dX13_goesAside_13 ⟨rfl, rfl⟩ ?_
  refine hq _ (fun x hx => ?_)
  show (if 0 ≤ x ∧ x < 0 + 370 then mI (sW M w) 14 0 (0 + (x - 0)) else _) = w x
  rw [if_pos (by omega), mI_sWc, show 0 + (x - 0) = x by omega]
theorem m_back {d : Nat} {w1 g : Nat → Int32} {v : Int32} {M : Mem} {Q : Out → Mem → Prop} (hL : ML M) (hq : ∀ w2 : Nat → Int32, (∀ x, x < 370 → w2 x = g x) → Q (.inl (some (.int v))) (sW (sA M 2 g) w2)) : WPc (d + 1) mX13_goesBack [.ref (rf 11 0), .int v] (sW (sA M 2 g) w1) Q := by
  refine WPc.of (by decide +kernel) (Nat.le_of_ble_eq_true rfl) rfl ?_
  refine R.aload_n dX13_goesBack_0 rfl (by first | rfl | exact rfv_rf _) ?_
  refine R.getS (hL.1.2.2.1) dX13_goesBack_1 fl_X13_16 (by decide) rfl ?_
  refine R.iconst (v := nI 0) dX13_goesBack_4 rfl ?_
  refine R.aload_n dX13_goesBack_5 rfl (by first | rfl | exact rfv_rf _) ?_
  refine R.getS (hL.w) dX13_goesBack_6 fl_X13_7 (by decide) rfl ?_
  refine R.iconst (v := nI 0) dX13_goesBack_9 rfl ?_
  refine cl_X13_181 rfl rfl (by first | exact Nat.le_of_ble_eq_true rfl | simp [rf_cat, Value.category]) dX13_goesBack_10 ?_
  refine m_copies (u := 2) (v := 0) (a := 0) (i := 0) (by decide) (by show _ ≤ mN M 14 2; rw [hL.2.2.2.1]; omega) (by show _ ≤ mN M 14 0; rw [hL.n]; omega) (by omega) (by omega) ?_
  rw [sA_W, sW_sW]
  refine R.iload_n dX13_goesBack_13 rfl ?_
  refine WP.ret (ov := some (.int _)) dX13_goesBack_14 ⟨rfl, _, rfl, by first | rfl | assumption | exact nar_b01 (by assumption)⟩ ?_
  refine hq _ (fun x hx => ?_)
  show (if 0 ≤ x ∧ x < 0 + 370 then mI (sW (sA M 2 g) w1) 14 2 (0 + (x - 0)) else _) = g x
  rw [if_pos (by omega), mI_sWn _ _ (by omega), mI_sA, show 0 + (x - 0) = x by omega]
