/-! the model remembers -/
def shK (g : Nat → Int32) (k : Nat) : Nat → Int32 := fun x => if x < k then g (x + 370) else g x
theorem shK_s (g : Nat → Int32) (k : Nat) : upW (shK g k) k (shK g k (k + 370)) = shK g (k + 1) := by
  funext x
  show (if x = k then (if k + 370 < k then g (k + 370 + 370) else g (k + 370)) else if x < k then g (x + 370) else g x) = if x < k + 1 then g (x + 370) else g x
  by_cases z : x = k
  · rw [if_pos z, if_neg (by omega), if_pos (by omega), z]
  · rw [if_neg z]
    by_cases y : x < k
    · rw [if_pos y, if_pos (by omega)]
    · rw [if_neg y, if_neg (by omega)]
set_option maxHeartbeats 1000000 in
set_option maxRecDepth 4000 in
theorem m_shift {d : Nat} {M : Mem} {Q : Out → Mem → Prop} (hL : ML M) (kq : ∀ v', WP mX13_remembers d 40 [.ref (rf 11 0), v'] [] (sA M 4 (shK (mI M 14 4) 2590)) Q) : WP mX13_remembers d 11 [.ref (rf 11 0), .int (nI 0)] [] M Q := by
  have key : ∀ (f k : Nat), k + f = 2590 → WP mX13_remembers d 11 [.ref (rf 11 0), .int (nI k)] [] (sA M 4 (shK (mI M 14 4) k)) Q := by
    intro f
    induction f with
    | zero =>
      intro k hk
      have ek : k = 2590 := by omega
      subst ek
      refine R.iload_n dX13_remembers_11 rfl ?_
      refine R.sipush (v := nI 2590) dX13_remembers_12 (by decide) ?_
      refine R.geT (tgt := 40) (Int32.le_refl _) dX13_remembers_15 (by decide) ?_
      exact kq _
    | succ f ih =>
      intro k hf
      have hk : k < 2590 := by omega
      refine R.iload_n dX13_remembers_11 rfl ?_
      refine R.sipush (v := nI 2590) dX13_remembers_12 (by decide) ?_
      refine R.geF (tgt := 40) (nI_ge (show k < 2590 by omega) (by omega)) dX13_remembers_15 (by decide) ?_
      refine R.aload_n dX13_remembers_18 rfl (by first | rfl | exact rfv_rf _) ?_
      refine R.getS (hL.1.2.2.2.2.1) dX13_remembers_19 fl_X13_22 (by decide) rfl ?_
      refine R.iload_n dX13_remembers_22 rfl ?_
      refine R.aload_n dX13_remembers_23 rfl (by first | rfl | exact rfv_rf _) ?_
      refine R.getS (hL.1.2.2.2.2.1) dX13_remembers_24 fl_X13_22 (by decide) rfl ?_
      refine R.iload_n dX13_remembers_27 rfl ?_
      refine R.sipush (v := nI 370) dX13_remembers_28 (by decide) ?_
      refine R.iadd dX13_remembers_31 ?_
      rw [nI_add9]
      refine R.ialdN (k := k + 370) dX13_remembers_32 (by omega) (by show _ < mN M 14 4; rw [hL.2.2.2.2.2.1]; omega) ?_
      rw [mI_sA]
      refine R.iastN (k := k) dX13_remembers_33 (by omega) (by show _ < mN M 14 4; rw [hL.2.2.2.2.2.1]; omega) ?_
      rw [sI_sA, shK_s]
      refine R.iinc dX13_remembers_34 (Nat.le_of_ble_eq_true rfl) (by decide) (by first | rfl | simp [lft, rf_cat]) rfl (inc_nI _) rfl ?_
      refine R.goto (tgt := 11) dX13_remembers_37 (by decide) ?_
      exact ih (k + 1) (by omega)
  have kk := key 2590 0 rfl
  have e0 : sA M 4 (shK (mI M 14 4) 0) = M := (sA_e (g := shK (mI M 14 4) 0) (g' := mI M 14 4) M (fun x => if_neg (by omega))).trans (sA_id M 4)
  rw [e0] at kk
  exact kk
