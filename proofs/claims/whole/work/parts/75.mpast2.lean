set_option maxHeartbeats 1000000 in
set_option maxRecDepth 4000 in
theorem m_rem50 {d : Nat} {v : Value} {M : Mem} {H : List Yd} {Q : Out → Mem → Prop} (hL : ML M) (hP : mI M 11 0 5 = nI H.length ∧ H.length ≤ 7) (hq : Q (.inl none) (sI (sA M 4 (cpK (mI M 14 4) (mI M 14 0) 0 (370 * H.length) 370)) 11 0 5 (nI (H.length + 1)))) : WP mX13_remembers (d + 1) 50 [.ref (rf 11 0), v] [] M Q := by
  have h7 := hP.2
  refine R.aload_n dX13_remembers_50 rfl (by first | rfl | exact rfv_rf _) ?_
  refine R.getS (hL.w) dX13_remembers_51 fl_X13_7 (by decide) rfl ?_
  refine R.iconst (v := nI 0) dX13_remembers_54 rfl ?_
  refine R.aload_n dX13_remembers_55 rfl (by first | rfl | exact rfv_rf _) ?_
  refine R.getS (hL.1.2.2.2.2.1) dX13_remembers_56 fl_X13_22 (by decide) rfl ?_
  refine R.sipush (v := nI 370) dX13_remembers_59 (by decide) ?_
  refine R.aload_n dX13_remembers_62 rfl (by first | rfl | exact rfv_rf _) ?_
  refine R.getI dX13_remembers_63 fl_X13_178 (by decide) rfl ?_
  rw [hP.1]
  refine R.imul dX13_remembers_66 ?_
  rw [show nI 370 * nI H.length = nI (370 * H.length) from (Int32.ofNat_mul 370 H.length).symm]
  refine cl_X13_181 rfl rfl (by first | exact Nat.le_of_ble_eq_true rfl | simp [rf_cat, Value.category]) dX13_remembers_67 ?_
  refine m_copies (u := 0) (v := 4) (a := 0) (i := 370 * H.length) (by decide) (by rw [hL.n]; omega) (by rw [hL.2.2.2.2.2.1]; omega) (by omega) (by omega) ?_
  refine R.aload_n dX13_remembers_70 rfl (by first | rfl | exact rfv_rf _) ?_
  refine R.dup dX13_remembers_71 (by first | rfl | exact rf_cat _) ?_
  refine R.getI dX13_remembers_72 fl_X13_178 (by decide) rfl ?_
  rw [mI_sAn _ _ _ (by omega), hP.1]
  refine R.iconst (v := 1) dX13_remembers_75 rfl ?_
  refine R.iadd dX13_remembers_76 ?_
  refine R.putI dX13_remembers_77 fl_X13_178 (fun q hq => by cases hq; exact Or.inl rfl) (by decide) rfl rfl rfl ?_
  refine WP.ret (ov := none) dX13_remembers_80 ⟨rfl, rfl⟩ ?_
  rw [nI_s1]
  exact hq
