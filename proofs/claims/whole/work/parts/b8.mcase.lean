/-! a command of the law (pattern) -/
theorem aC_E {S : KS} {x : Int32} {f : Nat → Int32} {E : String} (h : aC S x (fun i => .inl (f i)) = .inr E) : E = eI := by
  unfold aC at h
  split at h
  · cases h; rfl
  · cases h
theorem mLsL9 (M : Mem) (v : Int64) : mL (sL M 15 0 0 v) 15 0 0 = v := by
  show (if (15 : Nat) = 15 ∧ (0 : Nat) = 0 ∧ (0 : Nat) = 0 then v else M.2.1 15 0 0) = v
  exact if_pos ⟨rfl, rfl, rfl⟩
theorem LW.l27 {M0 M : Mem} {S : KS} {p T n : Nat} (h : LW M0 M S p T n) : mN M 27 0 = mN M0 27 0 := h.2.2.2.1.1
theorem LW.x27 {M0 M : Mem} {S : KS} {p T n : Nat} (h : LW M0 M S p T n) : mI M 27 0 = mI M0 27 0 := h.2.2.2.1.2
def KLW (d : Nat) (M0 : Mem) (n : Nat) (Q : Out → Mem → Prop) : Prop := ∀ M' S' p' T' u6 u7 u8 u9, LW M0 M' S' p' T' (n + 1) → WP mL_law (d + 22) 3039 [.ref (rf 27 0), .ref (rf 10 0), .ref (rf 11 0), .ref (rf 15 0), .ref (rf 16 0), .int (nI (6 * n)), u6, u7, u8, u9] [] M' Q
theorem lcmp_rf (x : Int64) : lg_cmp x x = 0 := by simp [lg_cmp]
set_option maxHeartbeats 2000000 in
set_option maxRecDepth 8000 in
theorem lw_tareOf {d n p T : Nat} {M0 M : Mem} {S : KS} {u6 u7 u8 u9 : Value} {Q : Out → Mem → Prop} (h : LW M0 M S p T n) (hn : n < 512) (hlen : 6 * n + 6 ≤ mN M0 27 0) (k : KLW d M0 n Q) : WP mL_law (d + 22) 624 [.ref (rf 27 0), .ref (rf 10 0), .ref (rf 11 0), .ref (rf 15 0), .ref (rf 16 0), .int (nI (6 * n)), u6, u7, u8, u9] [] M Q := by
  obtain ⟨x, hx⟩ : ∃ x, x = mI M0 27 0 (6 * n + 1) := ⟨_, rfl⟩
  have hxc : WPc (d + 20) mX12_tareOf [.ref (rf 10 0), .int x] M (OU9 M (anR S p (aC S x fun i => .inl (yC (kY S) i 2)))) := c_tareOf h.c (QA.ou h.c)
  have hE : ∀ E, anR S p (aC S x fun i => .inl (yC (kY S) i 2)) = .inl E → E = eI := fun E e => by
    cases ea : aC S x (fun i => .inl (yC (kY S) i 2)) with
    | inl v => rw [ea] at e; cases e
    | inr E9 => rw [ea] at e; cases e; exact aC_E ea
  cases ea : aC S x (fun i => .inl (yC (kY S) i 2)) with
  | inl v =>
    refine R.aload_n dL_law_624 rfl (by first | rfl | exact rfv_rf _) ?_
    refine R.aload_n dL_law_625 rfl (by first | rfl | exact rfv_rf _) ?_
    refine R.iload dL_law_626 rfl ?_
    refine R.iconst (v := nI 1) dL_law_628 rfl ?_
    refine R.iadd dL_law_629 ?_
    rw [nI_add9]
    refine R.scrIald dL_law_630 (nI_pos (by omega)) (by rw [nI_clamp (by omega)]; show _ < mN _ 27 0; rw [h.l27]; omega) ?_
    rw [h.x27, nI_clamp (by omega), ← hx]
    refine R.aload_n dL_law_631 rfl (by first | rfl | exact rfv_rf _) ?_
    refine cl_L_185 rfl rfl (by first | exact Nat.le_of_ble_eq_true rfl | simp [rf_cat, Value.category]) dL_law_632 ?_
    refine h_tareOf hxc h.n15 hE ?_
    rw [ea]
    intro M1 c1 F hm
    have hN1 : mN M1 15 0 = 1 := by rw [(F.1 15 0 (Or.inr (Or.inr (Or.inl rfl)))).2.2.2.2]; exact h.n15
    have m1 := (h.m.frK F).f9 (Fr9_L M1 v.toInt64)
    refine R.istore dL_law_635 (Nat.le_of_ble_eq_true rfl) (by decide) (by first | rfl | simp [lft, rf_cat]) rfl ?_
    refine R.aload_n dL_law_637 rfl (by first | rfl | exact rfv_rf _) ?_
    refine R.aload_n dL_law_638 rfl (by first | rfl | exact rfv_rf _) ?_
    refine R.iload dL_law_639 rfl ?_
    refine R.iconst (v := nI 1) dL_law_641 rfl ?_
    refine R.iadd dL_law_642 ?_
    rw [nI_add9]
    refine R.scrIald dL_law_643 (nI_pos (by omega)) (by rw [nI_clamp (by omega)]; show _ < mN _ 27 0; rw [show mN (sL M1 15 0 0 v.toInt64) 27 0 = mN M0 27 0 from hm.2.2.2.1.trans h.l27]; omega) ?_
    rw [show mI (sL M1 15 0 0 v.toInt64) 27 0 = mI M0 27 0 from hm.2.2.2.2.trans h.x27, nI_clamp (by omega), ← hx]
    refine cl_L_188 rfl rfl (by first | exact Nat.le_of_ble_eq_true rfl | simp [rf_cat, Value.category]) dL_law_644 ?_
    refine n_tareOf m1 (by have := h.t hn; omega) ?_
    rw [ea]
    intro M2 m2 t2 F2
    refine R.istore dL_law_647 (Nat.le_of_ble_eq_true rfl) (by decide) (by first | rfl | simp [lft, rf_cat]) rfl ?_
    refine R.aload_n dL_law_649 rfl (by first | rfl | exact rfv_rf _) ?_
    refine cl_L_179 rfl rfl (by first | exact Nat.le_of_ble_eq_true rfl | simp [rf_cat, Value.category]) dL_law_650 ?_
    refine n_thrown ?_
    rw [t2]
    refine R.iload dL_law_653 rfl ?_
    refine R.icmp_eq (tgt := 660) dL_law_655 (by decide) (fun _ => ?_) (fun c9 => absurd (rfl) c9)
    refine R.iload dL_law_660 rfl ?_
    refine R.if_ne (tgt := 677) dL_law_662 (by decide) (fun c9 => absurd (rfl) c9) (fun _ => ?_)
    refine R.aload_n dL_law_665 rfl (by first | rfl | exact rfv_rf _) ?_
    refine R.iconst (v := 0) dL_law_666 rfl ?_
    refine R.lald (i := 0) dL_law_667 (by decide) (by rw [F2.2.1]; show _ < mN M1 15 0; rw [hN1]; decide) ?_
    rw [show mL M2 15 0 (Int32.toNatClampNeg 0) = v.toInt64 from (congrFun (F2.2.2.2.2 15 0 (by unfold inM; omega)).2.1 0).trans (mLsL9 _ _)]
    refine R.iload dL_law_668 rfl ?_
    refine R.i2l dL_law_670 ?_
    refine R.lcmp dL_law_671 ?_
    refine R.if_eq (tgt := 677) dL_law_672 (by decide) (fun _ => ?_) (fun c9 => absurd (lcmp_rf _) c9)
    refine R.goto (tgt := 3039) dL_law_677 (by decide) ?_
    exact k M2 S p T _ _ _ _ (h.yes c1 F hm (Fr9_L _ _) m2 F2 (Nat.le_refl _) (by omega) (by omega))
  | inr E =>
    refine R.aload_n dL_law_624 rfl (by first | rfl | exact rfv_rf _) ?_
    refine R.aload_n dL_law_625 rfl (by first | rfl | exact rfv_rf _) ?_
    refine R.iload dL_law_626 rfl ?_
    refine R.iconst (v := nI 1) dL_law_628 rfl ?_
    refine R.iadd dL_law_629 ?_
    rw [nI_add9]
    refine R.scrIald dL_law_630 (nI_pos (by omega)) (by rw [nI_clamp (by omega)]; show _ < mN _ 27 0; rw [h.l27]; omega) ?_
    rw [h.x27, nI_clamp (by omega), ← hx]
    refine R.aload_n dL_law_631 rfl (by first | rfl | exact rfv_rf _) ?_
    refine cl_L_185 rfl rfl (by first | exact Nat.le_of_ble_eq_true rfl | simp [rf_cat, Value.category]) dL_law_632 ?_
    refine h_tareOf hxc h.n15 hE ?_
    rw [ea]
    have e1 := hE E (by rw [ea]; rfl)
    subst e1
    show WP _ _ _ _ _ _ _
    refine R.istore dL_law_635 (Nat.le_of_ble_eq_true rfl) (by decide) (by first | rfl | simp [lft, rf_cat]) rfl ?_
    refine R.aload_n dL_law_637 rfl (by first | rfl | exact rfv_rf _) ?_
    refine R.aload_n dL_law_638 rfl (by first | rfl | exact rfv_rf _) ?_
    refine R.iload dL_law_639 rfl ?_
    refine R.iconst (v := nI 1) dL_law_641 rfl ?_
    refine R.iadd dL_law_642 ?_
    rw [nI_add9]
    refine R.scrIald dL_law_643 (nI_pos (by omega)) (by rw [nI_clamp (by omega)]; show _ < mN _ 27 0; rw [show mN (ax M) 27 0 = mN M0 27 0 from h.l27]; omega) ?_
    rw [show mI (ax M) 27 0 = mI M0 27 0 from h.x27, nI_clamp (by omega), ← hx]
    refine cl_L_188 rfl rfl (by first | exact Nat.le_of_ble_eq_true rfl | simp [rf_cat, Value.category]) dL_law_644 ?_
    refine n_tareOf h.m.ax9 (by have := h.t hn; omega) ?_
    rw [ea]
    intro M2 m2 t2 F2
    refine R.istore dL_law_647 (Nat.le_of_ble_eq_true rfl) (by decide) (by first | rfl | simp [lft, rf_cat]) rfl ?_
    refine R.aload_n dL_law_649 rfl (by first | rfl | exact rfv_rf _) ?_
    refine cl_L_179 rfl rfl (by first | exact Nat.le_of_ble_eq_true rfl | simp [rf_cat, Value.category]) dL_law_650 ?_
    refine n_thrown ?_
    rw [t2]
    refine R.iload dL_law_653 rfl ?_
    refine R.icmp_eq (tgt := 660) dL_law_655 (by decide) (fun _ => ?_) (fun c9 => absurd (rfl) c9)
    refine R.iload dL_law_660 rfl ?_
    refine R.if_ne (tgt := 677) dL_law_662 (by decide) (fun _ => ?_) (fun c9 => absurd c9 (by decide))
    refine R.goto (tgt := 3039) dL_law_677 (by decide) ?_
    exact k M2 S p T _ _ _ _ (h.no m2 F2)
