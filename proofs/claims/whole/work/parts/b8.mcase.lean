/-! a command of the law (pattern) -/
theorem aC_E {S : KS} {x : Int32} {f : Nat → Int32} {E : String} (h : aC S x (fun i => .inl (f i)) = .inr E) : E = eI := by
  unfold aC at h
  split at h
  · cases h; rfl
  · cases h
theorem mLsL9 (M : Mem) (v : Int64) : mL (sL M 15 0 0 v) 15 0 0 = v := by
  show (if (15 : Nat) = 15 ∧ (0 : Nat) = 0 ∧ (0 : Nat) = 0 then v else M.2.1 15 0 0) = v
  exact if_pos ⟨rfl, rfl, rfl⟩
theorem lcmp_rf (x : Int64) : lg_cmp x x = 0 := by simp [lg_cmp]
theorem aU_E {S : KS} {x : Int32} {f : Nat → Int32} {E : String} (h : aU S x (fun i => .inl (f i)) = .inr E) : E = eI := by
  unfold aU at h
  split at h
  · cases h; rfl
  · cases h
theorem LW.l27 {M0 M : Mem} {S : KS} {p T n : Nat} (h : LW M0 M S p T n) : mN M 27 0 = mN M0 27 0 := h.2.2.2.1.1
theorem LW.x27 {M0 M : Mem} {S : KS} {p T n : Nat} (h : LW M0 M S p T n) : mI M 27 0 = mI M0 27 0 := h.2.2.2.1.2
def KLW (d : Nat) (M0 : Mem) (n : Nat) (Q : Out → Mem → Prop) : Prop := ∀ M' S' p' T' u6 u7 u8 u9, LW M0 M' S' p' T' (n + 1) → WP mL_law (d + 22) 3039 [.ref (rf 27 0), .ref (rf 10 0), .ref (rf 11 0), .ref (rf 15 0), .ref (rf 16 0), .int (nI (6 * n)), u6, u7, u8, u9] [] M' Q
set_option maxHeartbeats 2000000 in
set_option maxRecDepth 8000 in
theorem lw_tareOf {d n p T : Nat} {M0 M : Mem} {S : KS} {u6 u7 u8 u9 : Value} {Q : Out → Mem → Prop} (h : LW M0 M S p T n) (hn : n < 512) (hlen : 6 * n + 6 ≤ mN M0 27 0) (k : KLW d M0 n Q) : WP mL_law (d + 22) 624 [.ref (rf 27 0), .ref (rf 10 0), .ref (rf 11 0), .ref (rf 15 0), .ref (rf 16 0), .int (nI (6 * n)), u6, u7, u8, u9] [] M Q := by
  obtain ⟨x, hx⟩ : ∃ x, x = mI M0 27 0 (6 * n + 1) := ⟨_, rfl⟩
  have hxc : WPc (d + 20) mX12_tareOf [.ref (rf 10 0), .int x] M (OU9 M (anR S p (aC S x fun i => .inl (yC (kY S) i 2)))) := c_tareOf h.c (QA.ou h.c)
  have hE : ∀ E, anR S p (aC S x fun i => .inl (yC (kY S) i 2)) = .inl E → E = eI := fun E e => by
    cases ea : aC S x (fun i => .inl (yC (kY S) i 2)) with
    | inl v => rw [ea] at e; cases e
    | inr E9 => rw [ea] at e; cases e; exact aC_E ea
  cases ea : aC S x (fun i => .inl (yC (kY S) i 2)) with
  | inl v =>
    refine R.aload_n dL_law_624 rfl (by first | rfl | exact rfv_rf _) ?_
    refine R.aload_n dL_law_625 rfl (by first | rfl | exact rfv_rf _) ?_
    refine R.iload dL_law_626 rfl ?_
    refine R.iconst (v := nI 1) dL_law_628 rfl ?_
    refine R.iadd dL_law_629 ?_
    rw [nI_add9]
    refine R.scrIald dL_law_630 (nI_pos (by omega)) (by rw [nI_clamp (by omega)]; show _ < mN _ 27 0; rw [h.l27]; omega) ?_
    rw [h.x27, nI_clamp (by omega), ← hx]
    refine R.aload_n dL_law_631 rfl (by first | rfl | exact rfv_rf _) ?_
    refine cl_L_185 rfl rfl (by first | exact Nat.le_of_ble_eq_true rfl | simp [rf_cat, Value.category]) dL_law_632 ?_
    refine h_tareOf hxc h.n15 hE ?_
    rw [ea]
    intro M1 c1 F hm
    have hN1 : mN M1 15 0 = 1 := by rw [(F.1 15 0 (Or.inr (Or.inr (Or.inl rfl)))).2.2.2.2]; exact h.n15
    have m1 := (h.m.frK F).f9 (Fr9_L M1 v.toInt64)
    refine R.istore dL_law_635 (Nat.le_of_ble_eq_true rfl) (by decide) (by first | rfl | simp [lft, rf_cat]) rfl ?_
    refine R.aload_n dL_law_637 rfl (by first | rfl | exact rfv_rf _) ?_
    refine R.aload_n dL_law_638 rfl (by first | rfl | exact rfv_rf _) ?_
    refine R.iload dL_law_639 rfl ?_
    refine R.iconst (v := nI 1) dL_law_641 rfl ?_
    refine R.iadd dL_law_642 ?_
    rw [nI_add9]
    refine R.scrIald dL_law_643 (nI_pos (by omega)) (by rw [nI_clamp (by omega)]; show _ < mN _ 27 0; rw [show mN (sL M1 15 0 0 v.toInt64) 27 0 = mN M0 27 0 from hm.2.2.2.1.trans h.l27]; omega) ?_
    rw [show mI (sL M1 15 0 0 v.toInt64) 27 0 = mI M0 27 0 from hm.2.2.2.2.trans h.x27, nI_clamp (by omega), ← hx]
    refine cl_L_188 rfl rfl (by first | exact Nat.le_of_ble_eq_true rfl | simp [rf_cat, Value.category]) dL_law_644 ?_
    refine n_tareOf m1 (by have := h.t hn; omega) ?_
    rw [ea]
    intro M2 m2 t2 F2
    refine R.istore dL_law_647 (Nat.le_of_ble_eq_true rfl) (by decide) (by first | rfl | simp [lft, rf_cat]) rfl ?_
    refine R.aload_n dL_law_649 rfl (by first | rfl | exact rfv_rf _) ?_
    refine cl_L_179 rfl rfl (by first | exact Nat.le_of_ble_eq_true rfl | simp [rf_cat, Value.category]) dL_law_650 ?_
    refine n_thrown ?_
    rw [t2]
    refine R.iload dL_law_653 rfl ?_
    refine R.icmp_eq (tgt := 660) dL_law_655 (by decide) (fun _ => ?_) (fun c9 => absurd (rfl) c9)
    refine R.iload dL_law_660 rfl ?_
    refine R.if_ne (tgt := 677) dL_law_662 (by decide) (fun c9 => absurd (rfl) c9) (fun _ => ?_)
    refine R.aload_n dL_law_665 rfl (by first | rfl | exact rfv_rf _) ?_
    refine R.iconst (v := 0) dL_law_666 rfl ?_
    refine R.lald (i := 0) dL_law_667 (by decide) (by rw [F2.2.1]; show _ < mN M1 15 0; rw [hN1]; decide) ?_
    rw [show mL M2 15 0 (Int32.toNatClampNeg 0) = v.toInt64 from (congrFun (F2.2.2.2.2 15 0 (by unfold inM; omega)).2.1 0).trans (mLsL9 _ _)]
    refine R.iload dL_law_668 rfl ?_
    refine R.i2l dL_law_670 ?_
    refine R.lcmp dL_law_671 ?_
    refine R.if_eq (tgt := 677) dL_law_672 (by decide) (fun _ => ?_) (fun c9 => absurd (lcmp_rf _) c9)
    refine R.goto (tgt := 3039) dL_law_677 (by decide) ?_
    exact k M2 S p T _ _ _ _ (h.yes c1 F hm (Fr9_L _ _) m2 F2 (Nat.le_refl _) (by omega) (by omega))
  | inr E =>
    refine R.aload_n dL_law_624 rfl (by first | rfl | exact rfv_rf _) ?_
    refine R.aload_n dL_law_625 rfl (by first | rfl | exact rfv_rf _) ?_
    refine R.iload dL_law_626 rfl ?_
    refine R.iconst (v := nI 1) dL_law_628 rfl ?_
    refine R.iadd dL_law_629 ?_
    rw [nI_add9]
    refine R.scrIald dL_law_630 (nI_pos (by omega)) (by rw [nI_clamp (by omega)]; show _ < mN _ 27 0; rw [h.l27]; omega) ?_
    rw [h.x27, nI_clamp (by omega), ← hx]
    refine R.aload_n dL_law_631 rfl (by first | rfl | exact rfv_rf _) ?_
    refine cl_L_185 rfl rfl (by first | exact Nat.le_of_ble_eq_true rfl | simp [rf_cat, Value.category]) dL_law_632 ?_
    refine h_tareOf hxc h.n15 hE ?_
    rw [ea]
    have e1 := hE E (by rw [ea]; rfl)
    subst e1
    show WP _ _ _ _ _ _ _
    refine R.istore dL_law_635 (Nat.le_of_ble_eq_true rfl) (by decide) (by first | rfl | simp [lft, rf_cat]) rfl ?_
    refine R.aload_n dL_law_637 rfl (by first | rfl | exact rfv_rf _) ?_
    refine R.aload_n dL_law_638 rfl (by first | rfl | exact rfv_rf _) ?_
    refine R.iload dL_law_639 rfl ?_
    refine R.iconst (v := nI 1) dL_law_641 rfl ?_
    refine R.iadd dL_law_642 ?_
    rw [nI_add9]
    refine R.scrIald dL_law_643 (nI_pos (by omega)) (by rw [nI_clamp (by omega)]; show _ < mN _ 27 0; rw [show mN (ax M) 27 0 = mN M0 27 0 from h.l27]; omega) ?_
    rw [show mI (ax M) 27 0 = mI M0 27 0 from h.x27, nI_clamp (by omega), ← hx]
    refine cl_L_188 rfl rfl (by first | exact Nat.le_of_ble_eq_true rfl | simp [rf_cat, Value.category]) dL_law_644 ?_
    refine n_tareOf h.m.ax9 (by have := h.t hn; omega) ?_
    rw [ea]
    intro M2 m2 t2 F2
    refine R.istore dL_law_647 (Nat.le_of_ble_eq_true rfl) (by decide) (by first | rfl | simp [lft, rf_cat]) rfl ?_
    refine R.aload_n dL_law_649 rfl (by first | rfl | exact rfv_rf _) ?_
    refine cl_L_179 rfl rfl (by first | exact Nat.le_of_ble_eq_true rfl | simp [rf_cat, Value.category]) dL_law_650 ?_
    refine n_thrown ?_
    rw [t2]
    refine R.iload dL_law_653 rfl ?_
    refine R.icmp_eq (tgt := 660) dL_law_655 (by decide) (fun _ => ?_) (fun c9 => absurd (rfl) c9)
    refine R.iload dL_law_660 rfl ?_
    refine R.if_ne (tgt := 677) dL_law_662 (by decide) (fun _ => ?_) (fun c9 => absurd c9 (by decide))
    refine R.goto (tgt := 3039) dL_law_677 (by decide) ?_
    exact k M2 S p T _ _ _ _ (h.no m2 F2)
set_option maxHeartbeats 2000000 in
set_option maxRecDepth 8000 in
theorem lw_goodsOf {d n p T : Nat} {M0 M : Mem} {S : KS} {u6 u7 u8 u9 : Value} {Q : Out → Mem → Prop} (h : LW M0 M S p T n) (hn : n < 512) (hlen : 6 * n + 6 ≤ mN M0 27 0) (k : KLW d M0 n Q) : WP mL_law (d + 22) 680 [.ref (rf 27 0), .ref (rf 10 0), .ref (rf 11 0), .ref (rf 15 0), .ref (rf 16 0), .int (nI (6 * n)), u6, u7, u8, u9] [] M Q := by
  obtain ⟨x, hx⟩ : ∃ x, x = mI M0 27 0 (6 * n + 1) := ⟨_, rfl⟩
  have hxc : WPc (d + 20) mX12_goodsOf [.ref (rf 10 0), .int x] M (OU9 M (anR S p (aC S x fun i => .inl (yC (kY S) i 3)))) := c_goodsOf h.c (QA.ou h.c)
  have hE : ∀ E, anR S p (aC S x fun i => .inl (yC (kY S) i 3)) = .inl E → E = eI := fun E e => by
    cases ea : aC S x (fun i => .inl (yC (kY S) i 3)) with
    | inl v => rw [ea] at e; cases e
    | inr E9 => rw [ea] at e; cases e; exact aC_E ea
  cases ea : aC S x (fun i => .inl (yC (kY S) i 3)) with
  | inl v =>
    refine R.aload_n dL_law_680 rfl (by first | rfl | exact rfv_rf _) ?_
    refine R.aload_n dL_law_681 rfl (by first | rfl | exact rfv_rf _) ?_
    refine R.iload dL_law_682 rfl ?_
    refine R.iconst (v := nI 1) dL_law_684 rfl ?_
    refine R.iadd dL_law_685 ?_
    rw [nI_add9]
    refine R.scrIald dL_law_686 (nI_pos (by omega)) (by rw [nI_clamp (by omega)]; show _ < mN _ 27 0; rw [h.l27]; omega) ?_
    rw [h.x27, nI_clamp (by omega), ← hx]
    refine R.aload_n dL_law_687 rfl (by first | rfl | exact rfv_rf _) ?_
    refine cl_L_189 rfl rfl (by first | exact Nat.le_of_ble_eq_true rfl | simp [rf_cat, Value.category]) dL_law_688 ?_
    refine h_goodsOf hxc h.n15 hE ?_
    rw [ea]
    intro M1 c1 F hm
    have hN1 : mN M1 15 0 = 1 := by rw [(F.1 15 0 (Or.inr (Or.inr (Or.inl rfl)))).2.2.2.2]; exact h.n15
    have m1 := (h.m.frK F).f9 (Fr9_L M1 v.toInt64)
    refine R.istore dL_law_691 (Nat.le_of_ble_eq_true rfl) (by decide) (by first | rfl | simp [lft, rf_cat]) rfl ?_
    refine R.aload_n dL_law_693 rfl (by first | rfl | exact rfv_rf _) ?_
    refine R.aload_n dL_law_694 rfl (by first | rfl | exact rfv_rf _) ?_
    refine R.iload dL_law_695 rfl ?_
    refine R.iconst (v := nI 1) dL_law_697 rfl ?_
    refine R.iadd dL_law_698 ?_
    rw [nI_add9]
    refine R.scrIald dL_law_699 (nI_pos (by omega)) (by rw [nI_clamp (by omega)]; show _ < mN _ 27 0; rw [show mN (sL M1 15 0 0 v.toInt64) 27 0 = mN M0 27 0 from hm.2.2.2.1.trans h.l27]; omega) ?_
    rw [show mI (sL M1 15 0 0 v.toInt64) 27 0 = mI M0 27 0 from hm.2.2.2.2.trans h.x27, nI_clamp (by omega), ← hx]
    refine cl_L_191 rfl rfl (by first | exact Nat.le_of_ble_eq_true rfl | simp [rf_cat, Value.category]) dL_law_700 ?_
    refine n_goodsOf m1 (by have := h.t hn; omega) ?_
    rw [ea]
    intro M2 m2 t2 F2
    refine R.istore dL_law_703 (Nat.le_of_ble_eq_true rfl) (by decide) (by first | rfl | simp [lft, rf_cat]) rfl ?_
    refine R.aload_n dL_law_705 rfl (by first | rfl | exact rfv_rf _) ?_
    refine cl_L_179 rfl rfl (by first | exact Nat.le_of_ble_eq_true rfl | simp [rf_cat, Value.category]) dL_law_706 ?_
    refine n_thrown ?_
    rw [t2]
    refine R.iload dL_law_709 rfl ?_
    refine R.icmp_eq (tgt := 716) dL_law_711 (by decide) (fun _ => ?_) (fun c9 => absurd (rfl) c9)
    refine R.iload dL_law_716 rfl ?_
    refine R.if_ne (tgt := 733) dL_law_718 (by decide) (fun c9 => absurd (rfl) c9) (fun _ => ?_)
    refine R.aload_n dL_law_721 rfl (by first | rfl | exact rfv_rf _) ?_
    refine R.iconst (v := 0) dL_law_722 rfl ?_
    refine R.lald (i := 0) dL_law_723 (by decide) (by rw [F2.2.1]; show _ < mN M1 15 0; rw [hN1]; decide) ?_
    rw [show mL M2 15 0 (Int32.toNatClampNeg 0) = v.toInt64 from (congrFun (F2.2.2.2.2 15 0 (by unfold inM; omega)).2.1 0).trans (mLsL9 _ _)]
    refine R.iload dL_law_724 rfl ?_
    refine R.i2l dL_law_726 ?_
    refine R.lcmp dL_law_727 ?_
    refine R.if_eq (tgt := 733) dL_law_728 (by decide) (fun _ => ?_) (fun c9 => absurd (lcmp_rf _) c9)
    refine R.goto (tgt := 3039) dL_law_733 (by decide) ?_
    exact k M2 S p T _ _ _ _ (h.yes c1 F hm (Fr9_L _ _) m2 F2 (Nat.le_refl _) (by omega) (by omega))
  | inr E =>
    refine R.aload_n dL_law_680 rfl (by first | rfl | exact rfv_rf _) ?_
    refine R.aload_n dL_law_681 rfl (by first | rfl | exact rfv_rf _) ?_
    refine R.iload dL_law_682 rfl ?_
    refine R.iconst (v := nI 1) dL_law_684 rfl ?_
    refine R.iadd dL_law_685 ?_
    rw [nI_add9]
    refine R.scrIald dL_law_686 (nI_pos (by omega)) (by rw [nI_clamp (by omega)]; show _ < mN _ 27 0; rw [h.l27]; omega) ?_
    rw [h.x27, nI_clamp (by omega), ← hx]
    refine R.aload_n dL_law_687 rfl (by first | rfl | exact rfv_rf _) ?_
    refine cl_L_189 rfl rfl (by first | exact Nat.le_of_ble_eq_true rfl | simp [rf_cat, Value.category]) dL_law_688 ?_
    refine h_goodsOf hxc h.n15 hE ?_
    rw [ea]
    have e1 := hE E (by rw [ea]; rfl)
    subst e1
    show WP _ _ _ _ _ _ _
    refine R.istore dL_law_691 (Nat.le_of_ble_eq_true rfl) (by decide) (by first | rfl | simp [lft, rf_cat]) rfl ?_
    refine R.aload_n dL_law_693 rfl (by first | rfl | exact rfv_rf _) ?_
    refine R.aload_n dL_law_694 rfl (by first | rfl | exact rfv_rf _) ?_
    refine R.iload dL_law_695 rfl ?_
    refine R.iconst (v := nI 1) dL_law_697 rfl ?_
    refine R.iadd dL_law_698 ?_
    rw [nI_add9]
    refine R.scrIald dL_law_699 (nI_pos (by omega)) (by rw [nI_clamp (by omega)]; show _ < mN _ 27 0; rw [show mN (ax M) 27 0 = mN M0 27 0 from h.l27]; omega) ?_
    rw [show mI (ax M) 27 0 = mI M0 27 0 from h.x27, nI_clamp (by omega), ← hx]
    refine cl_L_191 rfl rfl (by first | exact Nat.le_of_ble_eq_true rfl | simp [rf_cat, Value.category]) dL_law_700 ?_
    refine n_goodsOf h.m.ax9 (by have := h.t hn; omega) ?_
    rw [ea]
    intro M2 m2 t2 F2
    refine R.istore dL_law_703 (Nat.le_of_ble_eq_true rfl) (by decide) (by first | rfl | simp [lft, rf_cat]) rfl ?_
    refine R.aload_n dL_law_705 rfl (by first | rfl | exact rfv_rf _) ?_
    refine cl_L_179 rfl rfl (by first | exact Nat.le_of_ble_eq_true rfl | simp [rf_cat, Value.category]) dL_law_706 ?_
    refine n_thrown ?_
    rw [t2]
    refine R.iload dL_law_709 rfl ?_
    refine R.icmp_eq (tgt := 716) dL_law_711 (by decide) (fun _ => ?_) (fun c9 => absurd (rfl) c9)
    refine R.iload dL_law_716 rfl ?_
    refine R.if_ne (tgt := 733) dL_law_718 (by decide) (fun _ => ?_) (fun c9 => absurd c9 (by decide))
    refine R.goto (tgt := 3039) dL_law_733 (by decide) ?_
    exact k M2 S p T _ _ _ _ (h.no m2 F2)
set_option maxHeartbeats 2000000 in
set_option maxRecDepth 8000 in
theorem lw_grossOf {d n p T : Nat} {M0 M : Mem} {S : KS} {u6 u7 u8 u9 : Value} {Q : Out → Mem → Prop} (h : LW M0 M S p T n) (hn : n < 512) (hlen : 6 * n + 6 ≤ mN M0 27 0) (k : KLW d M0 n Q) : WP mL_law (d + 22) 736 [.ref (rf 27 0), .ref (rf 10 0), .ref (rf 11 0), .ref (rf 15 0), .ref (rf 16 0), .int (nI (6 * n)), u6, u7, u8, u9] [] M Q := by
  obtain ⟨x, hx⟩ : ∃ x, x = mI M0 27 0 (6 * n + 1) := ⟨_, rfl⟩
  have hxc : WPc (d + 20) mX12_grossOf [.ref (rf 10 0), .int x] M (OU9 M (anR S p (aC S x fun i => .inl (yC (kY S) i 4)))) := c_grossOf h.c (QA.ou h.c)
  have hE : ∀ E, anR S p (aC S x fun i => .inl (yC (kY S) i 4)) = .inl E → E = eI := fun E e => by
    cases ea : aC S x (fun i => .inl (yC (kY S) i 4)) with
    | inl v => rw [ea] at e; cases e
    | inr E9 => rw [ea] at e; cases e; exact aC_E ea
  cases ea : aC S x (fun i => .inl (yC (kY S) i 4)) with
  | inl v =>
    refine R.aload_n dL_law_736 rfl (by first | rfl | exact rfv_rf _) ?_
    refine R.aload_n dL_law_737 rfl (by first | rfl | exact rfv_rf _) ?_
    refine R.iload dL_law_738 rfl ?_
    refine R.iconst (v := nI 1) dL_law_740 rfl ?_
    refine R.iadd dL_law_741 ?_
    rw [nI_add9]
    refine R.scrIald dL_law_742 (nI_pos (by omega)) (by rw [nI_clamp (by omega)]; show _ < mN _ 27 0; rw [h.l27]; omega) ?_
    rw [h.x27, nI_clamp (by omega), ← hx]
    refine R.aload_n dL_law_743 rfl (by first | rfl | exact rfv_rf _) ?_
    refine cl_L_192 rfl rfl (by first | exact Nat.le_of_ble_eq_true rfl | simp [rf_cat, Value.category]) dL_law_744 ?_
    refine h_grossOf hxc h.n15 hE ?_
    rw [ea]
    intro M1 c1 F hm
    have hN1 : mN M1 15 0 = 1 := by rw [(F.1 15 0 (Or.inr (Or.inr (Or.inl rfl)))).2.2.2.2]; exact h.n15
    have m1 := (h.m.frK F).f9 (Fr9_L M1 v.toInt64)
    refine R.istore dL_law_747 (Nat.le_of_ble_eq_true rfl) (by decide) (by first | rfl | simp [lft, rf_cat]) rfl ?_
    refine R.aload_n dL_law_749 rfl (by first | rfl | exact rfv_rf _) ?_
    refine R.aload_n dL_law_750 rfl (by first | rfl | exact rfv_rf _) ?_
    refine R.iload dL_law_751 rfl ?_
    refine R.iconst (v := nI 1) dL_law_753 rfl ?_
    refine R.iadd dL_law_754 ?_
    rw [nI_add9]
    refine R.scrIald dL_law_755 (nI_pos (by omega)) (by rw [nI_clamp (by omega)]; show _ < mN _ 27 0; rw [show mN (sL M1 15 0 0 v.toInt64) 27 0 = mN M0 27 0 from hm.2.2.2.1.trans h.l27]; omega) ?_
    rw [show mI (sL M1 15 0 0 v.toInt64) 27 0 = mI M0 27 0 from hm.2.2.2.2.trans h.x27, nI_clamp (by omega), ← hx]
    refine cl_L_194 rfl rfl (by first | exact Nat.le_of_ble_eq_true rfl | simp [rf_cat, Value.category]) dL_law_756 ?_
    refine n_grossOf m1 (by have := h.t hn; omega) ?_
    rw [ea]
    intro M2 m2 t2 F2
    refine R.istore dL_law_759 (Nat.le_of_ble_eq_true rfl) (by decide) (by first | rfl | simp [lft, rf_cat]) rfl ?_
    refine R.aload_n dL_law_761 rfl (by first | rfl | exact rfv_rf _) ?_
    refine cl_L_179 rfl rfl (by first | exact Nat.le_of_ble_eq_true rfl | simp [rf_cat, Value.category]) dL_law_762 ?_
    refine n_thrown ?_
    rw [t2]
    refine R.iload dL_law_765 rfl ?_
    refine R.icmp_eq (tgt := 772) dL_law_767 (by decide) (fun _ => ?_) (fun c9 => absurd (rfl) c9)
    refine R.iload dL_law_772 rfl ?_
    refine R.if_ne (tgt := 789) dL_law_774 (by decide) (fun c9 => absurd (rfl) c9) (fun _ => ?_)
    refine R.aload_n dL_law_777 rfl (by first | rfl | exact rfv_rf _) ?_
    refine R.iconst (v := 0) dL_law_778 rfl ?_
    refine R.lald (i := 0) dL_law_779 (by decide) (by rw [F2.2.1]; show _ < mN M1 15 0; rw [hN1]; decide) ?_
    rw [show mL M2 15 0 (Int32.toNatClampNeg 0) = v.toInt64 from (congrFun (F2.2.2.2.2 15 0 (by unfold inM; omega)).2.1 0).trans (mLsL9 _ _)]
    refine R.iload dL_law_780 rfl ?_
    refine R.i2l dL_law_782 ?_
    refine R.lcmp dL_law_783 ?_
    refine R.if_eq (tgt := 789) dL_law_784 (by decide) (fun _ => ?_) (fun c9 => absurd (lcmp_rf _) c9)
    refine R.goto (tgt := 3039) dL_law_789 (by decide) ?_
    exact k M2 S p T _ _ _ _ (h.yes c1 F hm (Fr9_L _ _) m2 F2 (Nat.le_refl _) (by omega) (by omega))
  | inr E =>
    refine R.aload_n dL_law_736 rfl (by first | rfl | exact rfv_rf _) ?_
    refine R.aload_n dL_law_737 rfl (by first | rfl | exact rfv_rf _) ?_
    refine R.iload dL_law_738 rfl ?_
    refine R.iconst (v := nI 1) dL_law_740 rfl ?_
    refine R.iadd dL_law_741 ?_
    rw [nI_add9]
    refine R.scrIald dL_law_742 (nI_pos (by omega)) (by rw [nI_clamp (by omega)]; show _ < mN _ 27 0; rw [h.l27]; omega) ?_
    rw [h.x27, nI_clamp (by omega), ← hx]
    refine R.aload_n dL_law_743 rfl (by first | rfl | exact rfv_rf _) ?_
    refine cl_L_192 rfl rfl (by first | exact Nat.le_of_ble_eq_true rfl | simp [rf_cat, Value.category]) dL_law_744 ?_
    refine h_grossOf hxc h.n15 hE ?_
    rw [ea]
    have e1 := hE E (by rw [ea]; rfl)
    subst e1
    show WP _ _ _ _ _ _ _
    refine R.istore dL_law_747 (Nat.le_of_ble_eq_true rfl) (by decide) (by first | rfl | simp [lft, rf_cat]) rfl ?_
    refine R.aload_n dL_law_749 rfl (by first | rfl | exact rfv_rf _) ?_
    refine R.aload_n dL_law_750 rfl (by first | rfl | exact rfv_rf _) ?_
    refine R.iload dL_law_751 rfl ?_
    refine R.iconst (v := nI 1) dL_law_753 rfl ?_
    refine R.iadd dL_law_754 ?_
    rw [nI_add9]
    refine R.scrIald dL_law_755 (nI_pos (by omega)) (by rw [nI_clamp (by omega)]; show _ < mN _ 27 0; rw [show mN (ax M) 27 0 = mN M0 27 0 from h.l27]; omega) ?_
    rw [show mI (ax M) 27 0 = mI M0 27 0 from h.x27, nI_clamp (by omega), ← hx]
    refine cl_L_194 rfl rfl (by first | exact Nat.le_of_ble_eq_true rfl | simp [rf_cat, Value.category]) dL_law_756 ?_
    refine n_grossOf h.m.ax9 (by have := h.t hn; omega) ?_
    rw [ea]
    intro M2 m2 t2 F2
    refine R.istore dL_law_759 (Nat.le_of_ble_eq_true rfl) (by decide) (by first | rfl | simp [lft, rf_cat]) rfl ?_
    refine R.aload_n dL_law_761 rfl (by first | rfl | exact rfv_rf _) ?_
    refine cl_L_179 rfl rfl (by first | exact Nat.le_of_ble_eq_true rfl | simp [rf_cat, Value.category]) dL_law_762 ?_
    refine n_thrown ?_
    rw [t2]
    refine R.iload dL_law_765 rfl ?_
    refine R.icmp_eq (tgt := 772) dL_law_767 (by decide) (fun _ => ?_) (fun c9 => absurd (rfl) c9)
    refine R.iload dL_law_772 rfl ?_
    refine R.if_ne (tgt := 789) dL_law_774 (by decide) (fun _ => ?_) (fun c9 => absurd c9 (by decide))
    refine R.goto (tgt := 3039) dL_law_789 (by decide) ?_
    exact k M2 S p T _ _ _ _ (h.no m2 F2)
set_option maxHeartbeats 2000000 in
set_option maxRecDepth 8000 in
theorem lw_parentOf {d n p T : Nat} {M0 M : Mem} {S : KS} {u6 u7 u8 u9 : Value} {Q : Out → Mem → Prop} (h : LW M0 M S p T n) (hn : n < 512) (hlen : 6 * n + 6 ≤ mN M0 27 0) (k : KLW d M0 n Q) : WP mL_law (d + 22) 792 [.ref (rf 27 0), .ref (rf 10 0), .ref (rf 11 0), .ref (rf 15 0), .ref (rf 16 0), .int (nI (6 * n)), u6, u7, u8, u9] [] M Q := by
  obtain ⟨x, hx⟩ : ∃ x, x = mI M0 27 0 (6 * n + 1) := ⟨_, rfl⟩
  have hxc : WPc (d + 20) mX12_parentOf [.ref (rf 10 0), .int x] M (OU9 M (anR S p (aC S x fun i => .inl (pIx (kY S) i)))) := c_parentOf h.c (QA.ou h.c)
  have hE : ∀ E, anR S p (aC S x fun i => .inl (pIx (kY S) i)) = .inl E → E = eI := fun E e => by
    cases ea : aC S x (fun i => .inl (pIx (kY S) i)) with
    | inl v => rw [ea] at e; cases e
    | inr E9 => rw [ea] at e; cases e; exact aC_E ea
  cases ea : aC S x (fun i => .inl (pIx (kY S) i)) with
  | inl v =>
    refine R.aload_n dL_law_792 rfl (by first | rfl | exact rfv_rf _) ?_
    refine R.aload_n dL_law_793 rfl (by first | rfl | exact rfv_rf _) ?_
    refine R.iload dL_law_794 rfl ?_
    refine R.iconst (v := nI 1) dL_law_796 rfl ?_
    refine R.iadd dL_law_797 ?_
    rw [nI_add9]
    refine R.scrIald dL_law_798 (nI_pos (by omega)) (by rw [nI_clamp (by omega)]; show _ < mN _ 27 0; rw [h.l27]; omega) ?_
    rw [h.x27, nI_clamp (by omega), ← hx]
    refine R.aload_n dL_law_799 rfl (by first | rfl | exact rfv_rf _) ?_
    refine cl_L_195 rfl rfl (by first | exact Nat.le_of_ble_eq_true rfl | simp [rf_cat, Value.category]) dL_law_800 ?_
    refine h_parentOf hxc h.n15 hE ?_
    rw [ea]
    intro M1 c1 F hm
    have hN1 : mN M1 15 0 = 1 := by rw [(F.1 15 0 (Or.inr (Or.inr (Or.inl rfl)))).2.2.2.2]; exact h.n15
    have m1 := (h.m.frK F).f9 (Fr9_L M1 v.toInt64)
    refine R.istore dL_law_803 (Nat.le_of_ble_eq_true rfl) (by decide) (by first | rfl | simp [lft, rf_cat]) rfl ?_
    refine R.aload_n dL_law_805 rfl (by first | rfl | exact rfv_rf _) ?_
    refine R.aload_n dL_law_806 rfl (by first | rfl | exact rfv_rf _) ?_
    refine R.iload dL_law_807 rfl ?_
    refine R.iconst (v := nI 1) dL_law_809 rfl ?_
    refine R.iadd dL_law_810 ?_
    rw [nI_add9]
    refine R.scrIald dL_law_811 (nI_pos (by omega)) (by rw [nI_clamp (by omega)]; show _ < mN _ 27 0; rw [show mN (sL M1 15 0 0 v.toInt64) 27 0 = mN M0 27 0 from hm.2.2.2.1.trans h.l27]; omega) ?_
    rw [show mI (sL M1 15 0 0 v.toInt64) 27 0 = mI M0 27 0 from hm.2.2.2.2.trans h.x27, nI_clamp (by omega), ← hx]
    refine cl_L_197 rfl rfl (by first | exact Nat.le_of_ble_eq_true rfl | simp [rf_cat, Value.category]) dL_law_812 ?_
    refine n_parentOf m1 (by have := h.t hn; omega) ?_
    rw [ea]
    intro M2 m2 t2 F2
    refine R.istore dL_law_815 (Nat.le_of_ble_eq_true rfl) (by decide) (by first | rfl | simp [lft, rf_cat]) rfl ?_
    refine R.aload_n dL_law_817 rfl (by first | rfl | exact rfv_rf _) ?_
    refine cl_L_179 rfl rfl (by first | exact Nat.le_of_ble_eq_true rfl | simp [rf_cat, Value.category]) dL_law_818 ?_
    refine n_thrown ?_
    rw [t2]
    refine R.iload dL_law_821 rfl ?_
    refine R.icmp_eq (tgt := 828) dL_law_823 (by decide) (fun _ => ?_) (fun c9 => absurd (rfl) c9)
    refine R.iload dL_law_828 rfl ?_
    refine R.if_ne (tgt := 845) dL_law_830 (by decide) (fun c9 => absurd (rfl) c9) (fun _ => ?_)
    refine R.aload_n dL_law_833 rfl (by first | rfl | exact rfv_rf _) ?_
    refine R.iconst (v := 0) dL_law_834 rfl ?_
    refine R.lald (i := 0) dL_law_835 (by decide) (by rw [F2.2.1]; show _ < mN M1 15 0; rw [hN1]; decide) ?_
    rw [show mL M2 15 0 (Int32.toNatClampNeg 0) = v.toInt64 from (congrFun (F2.2.2.2.2 15 0 (by unfold inM; omega)).2.1 0).trans (mLsL9 _ _)]
    refine R.iload dL_law_836 rfl ?_
    refine R.i2l dL_law_838 ?_
    refine R.lcmp dL_law_839 ?_
    refine R.if_eq (tgt := 845) dL_law_840 (by decide) (fun _ => ?_) (fun c9 => absurd (lcmp_rf _) c9)
    refine R.goto (tgt := 3039) dL_law_845 (by decide) ?_
    exact k M2 S p T _ _ _ _ (h.yes c1 F hm (Fr9_L _ _) m2 F2 (Nat.le_refl _) (by omega) (by omega))
  | inr E =>
    refine R.aload_n dL_law_792 rfl (by first | rfl | exact rfv_rf _) ?_
    refine R.aload_n dL_law_793 rfl (by first | rfl | exact rfv_rf _) ?_
    refine R.iload dL_law_794 rfl ?_
    refine R.iconst (v := nI 1) dL_law_796 rfl ?_
    refine R.iadd dL_law_797 ?_
    rw [nI_add9]
    refine R.scrIald dL_law_798 (nI_pos (by omega)) (by rw [nI_clamp (by omega)]; show _ < mN _ 27 0; rw [h.l27]; omega) ?_
    rw [h.x27, nI_clamp (by omega), ← hx]
    refine R.aload_n dL_law_799 rfl (by first | rfl | exact rfv_rf _) ?_
    refine cl_L_195 rfl rfl (by first | exact Nat.le_of_ble_eq_true rfl | simp [rf_cat, Value.category]) dL_law_800 ?_
    refine h_parentOf hxc h.n15 hE ?_
    rw [ea]
    have e1 := hE E (by rw [ea]; rfl)
    subst e1
    show WP _ _ _ _ _ _ _
    refine R.istore dL_law_803 (Nat.le_of_ble_eq_true rfl) (by decide) (by first | rfl | simp [lft, rf_cat]) rfl ?_
    refine R.aload_n dL_law_805 rfl (by first | rfl | exact rfv_rf _) ?_
    refine R.aload_n dL_law_806 rfl (by first | rfl | exact rfv_rf _) ?_
    refine R.iload dL_law_807 rfl ?_
    refine R.iconst (v := nI 1) dL_law_809 rfl ?_
    refine R.iadd dL_law_810 ?_
    rw [nI_add9]
    refine R.scrIald dL_law_811 (nI_pos (by omega)) (by rw [nI_clamp (by omega)]; show _ < mN _ 27 0; rw [show mN (ax M) 27 0 = mN M0 27 0 from h.l27]; omega) ?_
    rw [show mI (ax M) 27 0 = mI M0 27 0 from h.x27, nI_clamp (by omega), ← hx]
    refine cl_L_197 rfl rfl (by first | exact Nat.le_of_ble_eq_true rfl | simp [rf_cat, Value.category]) dL_law_812 ?_
    refine n_parentOf h.m.ax9 (by have := h.t hn; omega) ?_
    rw [ea]
    intro M2 m2 t2 F2
    refine R.istore dL_law_815 (Nat.le_of_ble_eq_true rfl) (by decide) (by first | rfl | simp [lft, rf_cat]) rfl ?_
    refine R.aload_n dL_law_817 rfl (by first | rfl | exact rfv_rf _) ?_
    refine cl_L_179 rfl rfl (by first | exact Nat.le_of_ble_eq_true rfl | simp [rf_cat, Value.category]) dL_law_818 ?_
    refine n_thrown ?_
    rw [t2]
    refine R.iload dL_law_821 rfl ?_
    refine R.icmp_eq (tgt := 828) dL_law_823 (by decide) (fun _ => ?_) (fun c9 => absurd (rfl) c9)
    refine R.iload dL_law_828 rfl ?_
    refine R.if_ne (tgt := 845) dL_law_830 (by decide) (fun _ => ?_) (fun c9 => absurd c9 (by decide))
    refine R.goto (tgt := 3039) dL_law_845 (by decide) ?_
    exact k M2 S p T _ _ _ _ (h.no m2 F2)
set_option maxHeartbeats 2000000 in
set_option maxRecDepth 8000 in
theorem lw_depthOf {d n p T : Nat} {M0 M : Mem} {S : KS} {u6 u7 u8 u9 : Value} {Q : Out → Mem → Prop} (h : LW M0 M S p T n) (hn : n < 512) (hlen : 6 * n + 6 ≤ mN M0 27 0) (k : KLW d M0 n Q) : WP mL_law (d + 22) 848 [.ref (rf 27 0), .ref (rf 10 0), .ref (rf 11 0), .ref (rf 15 0), .ref (rf 16 0), .int (nI (6 * n)), u6, u7, u8, u9] [] M Q := by
  obtain ⟨x, hx⟩ : ∃ x, x = mI M0 27 0 (6 * n + 1) := ⟨_, rfl⟩
  have hxc : WPc (d + 20) mX12_depthOf [.ref (rf 10 0), .int x] M (OU9 M (anR S p (aC S x fun i => .inl (nI (dp (kY S) i))))) := c_depthOf h.c h.acy (QA.ou h.c)
  have hE : ∀ E, anR S p (aC S x fun i => .inl (nI (dp (kY S) i))) = .inl E → E = eI := fun E e => by
    cases ea : aC S x (fun i => .inl (nI (dp (kY S) i))) with
    | inl v => rw [ea] at e; cases e
    | inr E9 => rw [ea] at e; cases e; exact aC_E ea
  cases ea : aC S x (fun i => .inl (nI (dp (kY S) i))) with
  | inl v =>
    refine R.aload_n dL_law_848 rfl (by first | rfl | exact rfv_rf _) ?_
    refine R.aload_n dL_law_849 rfl (by first | rfl | exact rfv_rf _) ?_
    refine R.iload dL_law_850 rfl ?_
    refine R.iconst (v := nI 1) dL_law_852 rfl ?_
    refine R.iadd dL_law_853 ?_
    rw [nI_add9]
    refine R.scrIald dL_law_854 (nI_pos (by omega)) (by rw [nI_clamp (by omega)]; show _ < mN _ 27 0; rw [h.l27]; omega) ?_
    rw [h.x27, nI_clamp (by omega), ← hx]
    refine R.aload_n dL_law_855 rfl (by first | rfl | exact rfv_rf _) ?_
    refine cl_L_198 rfl rfl (by first | exact Nat.le_of_ble_eq_true rfl | simp [rf_cat, Value.category]) dL_law_856 ?_
    refine h_depthOf hxc h.n15 hE ?_
    rw [ea]
    intro M1 c1 F hm
    have hN1 : mN M1 15 0 = 1 := by rw [(F.1 15 0 (Or.inr (Or.inr (Or.inl rfl)))).2.2.2.2]; exact h.n15
    have m1 := (h.m.frK F).f9 (Fr9_L M1 v.toInt64)
    refine R.istore dL_law_859 (Nat.le_of_ble_eq_true rfl) (by decide) (by first | rfl | simp [lft, rf_cat]) rfl ?_
    refine R.aload_n dL_law_861 rfl (by first | rfl | exact rfv_rf _) ?_
    refine R.aload_n dL_law_862 rfl (by first | rfl | exact rfv_rf _) ?_
    refine R.iload dL_law_863 rfl ?_
    refine R.iconst (v := nI 1) dL_law_865 rfl ?_
    refine R.iadd dL_law_866 ?_
    rw [nI_add9]
    refine R.scrIald dL_law_867 (nI_pos (by omega)) (by rw [nI_clamp (by omega)]; show _ < mN _ 27 0; rw [show mN (sL M1 15 0 0 v.toInt64) 27 0 = mN M0 27 0 from hm.2.2.2.1.trans h.l27]; omega) ?_
    rw [show mI (sL M1 15 0 0 v.toInt64) 27 0 = mI M0 27 0 from hm.2.2.2.2.trans h.x27, nI_clamp (by omega), ← hx]
    refine cl_L_200 rfl rfl (by first | exact Nat.le_of_ble_eq_true rfl | simp [rf_cat, Value.category]) dL_law_868 ?_
    refine n_depthOf m1 (by have := h.t hn; omega) ?_
    rw [ea]
    intro M2 m2 t2 F2
    refine R.istore dL_law_871 (Nat.le_of_ble_eq_true rfl) (by decide) (by first | rfl | simp [lft, rf_cat]) rfl ?_
    refine R.aload_n dL_law_873 rfl (by first | rfl | exact rfv_rf _) ?_
    refine cl_L_179 rfl rfl (by first | exact Nat.le_of_ble_eq_true rfl | simp [rf_cat, Value.category]) dL_law_874 ?_
    refine n_thrown ?_
    rw [t2]
    refine R.iload dL_law_877 rfl ?_
    refine R.icmp_eq (tgt := 884) dL_law_879 (by decide) (fun _ => ?_) (fun c9 => absurd (rfl) c9)
    refine R.iload dL_law_884 rfl ?_
    refine R.if_ne (tgt := 901) dL_law_886 (by decide) (fun c9 => absurd (rfl) c9) (fun _ => ?_)
    refine R.aload_n dL_law_889 rfl (by first | rfl | exact rfv_rf _) ?_
    refine R.iconst (v := 0) dL_law_890 rfl ?_
    refine R.lald (i := 0) dL_law_891 (by decide) (by rw [F2.2.1]; show _ < mN M1 15 0; rw [hN1]; decide) ?_
    rw [show mL M2 15 0 (Int32.toNatClampNeg 0) = v.toInt64 from (congrFun (F2.2.2.2.2 15 0 (by unfold inM; omega)).2.1 0).trans (mLsL9 _ _)]
    refine R.iload dL_law_892 rfl ?_
    refine R.i2l dL_law_894 ?_
    refine R.lcmp dL_law_895 ?_
    refine R.if_eq (tgt := 901) dL_law_896 (by decide) (fun _ => ?_) (fun c9 => absurd (lcmp_rf _) c9)
    refine R.goto (tgt := 3039) dL_law_901 (by decide) ?_
    exact k M2 S p T _ _ _ _ (h.yes c1 F hm (Fr9_L _ _) m2 F2 (Nat.le_refl _) (by omega) (by omega))
  | inr E =>
    refine R.aload_n dL_law_848 rfl (by first | rfl | exact rfv_rf _) ?_
    refine R.aload_n dL_law_849 rfl (by first | rfl | exact rfv_rf _) ?_
    refine R.iload dL_law_850 rfl ?_
    refine R.iconst (v := nI 1) dL_law_852 rfl ?_
    refine R.iadd dL_law_853 ?_
    rw [nI_add9]
    refine R.scrIald dL_law_854 (nI_pos (by omega)) (by rw [nI_clamp (by omega)]; show _ < mN _ 27 0; rw [h.l27]; omega) ?_
    rw [h.x27, nI_clamp (by omega), ← hx]
    refine R.aload_n dL_law_855 rfl (by first | rfl | exact rfv_rf _) ?_
    refine cl_L_198 rfl rfl (by first | exact Nat.le_of_ble_eq_true rfl | simp [rf_cat, Value.category]) dL_law_856 ?_
    refine h_depthOf hxc h.n15 hE ?_
    rw [ea]
    have e1 := hE E (by rw [ea]; rfl)
    subst e1
    show WP _ _ _ _ _ _ _
    refine R.istore dL_law_859 (Nat.le_of_ble_eq_true rfl) (by decide) (by first | rfl | simp [lft, rf_cat]) rfl ?_
    refine R.aload_n dL_law_861 rfl (by first | rfl | exact rfv_rf _) ?_
    refine R.aload_n dL_law_862 rfl (by first | rfl | exact rfv_rf _) ?_
    refine R.iload dL_law_863 rfl ?_
    refine R.iconst (v := nI 1) dL_law_865 rfl ?_
    refine R.iadd dL_law_866 ?_
    rw [nI_add9]
    refine R.scrIald dL_law_867 (nI_pos (by omega)) (by rw [nI_clamp (by omega)]; show _ < mN _ 27 0; rw [show mN (ax M) 27 0 = mN M0 27 0 from h.l27]; omega) ?_
    rw [show mI (ax M) 27 0 = mI M0 27 0 from h.x27, nI_clamp (by omega), ← hx]
    refine cl_L_200 rfl rfl (by first | exact Nat.le_of_ble_eq_true rfl | simp [rf_cat, Value.category]) dL_law_868 ?_
    refine n_depthOf h.m.ax9 (by have := h.t hn; omega) ?_
    rw [ea]
    intro M2 m2 t2 F2
    refine R.istore dL_law_871 (Nat.le_of_ble_eq_true rfl) (by decide) (by first | rfl | simp [lft, rf_cat]) rfl ?_
    refine R.aload_n dL_law_873 rfl (by first | rfl | exact rfv_rf _) ?_
    refine cl_L_179 rfl rfl (by first | exact Nat.le_of_ble_eq_true rfl | simp [rf_cat, Value.category]) dL_law_874 ?_
    refine n_thrown ?_
    rw [t2]
    refine R.iload dL_law_877 rfl ?_
    refine R.icmp_eq (tgt := 884) dL_law_879 (by decide) (fun _ => ?_) (fun c9 => absurd (rfl) c9)
    refine R.iload dL_law_884 rfl ?_
    refine R.if_ne (tgt := 901) dL_law_886 (by decide) (fun _ => ?_) (fun c9 => absurd c9 (by decide))
    refine R.goto (tgt := 3039) dL_law_901 (by decide) ?_
    exact k M2 S p T _ _ _ _ (h.no m2 F2)
set_option maxHeartbeats 2000000 in
set_option maxRecDepth 8000 in
theorem lw_childCount {d n p T : Nat} {M0 M : Mem} {S : KS} {u6 u7 u8 u9 : Value} {Q : Out → Mem → Prop} (h : LW M0 M S p T n) (hn : n < 512) (hlen : 6 * n + 6 ≤ mN M0 27 0) (k : KLW d M0 n Q) : WP mL_law (d + 22) 904 [.ref (rf 27 0), .ref (rf 10 0), .ref (rf 11 0), .ref (rf 15 0), .ref (rf 16 0), .int (nI (6 * n)), u6, u7, u8, u9] [] M Q := by
  obtain ⟨x, hx⟩ : ∃ x, x = mI M0 27 0 (6 * n + 1) := ⟨_, rfl⟩
  have hxc : WPc (d + 20) mX12_childCount [.ref (rf 10 0), .int x] M (OU9 M (anR S p (aC S x fun i => .inl (nI (ccF (kY S) 17 (fCh (kY S) i) 0))))) := c_childCount h.c (h.che hn) (QA.ou h.c)
  have hE : ∀ E, anR S p (aC S x fun i => .inl (nI (ccF (kY S) 17 (fCh (kY S) i) 0))) = .inl E → E = eI := fun E e => by
    cases ea : aC S x (fun i => .inl (nI (ccF (kY S) 17 (fCh (kY S) i) 0))) with
    | inl v => rw [ea] at e; cases e
    | inr E9 => rw [ea] at e; cases e; exact aC_E ea
  cases ea : aC S x (fun i => .inl (nI (ccF (kY S) 17 (fCh (kY S) i) 0))) with
  | inl v =>
    refine R.aload_n dL_law_904 rfl (by first | rfl | exact rfv_rf _) ?_
    refine R.aload_n dL_law_905 rfl (by first | rfl | exact rfv_rf _) ?_
    refine R.iload dL_law_906 rfl ?_
    refine R.iconst (v := nI 1) dL_law_908 rfl ?_
    refine R.iadd dL_law_909 ?_
    rw [nI_add9]
    refine R.scrIald dL_law_910 (nI_pos (by omega)) (by rw [nI_clamp (by omega)]; show _ < mN _ 27 0; rw [h.l27]; omega) ?_
    rw [h.x27, nI_clamp (by omega), ← hx]
    refine R.aload_n dL_law_911 rfl (by first | rfl | exact rfv_rf _) ?_
    refine cl_L_201 rfl rfl (by first | exact Nat.le_of_ble_eq_true rfl | simp [rf_cat, Value.category]) dL_law_912 ?_
    refine h_childCount hxc h.n15 hE ?_
    rw [ea]
    intro M1 c1 F hm
    have hN1 : mN M1 15 0 = 1 := by rw [(F.1 15 0 (Or.inr (Or.inr (Or.inl rfl)))).2.2.2.2]; exact h.n15
    have m1 := (h.m.frK F).f9 (Fr9_L M1 v.toInt64)
    refine R.istore dL_law_915 (Nat.le_of_ble_eq_true rfl) (by decide) (by first | rfl | simp [lft, rf_cat]) rfl ?_
    refine R.aload_n dL_law_917 rfl (by first | rfl | exact rfv_rf _) ?_
    refine R.aload_n dL_law_918 rfl (by first | rfl | exact rfv_rf _) ?_
    refine R.iload dL_law_919 rfl ?_
    refine R.iconst (v := nI 1) dL_law_921 rfl ?_
    refine R.iadd dL_law_922 ?_
    rw [nI_add9]
    refine R.scrIald dL_law_923 (nI_pos (by omega)) (by rw [nI_clamp (by omega)]; show _ < mN _ 27 0; rw [show mN (sL M1 15 0 0 v.toInt64) 27 0 = mN M0 27 0 from hm.2.2.2.1.trans h.l27]; omega) ?_
    rw [show mI (sL M1 15 0 0 v.toInt64) 27 0 = mI M0 27 0 from hm.2.2.2.2.trans h.x27, nI_clamp (by omega), ← hx]
    refine cl_L_203 rfl rfl (by first | exact Nat.le_of_ble_eq_true rfl | simp [rf_cat, Value.category]) dL_law_924 ?_
    refine n_childCount m1 (by have := h.t hn; omega) ?_
    rw [ea]
    intro M2 m2 t2 F2
    refine R.istore dL_law_927 (Nat.le_of_ble_eq_true rfl) (by decide) (by first | rfl | simp [lft, rf_cat]) rfl ?_
    refine R.aload_n dL_law_929 rfl (by first | rfl | exact rfv_rf _) ?_
    refine cl_L_179 rfl rfl (by first | exact Nat.le_of_ble_eq_true rfl | simp [rf_cat, Value.category]) dL_law_930 ?_
    refine n_thrown ?_
    rw [t2]
    refine R.iload dL_law_933 rfl ?_
    refine R.icmp_eq (tgt := 940) dL_law_935 (by decide) (fun _ => ?_) (fun c9 => absurd (rfl) c9)
    refine R.iload dL_law_940 rfl ?_
    refine R.if_ne (tgt := 957) dL_law_942 (by decide) (fun c9 => absurd (rfl) c9) (fun _ => ?_)
    refine R.aload_n dL_law_945 rfl (by first | rfl | exact rfv_rf _) ?_
    refine R.iconst (v := 0) dL_law_946 rfl ?_
    refine R.lald (i := 0) dL_law_947 (by decide) (by rw [F2.2.1]; show _ < mN M1 15 0; rw [hN1]; decide) ?_
    rw [show mL M2 15 0 (Int32.toNatClampNeg 0) = v.toInt64 from (congrFun (F2.2.2.2.2 15 0 (by unfold inM; omega)).2.1 0).trans (mLsL9 _ _)]
    refine R.iload dL_law_948 rfl ?_
    refine R.i2l dL_law_950 ?_
    refine R.lcmp dL_law_951 ?_
    refine R.if_eq (tgt := 957) dL_law_952 (by decide) (fun _ => ?_) (fun c9 => absurd (lcmp_rf _) c9)
    refine R.goto (tgt := 3039) dL_law_957 (by decide) ?_
    exact k M2 S p T _ _ _ _ (h.yes c1 F hm (Fr9_L _ _) m2 F2 (Nat.le_refl _) (by omega) (by omega))
  | inr E =>
    refine R.aload_n dL_law_904 rfl (by first | rfl | exact rfv_rf _) ?_
    refine R.aload_n dL_law_905 rfl (by first | rfl | exact rfv_rf _) ?_
    refine R.iload dL_law_906 rfl ?_
    refine R.iconst (v := nI 1) dL_law_908 rfl ?_
    refine R.iadd dL_law_909 ?_
    rw [nI_add9]
    refine R.scrIald dL_law_910 (nI_pos (by omega)) (by rw [nI_clamp (by omega)]; show _ < mN _ 27 0; rw [h.l27]; omega) ?_
    rw [h.x27, nI_clamp (by omega), ← hx]
    refine R.aload_n dL_law_911 rfl (by first | rfl | exact rfv_rf _) ?_
    refine cl_L_201 rfl rfl (by first | exact Nat.le_of_ble_eq_true rfl | simp [rf_cat, Value.category]) dL_law_912 ?_
    refine h_childCount hxc h.n15 hE ?_
    rw [ea]
    have e1 := hE E (by rw [ea]; rfl)
    subst e1
    show WP _ _ _ _ _ _ _
    refine R.istore dL_law_915 (Nat.le_of_ble_eq_true rfl) (by decide) (by first | rfl | simp [lft, rf_cat]) rfl ?_
    refine R.aload_n dL_law_917 rfl (by first | rfl | exact rfv_rf _) ?_
    refine R.aload_n dL_law_918 rfl (by first | rfl | exact rfv_rf _) ?_
    refine R.iload dL_law_919 rfl ?_
    refine R.iconst (v := nI 1) dL_law_921 rfl ?_
    refine R.iadd dL_law_922 ?_
    rw [nI_add9]
    refine R.scrIald dL_law_923 (nI_pos (by omega)) (by rw [nI_clamp (by omega)]; show _ < mN _ 27 0; rw [show mN (ax M) 27 0 = mN M0 27 0 from h.l27]; omega) ?_
    rw [show mI (ax M) 27 0 = mI M0 27 0 from h.x27, nI_clamp (by omega), ← hx]
    refine cl_L_203 rfl rfl (by first | exact Nat.le_of_ble_eq_true rfl | simp [rf_cat, Value.category]) dL_law_924 ?_
    refine n_childCount h.m.ax9 (by have := h.t hn; omega) ?_
    rw [ea]
    intro M2 m2 t2 F2
    refine R.istore dL_law_927 (Nat.le_of_ble_eq_true rfl) (by decide) (by first | rfl | simp [lft, rf_cat]) rfl ?_
    refine R.aload_n dL_law_929 rfl (by first | rfl | exact rfv_rf _) ?_
    refine cl_L_179 rfl rfl (by first | exact Nat.le_of_ble_eq_true rfl | simp [rf_cat, Value.category]) dL_law_930 ?_
    refine n_thrown ?_
    rw [t2]
    refine R.iload dL_law_933 rfl ?_
    refine R.icmp_eq (tgt := 940) dL_law_935 (by decide) (fun _ => ?_) (fun c9 => absurd (rfl) c9)
    refine R.iload dL_law_940 rfl ?_
    refine R.if_ne (tgt := 957) dL_law_942 (by decide) (fun _ => ?_) (fun c9 => absurd c9 (by decide))
    refine R.goto (tgt := 3039) dL_law_957 (by decide) ?_
    exact k M2 S p T _ _ _ _ (h.no m2 F2)
set_option maxHeartbeats 2000000 in
set_option maxRecDepth 8000 in
theorem lw_readingCount {d n p T : Nat} {M0 M : Mem} {S : KS} {u6 u7 u8 u9 : Value} {Q : Out → Mem → Prop} (h : LW M0 M S p T n) (hn : n < 512) (hlen : 6 * n + 6 ≤ mN M0 27 0) (k : KLW d M0 n Q) : WP mL_law (d + 22) 1091 [.ref (rf 27 0), .ref (rf 10 0), .ref (rf 11 0), .ref (rf 15 0), .ref (rf 16 0), .int (nI (6 * n)), u6, u7, u8, u9] [] M Q := by
  obtain ⟨x, hx⟩ : ∃ x, x = mI M0 27 0 (6 * n + 1) := ⟨_, rfl⟩
  have hxc : WPc (d + 20) mX12_readingCount [.ref (rf 10 0), .int x] M (OU9 M (anR S p (aC S x fun i => .inl (yC (kY S) i 8)))) := c_readingCount h.c (QA.ou h.c)
  have hE : ∀ E, anR S p (aC S x fun i => .inl (yC (kY S) i 8)) = .inl E → E = eI := fun E e => by
    cases ea : aC S x (fun i => .inl (yC (kY S) i 8)) with
    | inl v => rw [ea] at e; cases e
    | inr E9 => rw [ea] at e; cases e; exact aC_E ea
  cases ea : aC S x (fun i => .inl (yC (kY S) i 8)) with
  | inl v =>
    refine R.aload_n dL_law_1091 rfl (by first | rfl | exact rfv_rf _) ?_
    refine R.aload_n dL_law_1092 rfl (by first | rfl | exact rfv_rf _) ?_
    refine R.iload dL_law_1093 rfl ?_
    refine R.iconst (v := nI 1) dL_law_1095 rfl ?_
    refine R.iadd dL_law_1096 ?_
    rw [nI_add9]
    refine R.scrIald dL_law_1097 (nI_pos (by omega)) (by rw [nI_clamp (by omega)]; show _ < mN _ 27 0; rw [h.l27]; omega) ?_
    rw [h.x27, nI_clamp (by omega), ← hx]
    refine R.aload_n dL_law_1098 rfl (by first | rfl | exact rfv_rf _) ?_
    refine cl_L_210 rfl rfl (by first | exact Nat.le_of_ble_eq_true rfl | simp [rf_cat, Value.category]) dL_law_1099 ?_
    refine h_readingCount hxc h.n15 hE ?_
    rw [ea]
    intro M1 c1 F hm
    have hN1 : mN M1 15 0 = 1 := by rw [(F.1 15 0 (Or.inr (Or.inr (Or.inl rfl)))).2.2.2.2]; exact h.n15
    have m1 := (h.m.frK F).f9 (Fr9_L M1 v.toInt64)
    refine R.istore dL_law_1102 (Nat.le_of_ble_eq_true rfl) (by decide) (by first | rfl | simp [lft, rf_cat]) rfl ?_
    refine R.aload_n dL_law_1104 rfl (by first | rfl | exact rfv_rf _) ?_
    refine R.aload_n dL_law_1105 rfl (by first | rfl | exact rfv_rf _) ?_
    refine R.iload dL_law_1106 rfl ?_
    refine R.iconst (v := nI 1) dL_law_1108 rfl ?_
    refine R.iadd dL_law_1109 ?_
    rw [nI_add9]
    refine R.scrIald dL_law_1110 (nI_pos (by omega)) (by rw [nI_clamp (by omega)]; show _ < mN _ 27 0; rw [show mN (sL M1 15 0 0 v.toInt64) 27 0 = mN M0 27 0 from hm.2.2.2.1.trans h.l27]; omega) ?_
    rw [show mI (sL M1 15 0 0 v.toInt64) 27 0 = mI M0 27 0 from hm.2.2.2.2.trans h.x27, nI_clamp (by omega), ← hx]
    refine cl_L_212 rfl rfl (by first | exact Nat.le_of_ble_eq_true rfl | simp [rf_cat, Value.category]) dL_law_1111 ?_
    refine n_readingCount m1 (by have := h.t hn; omega) ?_
    rw [ea]
    intro M2 m2 t2 F2
    refine R.istore dL_law_1114 (Nat.le_of_ble_eq_true rfl) (by decide) (by first | rfl | simp [lft, rf_cat]) rfl ?_
    refine R.aload_n dL_law_1116 rfl (by first | rfl | exact rfv_rf _) ?_
    refine cl_L_179 rfl rfl (by first | exact Nat.le_of_ble_eq_true rfl | simp [rf_cat, Value.category]) dL_law_1117 ?_
    refine n_thrown ?_
    rw [t2]
    refine R.iload dL_law_1120 rfl ?_
    refine R.icmp_eq (tgt := 1127) dL_law_1122 (by decide) (fun _ => ?_) (fun c9 => absurd (rfl) c9)
    refine R.iload dL_law_1127 rfl ?_
    refine R.if_ne (tgt := 1144) dL_law_1129 (by decide) (fun c9 => absurd (rfl) c9) (fun _ => ?_)
    refine R.aload_n dL_law_1132 rfl (by first | rfl | exact rfv_rf _) ?_
    refine R.iconst (v := 0) dL_law_1133 rfl ?_
    refine R.lald (i := 0) dL_law_1134 (by decide) (by rw [F2.2.1]; show _ < mN M1 15 0; rw [hN1]; decide) ?_
    rw [show mL M2 15 0 (Int32.toNatClampNeg 0) = v.toInt64 from (congrFun (F2.2.2.2.2 15 0 (by unfold inM; omega)).2.1 0).trans (mLsL9 _ _)]
    refine R.iload dL_law_1135 rfl ?_
    refine R.i2l dL_law_1137 ?_
    refine R.lcmp dL_law_1138 ?_
    refine R.if_eq (tgt := 1144) dL_law_1139 (by decide) (fun _ => ?_) (fun c9 => absurd (lcmp_rf _) c9)
    refine R.goto (tgt := 3039) dL_law_1144 (by decide) ?_
    exact k M2 S p T _ _ _ _ (h.yes c1 F hm (Fr9_L _ _) m2 F2 (Nat.le_refl _) (by omega) (by omega))
  | inr E =>
    refine R.aload_n dL_law_1091 rfl (by first | rfl | exact rfv_rf _) ?_
    refine R.aload_n dL_law_1092 rfl (by first | rfl | exact rfv_rf _) ?_
    refine R.iload dL_law_1093 rfl ?_
    refine R.iconst (v := nI 1) dL_law_1095 rfl ?_
    refine R.iadd dL_law_1096 ?_
    rw [nI_add9]
    refine R.scrIald dL_law_1097 (nI_pos (by omega)) (by rw [nI_clamp (by omega)]; show _ < mN _ 27 0; rw [h.l27]; omega) ?_
    rw [h.x27, nI_clamp (by omega), ← hx]
    refine R.aload_n dL_law_1098 rfl (by first | rfl | exact rfv_rf _) ?_
    refine cl_L_210 rfl rfl (by first | exact Nat.le_of_ble_eq_true rfl | simp [rf_cat, Value.category]) dL_law_1099 ?_
    refine h_readingCount hxc h.n15 hE ?_
    rw [ea]
    have e1 := hE E (by rw [ea]; rfl)
    subst e1
    show WP _ _ _ _ _ _ _
    refine R.istore dL_law_1102 (Nat.le_of_ble_eq_true rfl) (by decide) (by first | rfl | simp [lft, rf_cat]) rfl ?_
    refine R.aload_n dL_law_1104 rfl (by first | rfl | exact rfv_rf _) ?_
    refine R.aload_n dL_law_1105 rfl (by first | rfl | exact rfv_rf _) ?_
    refine R.iload dL_law_1106 rfl ?_
    refine R.iconst (v := nI 1) dL_law_1108 rfl ?_
    refine R.iadd dL_law_1109 ?_
    rw [nI_add9]
    refine R.scrIald dL_law_1110 (nI_pos (by omega)) (by rw [nI_clamp (by omega)]; show _ < mN _ 27 0; rw [show mN (ax M) 27 0 = mN M0 27 0 from h.l27]; omega) ?_
    rw [show mI (ax M) 27 0 = mI M0 27 0 from h.x27, nI_clamp (by omega), ← hx]
    refine cl_L_212 rfl rfl (by first | exact Nat.le_of_ble_eq_true rfl | simp [rf_cat, Value.category]) dL_law_1111 ?_
    refine n_readingCount h.m.ax9 (by have := h.t hn; omega) ?_
    rw [ea]
    intro M2 m2 t2 F2
    refine R.istore dL_law_1114 (Nat.le_of_ble_eq_true rfl) (by decide) (by first | rfl | simp [lft, rf_cat]) rfl ?_
    refine R.aload_n dL_law_1116 rfl (by first | rfl | exact rfv_rf _) ?_
    refine cl_L_179 rfl rfl (by first | exact Nat.le_of_ble_eq_true rfl | simp [rf_cat, Value.category]) dL_law_1117 ?_
    refine n_thrown ?_
    rw [t2]
    refine R.iload dL_law_1120 rfl ?_
    refine R.icmp_eq (tgt := 1127) dL_law_1122 (by decide) (fun _ => ?_) (fun c9 => absurd (rfl) c9)
    refine R.iload dL_law_1127 rfl ?_
    refine R.if_ne (tgt := 1144) dL_law_1129 (by decide) (fun _ => ?_) (fun c9 => absurd c9 (by decide))
    refine R.goto (tgt := 3039) dL_law_1144 (by decide) ?_
    exact k M2 S p T _ _ _ _ (h.no m2 F2)
set_option maxHeartbeats 2000000 in
set_option maxRecDepth 8000 in
theorem lw_bestBuyer {d n p T : Nat} {M0 M : Mem} {S : KS} {u6 u7 u8 u9 : Value} {Q : Out → Mem → Prop} (h : LW M0 M S p T n) (hn : n < 512) (hlen : 6 * n + 6 ≤ mN M0 27 0) (k : KLW d M0 n Q) : WP mL_law (d + 22) 2090 [.ref (rf 27 0), .ref (rf 10 0), .ref (rf 11 0), .ref (rf 15 0), .ref (rf 16 0), .int (nI (6 * n)), u6, u7, u8, u9] [] M Q := by
  obtain ⟨x, hx⟩ : ∃ x, x = mI M0 27 0 (6 * n + 1) := ⟨_, rfl⟩
  have hxc : WPc (d + 20) mX12_bestBuyer [.ref (rf 10 0), .int x] M (OU9 M (anR S p (aC S x fun i => .inl (bbF (kY S) i)))) := c_bestBuyer h.c (QA.ou h.c)
  have hE : ∀ E, anR S p (aC S x fun i => .inl (bbF (kY S) i)) = .inl E → E = eI := fun E e => by
    cases ea : aC S x (fun i => .inl (bbF (kY S) i)) with
    | inl v => rw [ea] at e; cases e
    | inr E9 => rw [ea] at e; cases e; exact aC_E ea
  cases ea : aC S x (fun i => .inl (bbF (kY S) i)) with
  | inl v =>
    refine R.aload_n dL_law_2090 rfl (by first | rfl | exact rfv_rf _) ?_
    refine R.aload_n dL_law_2091 rfl (by first | rfl | exact rfv_rf _) ?_
    refine R.iload dL_law_2092 rfl ?_
    refine R.iconst (v := nI 1) dL_law_2094 rfl ?_
    refine R.iadd dL_law_2095 ?_
    rw [nI_add9]
    refine R.scrIald dL_law_2096 (nI_pos (by omega)) (by rw [nI_clamp (by omega)]; show _ < mN _ 27 0; rw [h.l27]; omega) ?_
    rw [h.x27, nI_clamp (by omega), ← hx]
    refine R.aload_n dL_law_2097 rfl (by first | rfl | exact rfv_rf _) ?_
    refine cl_L_280 rfl rfl (by first | exact Nat.le_of_ble_eq_true rfl | simp [rf_cat, Value.category]) dL_law_2098 ?_
    refine h_bestBuyer hxc h.n15 hE ?_
    rw [ea]
    intro M1 c1 F hm
    have hN1 : mN M1 15 0 = 1 := by rw [(F.1 15 0 (Or.inr (Or.inr (Or.inl rfl)))).2.2.2.2]; exact h.n15
    have m1 := (h.m.frK F).f9 (Fr9_L M1 v.toInt64)
    refine R.istore dL_law_2101 (Nat.le_of_ble_eq_true rfl) (by decide) (by first | rfl | simp [lft, rf_cat]) rfl ?_
    refine R.aload_n dL_law_2103 rfl (by first | rfl | exact rfv_rf _) ?_
    refine R.aload_n dL_law_2104 rfl (by first | rfl | exact rfv_rf _) ?_
    refine R.iload dL_law_2105 rfl ?_
    refine R.iconst (v := nI 1) dL_law_2107 rfl ?_
    refine R.iadd dL_law_2108 ?_
    rw [nI_add9]
    refine R.scrIald dL_law_2109 (nI_pos (by omega)) (by rw [nI_clamp (by omega)]; show _ < mN _ 27 0; rw [show mN (sL M1 15 0 0 v.toInt64) 27 0 = mN M0 27 0 from hm.2.2.2.1.trans h.l27]; omega) ?_
    rw [show mI (sL M1 15 0 0 v.toInt64) 27 0 = mI M0 27 0 from hm.2.2.2.2.trans h.x27, nI_clamp (by omega), ← hx]
    refine cl_L_282 rfl rfl (by first | exact Nat.le_of_ble_eq_true rfl | simp [rf_cat, Value.category]) dL_law_2110 ?_
    refine n_bestBuyer m1 (by have := h.t hn; omega) ?_
    rw [ea]
    intro M2 m2 t2 F2
    refine R.istore dL_law_2113 (Nat.le_of_ble_eq_true rfl) (by decide) (by first | rfl | simp [lft, rf_cat]) rfl ?_
    refine R.aload_n dL_law_2115 rfl (by first | rfl | exact rfv_rf _) ?_
    refine cl_L_179 rfl rfl (by first | exact Nat.le_of_ble_eq_true rfl | simp [rf_cat, Value.category]) dL_law_2116 ?_
    refine n_thrown ?_
    rw [t2]
    refine R.iload dL_law_2119 rfl ?_
    refine R.icmp_eq (tgt := 2126) dL_law_2121 (by decide) (fun _ => ?_) (fun c9 => absurd (rfl) c9)
    refine R.iload dL_law_2126 rfl ?_
    refine R.if_ne (tgt := 2143) dL_law_2128 (by decide) (fun c9 => absurd (rfl) c9) (fun _ => ?_)
    refine R.aload_n dL_law_2131 rfl (by first | rfl | exact rfv_rf _) ?_
    refine R.iconst (v := 0) dL_law_2132 rfl ?_
    refine R.lald (i := 0) dL_law_2133 (by decide) (by rw [F2.2.1]; show _ < mN M1 15 0; rw [hN1]; decide) ?_
    rw [show mL M2 15 0 (Int32.toNatClampNeg 0) = v.toInt64 from (congrFun (F2.2.2.2.2 15 0 (by unfold inM; omega)).2.1 0).trans (mLsL9 _ _)]
    refine R.iload dL_law_2134 rfl ?_
    refine R.i2l dL_law_2136 ?_
    refine R.lcmp dL_law_2137 ?_
    refine R.if_eq (tgt := 2143) dL_law_2138 (by decide) (fun _ => ?_) (fun c9 => absurd (lcmp_rf _) c9)
    refine R.goto (tgt := 3039) dL_law_2143 (by decide) ?_
    exact k M2 S p T _ _ _ _ (h.yes c1 F hm (Fr9_L _ _) m2 F2 (Nat.le_refl _) (by omega) (by omega))
  | inr E =>
    refine R.aload_n dL_law_2090 rfl (by first | rfl | exact rfv_rf _) ?_
    refine R.aload_n dL_law_2091 rfl (by first | rfl | exact rfv_rf _) ?_
    refine R.iload dL_law_2092 rfl ?_
    refine R.iconst (v := nI 1) dL_law_2094 rfl ?_
    refine R.iadd dL_law_2095 ?_
    rw [nI_add9]
    refine R.scrIald dL_law_2096 (nI_pos (by omega)) (by rw [nI_clamp (by omega)]; show _ < mN _ 27 0; rw [h.l27]; omega) ?_
    rw [h.x27, nI_clamp (by omega), ← hx]
    refine R.aload_n dL_law_2097 rfl (by first | rfl | exact rfv_rf _) ?_
    refine cl_L_280 rfl rfl (by first | exact Nat.le_of_ble_eq_true rfl | simp [rf_cat, Value.category]) dL_law_2098 ?_
    refine h_bestBuyer hxc h.n15 hE ?_
    rw [ea]
    have e1 := hE E (by rw [ea]; rfl)
    subst e1
    show WP _ _ _ _ _ _ _
    refine R.istore dL_law_2101 (Nat.le_of_ble_eq_true rfl) (by decide) (by first | rfl | simp [lft, rf_cat]) rfl ?_
    refine R.aload_n dL_law_2103 rfl (by first | rfl | exact rfv_rf _) ?_
    refine R.aload_n dL_law_2104 rfl (by first | rfl | exact rfv_rf _) ?_
    refine R.iload dL_law_2105 rfl ?_
    refine R.iconst (v := nI 1) dL_law_2107 rfl ?_
    refine R.iadd dL_law_2108 ?_
    rw [nI_add9]
    refine R.scrIald dL_law_2109 (nI_pos (by omega)) (by rw [nI_clamp (by omega)]; show _ < mN _ 27 0; rw [show mN (ax M) 27 0 = mN M0 27 0 from h.l27]; omega) ?_
    rw [show mI (ax M) 27 0 = mI M0 27 0 from h.x27, nI_clamp (by omega), ← hx]
    refine cl_L_282 rfl rfl (by first | exact Nat.le_of_ble_eq_true rfl | simp [rf_cat, Value.category]) dL_law_2110 ?_
    refine n_bestBuyer h.m.ax9 (by have := h.t hn; omega) ?_
    rw [ea]
    intro M2 m2 t2 F2
    refine R.istore dL_law_2113 (Nat.le_of_ble_eq_true rfl) (by decide) (by first | rfl | simp [lft, rf_cat]) rfl ?_
    refine R.aload_n dL_law_2115 rfl (by first | rfl | exact rfv_rf _) ?_
    refine cl_L_179 rfl rfl (by first | exact Nat.le_of_ble_eq_true rfl | simp [rf_cat, Value.category]) dL_law_2116 ?_
    refine n_thrown ?_
    rw [t2]
    refine R.iload dL_law_2119 rfl ?_
    refine R.icmp_eq (tgt := 2126) dL_law_2121 (by decide) (fun _ => ?_) (fun c9 => absurd (rfl) c9)
    refine R.iload dL_law_2126 rfl ?_
    refine R.if_ne (tgt := 2143) dL_law_2128 (by decide) (fun _ => ?_) (fun c9 => absurd c9 (by decide))
    refine R.goto (tgt := 3039) dL_law_2143 (by decide) ?_
    exact k M2 S p T _ _ _ _ (h.no m2 F2)
set_option maxHeartbeats 2000000 in
set_option maxRecDepth 8000 in
theorem lw_moneyOf {d n p T : Nat} {M0 M : Mem} {S : KS} {u6 u7 u8 u9 : Value} {Q : Out → Mem → Prop} (h : LW M0 M S p T n) (hn : n < 512) (hlen : 6 * n + 6 ≤ mN M0 27 0) (k : KLW d M0 n Q) : WP mL_law (d + 22) 1730 [.ref (rf 27 0), .ref (rf 10 0), .ref (rf 11 0), .ref (rf 15 0), .ref (rf 16 0), .int (nI (6 * n)), u6, u7, u8, u9] [] M Q := by
  obtain ⟨x, hx⟩ : ∃ x, x = mI M0 27 0 (6 * n + 1) := ⟨_, rfl⟩
  have hxc : WPc (d + 20) mX12_moneyOf [.ref (rf 10 0), .int x] M (OU9 M (anR S p (aU S x fun i => .inl (yB (kY S) i 2)))) := c_moneyOf h.c (QA.ou h.c)
  have hE : ∀ E, anR S p (aU S x fun i => .inl (yB (kY S) i 2)) = .inl E → E = eI := fun E e => by
    cases ea : aU S x (fun i => .inl (yB (kY S) i 2)) with
    | inl v => rw [ea] at e; cases e
    | inr E9 => rw [ea] at e; cases e; exact aU_E ea
  cases ea : aU S x (fun i => .inl (yB (kY S) i 2)) with
  | inl v =>
    refine R.aload_n dL_law_1730 rfl (by first | rfl | exact rfv_rf _) ?_
    refine R.aload_n dL_law_1731 rfl (by first | rfl | exact rfv_rf _) ?_
    refine R.iload dL_law_1732 rfl ?_
    refine R.iconst (v := nI 1) dL_law_1734 rfl ?_
    refine R.iadd dL_law_1735 ?_
    rw [nI_add9]
    refine R.scrIald dL_law_1736 (nI_pos (by omega)) (by rw [nI_clamp (by omega)]; show _ < mN _ 27 0; rw [h.l27]; omega) ?_
    rw [h.x27, nI_clamp (by omega), ← hx]
    refine R.aload_n dL_law_1737 rfl (by first | rfl | exact rfv_rf _) ?_
    refine cl_L_262 rfl rfl (by first | exact Nat.le_of_ble_eq_true rfl | simp [rf_cat, Value.category]) dL_law_1738 ?_
    refine h_moneyOf hxc h.n15 hE ?_
    rw [ea]
    intro M1 c1 F hm
    have hN1 : mN M1 15 0 = 1 := by rw [(F.1 15 0 (Or.inr (Or.inr (Or.inl rfl)))).2.2.2.2]; exact h.n15
    have m1 := (h.m.frK F).f9 (Fr9_L M1 v.toInt64)
    refine R.istore dL_law_1741 (Nat.le_of_ble_eq_true rfl) (by decide) (by first | rfl | simp [lft, rf_cat]) rfl ?_
    refine R.aload_n dL_law_1743 rfl (by first | rfl | exact rfv_rf _) ?_
    refine R.aload_n dL_law_1744 rfl (by first | rfl | exact rfv_rf _) ?_
    refine R.iload dL_law_1745 rfl ?_
    refine R.iconst (v := nI 1) dL_law_1747 rfl ?_
    refine R.iadd dL_law_1748 ?_
    rw [nI_add9]
    refine R.scrIald dL_law_1749 (nI_pos (by omega)) (by rw [nI_clamp (by omega)]; show _ < mN _ 27 0; rw [show mN (sL M1 15 0 0 v.toInt64) 27 0 = mN M0 27 0 from hm.2.2.2.1.trans h.l27]; omega) ?_
    rw [show mI (sL M1 15 0 0 v.toInt64) 27 0 = mI M0 27 0 from hm.2.2.2.2.trans h.x27, nI_clamp (by omega), ← hx]
    refine cl_L_264 rfl rfl (by first | exact Nat.le_of_ble_eq_true rfl | simp [rf_cat, Value.category]) dL_law_1750 ?_
    refine n_moneyOf m1 (by have := h.t hn; omega) ?_
    rw [ea]
    intro M2 m2 t2 F2
    refine R.istore dL_law_1753 (Nat.le_of_ble_eq_true rfl) (by decide) (by first | rfl | simp [lft, rf_cat]) rfl ?_
    refine R.aload_n dL_law_1755 rfl (by first | rfl | exact rfv_rf _) ?_
    refine cl_L_179 rfl rfl (by first | exact Nat.le_of_ble_eq_true rfl | simp [rf_cat, Value.category]) dL_law_1756 ?_
    refine n_thrown ?_
    rw [t2]
    refine R.iload dL_law_1759 rfl ?_
    refine R.icmp_eq (tgt := 1766) dL_law_1761 (by decide) (fun _ => ?_) (fun c9 => absurd (rfl) c9)
    refine R.iload dL_law_1766 rfl ?_
    refine R.if_ne (tgt := 1783) dL_law_1768 (by decide) (fun c9 => absurd (rfl) c9) (fun _ => ?_)
    refine R.aload_n dL_law_1771 rfl (by first | rfl | exact rfv_rf _) ?_
    refine R.iconst (v := 0) dL_law_1772 rfl ?_
    refine R.lald (i := 0) dL_law_1773 (by decide) (by rw [F2.2.1]; show _ < mN M1 15 0; rw [hN1]; decide) ?_
    rw [show mL M2 15 0 (Int32.toNatClampNeg 0) = v.toInt64 from (congrFun (F2.2.2.2.2 15 0 (by unfold inM; omega)).2.1 0).trans (mLsL9 _ _)]
    refine R.iload dL_law_1774 rfl ?_
    refine R.i2l dL_law_1776 ?_
    refine R.lcmp dL_law_1777 ?_
    refine R.if_eq (tgt := 1783) dL_law_1778 (by decide) (fun _ => ?_) (fun c9 => absurd (lcmp_rf _) c9)
    refine R.goto (tgt := 3039) dL_law_1783 (by decide) ?_
    exact k M2 S p T _ _ _ _ (h.yes c1 F hm (Fr9_L _ _) m2 F2 (Nat.le_refl _) (by omega) (by omega))
  | inr E =>
    refine R.aload_n dL_law_1730 rfl (by first | rfl | exact rfv_rf _) ?_
    refine R.aload_n dL_law_1731 rfl (by first | rfl | exact rfv_rf _) ?_
    refine R.iload dL_law_1732 rfl ?_
    refine R.iconst (v := nI 1) dL_law_1734 rfl ?_
    refine R.iadd dL_law_1735 ?_
    rw [nI_add9]
    refine R.scrIald dL_law_1736 (nI_pos (by omega)) (by rw [nI_clamp (by omega)]; show _ < mN _ 27 0; rw [h.l27]; omega) ?_
    rw [h.x27, nI_clamp (by omega), ← hx]
    refine R.aload_n dL_law_1737 rfl (by first | rfl | exact rfv_rf _) ?_
    refine cl_L_262 rfl rfl (by first | exact Nat.le_of_ble_eq_true rfl | simp [rf_cat, Value.category]) dL_law_1738 ?_
    refine h_moneyOf hxc h.n15 hE ?_
    rw [ea]
    have e1 := hE E (by rw [ea]; rfl)
    subst e1
    show WP _ _ _ _ _ _ _
    refine R.istore dL_law_1741 (Nat.le_of_ble_eq_true rfl) (by decide) (by first | rfl | simp [lft, rf_cat]) rfl ?_
    refine R.aload_n dL_law_1743 rfl (by first | rfl | exact rfv_rf _) ?_
    refine R.aload_n dL_law_1744 rfl (by first | rfl | exact rfv_rf _) ?_
    refine R.iload dL_law_1745 rfl ?_
    refine R.iconst (v := nI 1) dL_law_1747 rfl ?_
    refine R.iadd dL_law_1748 ?_
    rw [nI_add9]
    refine R.scrIald dL_law_1749 (nI_pos (by omega)) (by rw [nI_clamp (by omega)]; show _ < mN _ 27 0; rw [show mN (ax M) 27 0 = mN M0 27 0 from h.l27]; omega) ?_
    rw [show mI (ax M) 27 0 = mI M0 27 0 from h.x27, nI_clamp (by omega), ← hx]
    refine cl_L_264 rfl rfl (by first | exact Nat.le_of_ble_eq_true rfl | simp [rf_cat, Value.category]) dL_law_1750 ?_
    refine n_moneyOf h.m.ax9 (by have := h.t hn; omega) ?_
    rw [ea]
    intro M2 m2 t2 F2
    refine R.istore dL_law_1753 (Nat.le_of_ble_eq_true rfl) (by decide) (by first | rfl | simp [lft, rf_cat]) rfl ?_
    refine R.aload_n dL_law_1755 rfl (by first | rfl | exact rfv_rf _) ?_
    refine cl_L_179 rfl rfl (by first | exact Nat.le_of_ble_eq_true rfl | simp [rf_cat, Value.category]) dL_law_1756 ?_
    refine n_thrown ?_
    rw [t2]
    refine R.iload dL_law_1759 rfl ?_
    refine R.icmp_eq (tgt := 1766) dL_law_1761 (by decide) (fun _ => ?_) (fun c9 => absurd (rfl) c9)
    refine R.iload dL_law_1766 rfl ?_
    refine R.if_ne (tgt := 1783) dL_law_1768 (by decide) (fun _ => ?_) (fun c9 => absurd c9 (by decide))
    refine R.goto (tgt := 3039) dL_law_1783 (by decide) ?_
    exact k M2 S p T _ _ _ _ (h.no m2 F2)
set_option maxHeartbeats 2000000 in
set_option maxRecDepth 8000 in
theorem lw_toleranceOf {d n p T : Nat} {M0 M : Mem} {S : KS} {u6 u7 u8 u9 : Value} {Q : Out → Mem → Prop} (h : LW M0 M S p T n) (hn : n < 512) (hlen : 6 * n + 6 ≤ mN M0 27 0) (k : KLW d M0 n Q) : WP mL_law (d + 22) 1786 [.ref (rf 27 0), .ref (rf 10 0), .ref (rf 11 0), .ref (rf 15 0), .ref (rf 16 0), .int (nI (6 * n)), u6, u7, u8, u9] [] M Q := by
  obtain ⟨x, hx⟩ : ∃ x, x = mI M0 27 0 (6 * n + 1) := ⟨_, rfl⟩
  have hxc : WPc (d + 20) mX12_toleranceOf [.ref (rf 10 0), .int x] M (OU9 M (anR S p (aU S x fun i => .inl (yB (kY S) i 3)))) := c_toleranceOf h.c (QA.ou h.c)
  have hE : ∀ E, anR S p (aU S x fun i => .inl (yB (kY S) i 3)) = .inl E → E = eI := fun E e => by
    cases ea : aU S x (fun i => .inl (yB (kY S) i 3)) with
    | inl v => rw [ea] at e; cases e
    | inr E9 => rw [ea] at e; cases e; exact aU_E ea
  cases ea : aU S x (fun i => .inl (yB (kY S) i 3)) with
  | inl v =>
    refine R.aload_n dL_law_1786 rfl (by first | rfl | exact rfv_rf _) ?_
    refine R.aload_n dL_law_1787 rfl (by first | rfl | exact rfv_rf _) ?_
    refine R.iload dL_law_1788 rfl ?_
    refine R.iconst (v := nI 1) dL_law_1790 rfl ?_
    refine R.iadd dL_law_1791 ?_
    rw [nI_add9]
    refine R.scrIald dL_law_1792 (nI_pos (by omega)) (by rw [nI_clamp (by omega)]; show _ < mN _ 27 0; rw [h.l27]; omega) ?_
    rw [h.x27, nI_clamp (by omega), ← hx]
    refine R.aload_n dL_law_1793 rfl (by first | rfl | exact rfv_rf _) ?_
    refine cl_L_265 rfl rfl (by first | exact Nat.le_of_ble_eq_true rfl | simp [rf_cat, Value.category]) dL_law_1794 ?_
    refine h_toleranceOf hxc h.n15 hE ?_
    rw [ea]
    intro M1 c1 F hm
    have hN1 : mN M1 15 0 = 1 := by rw [(F.1 15 0 (Or.inr (Or.inr (Or.inl rfl)))).2.2.2.2]; exact h.n15
    have m1 := (h.m.frK F).f9 (Fr9_L M1 v.toInt64)
    refine R.istore dL_law_1797 (Nat.le_of_ble_eq_true rfl) (by decide) (by first | rfl | simp [lft, rf_cat]) rfl ?_
    refine R.aload_n dL_law_1799 rfl (by first | rfl | exact rfv_rf _) ?_
    refine R.aload_n dL_law_1800 rfl (by first | rfl | exact rfv_rf _) ?_
    refine R.iload dL_law_1801 rfl ?_
    refine R.iconst (v := nI 1) dL_law_1803 rfl ?_
    refine R.iadd dL_law_1804 ?_
    rw [nI_add9]
    refine R.scrIald dL_law_1805 (nI_pos (by omega)) (by rw [nI_clamp (by omega)]; show _ < mN _ 27 0; rw [show mN (sL M1 15 0 0 v.toInt64) 27 0 = mN M0 27 0 from hm.2.2.2.1.trans h.l27]; omega) ?_
    rw [show mI (sL M1 15 0 0 v.toInt64) 27 0 = mI M0 27 0 from hm.2.2.2.2.trans h.x27, nI_clamp (by omega), ← hx]
    refine cl_L_267 rfl rfl (by first | exact Nat.le_of_ble_eq_true rfl | simp [rf_cat, Value.category]) dL_law_1806 ?_
    refine n_toleranceOf m1 (by have := h.t hn; omega) ?_
    rw [ea]
    intro M2 m2 t2 F2
    refine R.istore dL_law_1809 (Nat.le_of_ble_eq_true rfl) (by decide) (by first | rfl | simp [lft, rf_cat]) rfl ?_
    refine R.aload_n dL_law_1811 rfl (by first | rfl | exact rfv_rf _) ?_
    refine cl_L_179 rfl rfl (by first | exact Nat.le_of_ble_eq_true rfl | simp [rf_cat, Value.category]) dL_law_1812 ?_
    refine n_thrown ?_
    rw [t2]
    refine R.iload dL_law_1815 rfl ?_
    refine R.icmp_eq (tgt := 1822) dL_law_1817 (by decide) (fun _ => ?_) (fun c9 => absurd (rfl) c9)
    refine R.iload dL_law_1822 rfl ?_
    refine R.if_ne (tgt := 1839) dL_law_1824 (by decide) (fun c9 => absurd (rfl) c9) (fun _ => ?_)
    refine R.aload_n dL_law_1827 rfl (by first | rfl | exact rfv_rf _) ?_
    refine R.iconst (v := 0) dL_law_1828 rfl ?_
    refine R.lald (i := 0) dL_law_1829 (by decide) (by rw [F2.2.1]; show _ < mN M1 15 0; rw [hN1]; decide) ?_
    rw [show mL M2 15 0 (Int32.toNatClampNeg 0) = v.toInt64 from (congrFun (F2.2.2.2.2 15 0 (by unfold inM; omega)).2.1 0).trans (mLsL9 _ _)]
    refine R.iload dL_law_1830 rfl ?_
    refine R.i2l dL_law_1832 ?_
    refine R.lcmp dL_law_1833 ?_
    refine R.if_eq (tgt := 1839) dL_law_1834 (by decide) (fun _ => ?_) (fun c9 => absurd (lcmp_rf _) c9)
    refine R.goto (tgt := 3039) dL_law_1839 (by decide) ?_
    exact k M2 S p T _ _ _ _ (h.yes c1 F hm (Fr9_L _ _) m2 F2 (Nat.le_refl _) (by omega) (by omega))
  | inr E =>
    refine R.aload_n dL_law_1786 rfl (by first | rfl | exact rfv_rf _) ?_
    refine R.aload_n dL_law_1787 rfl (by first | rfl | exact rfv_rf _) ?_
    refine R.iload dL_law_1788 rfl ?_
    refine R.iconst (v := nI 1) dL_law_1790 rfl ?_
    refine R.iadd dL_law_1791 ?_
    rw [nI_add9]
    refine R.scrIald dL_law_1792 (nI_pos (by omega)) (by rw [nI_clamp (by omega)]; show _ < mN _ 27 0; rw [h.l27]; omega) ?_
    rw [h.x27, nI_clamp (by omega), ← hx]
    refine R.aload_n dL_law_1793 rfl (by first | rfl | exact rfv_rf _) ?_
    refine cl_L_265 rfl rfl (by first | exact Nat.le_of_ble_eq_true rfl | simp [rf_cat, Value.category]) dL_law_1794 ?_
    refine h_toleranceOf hxc h.n15 hE ?_
    rw [ea]
    have e1 := hE E (by rw [ea]; rfl)
    subst e1
    show WP _ _ _ _ _ _ _
    refine R.istore dL_law_1797 (Nat.le_of_ble_eq_true rfl) (by decide) (by first | rfl | simp [lft, rf_cat]) rfl ?_
    refine R.aload_n dL_law_1799 rfl (by first | rfl | exact rfv_rf _) ?_
    refine R.aload_n dL_law_1800 rfl (by first | rfl | exact rfv_rf _) ?_
    refine R.iload dL_law_1801 rfl ?_
    refine R.iconst (v := nI 1) dL_law_1803 rfl ?_
    refine R.iadd dL_law_1804 ?_
    rw [nI_add9]
    refine R.scrIald dL_law_1805 (nI_pos (by omega)) (by rw [nI_clamp (by omega)]; show _ < mN _ 27 0; rw [show mN (ax M) 27 0 = mN M0 27 0 from h.l27]; omega) ?_
    rw [show mI (ax M) 27 0 = mI M0 27 0 from h.x27, nI_clamp (by omega), ← hx]
    refine cl_L_267 rfl rfl (by first | exact Nat.le_of_ble_eq_true rfl | simp [rf_cat, Value.category]) dL_law_1806 ?_
    refine n_toleranceOf h.m.ax9 (by have := h.t hn; omega) ?_
    rw [ea]
    intro M2 m2 t2 F2
    refine R.istore dL_law_1809 (Nat.le_of_ble_eq_true rfl) (by decide) (by first | rfl | simp [lft, rf_cat]) rfl ?_
    refine R.aload_n dL_law_1811 rfl (by first | rfl | exact rfv_rf _) ?_
    refine cl_L_179 rfl rfl (by first | exact Nat.le_of_ble_eq_true rfl | simp [rf_cat, Value.category]) dL_law_1812 ?_
    refine n_thrown ?_
    rw [t2]
    refine R.iload dL_law_1815 rfl ?_
    refine R.icmp_eq (tgt := 1822) dL_law_1817 (by decide) (fun _ => ?_) (fun c9 => absurd (rfl) c9)
    refine R.iload dL_law_1822 rfl ?_
    refine R.if_ne (tgt := 1839) dL_law_1824 (by decide) (fun _ => ?_) (fun c9 => absurd c9 (by decide))
    refine R.goto (tgt := 3039) dL_law_1839 (by decide) ?_
    exact k M2 S p T _ _ _ _ (h.no m2 F2)
set_option maxHeartbeats 2000000 in
set_option maxRecDepth 8000 in
theorem lw_trustOf {d n p T : Nat} {M0 M : Mem} {S : KS} {u6 u7 u8 u9 : Value} {Q : Out → Mem → Prop} (h : LW M0 M S p T n) (hn : n < 512) (hlen : 6 * n + 6 ≤ mN M0 27 0) (k : KLW d M0 n Q) : WP mL_law (d + 22) 1842 [.ref (rf 27 0), .ref (rf 10 0), .ref (rf 11 0), .ref (rf 15 0), .ref (rf 16 0), .int (nI (6 * n)), u6, u7, u8, u9] [] M Q := by
  obtain ⟨x, hx⟩ : ∃ x, x = mI M0 27 0 (6 * n + 1) := ⟨_, rfl⟩
  have hxc : WPc (d + 20) mX12_trustOf [.ref (rf 10 0), .int x] M (OU9 M (anR S p (aU S x fun i => .inl (yB (kY S) i 4)))) := c_trustOf h.c (QA.ou h.c)
  have hE : ∀ E, anR S p (aU S x fun i => .inl (yB (kY S) i 4)) = .inl E → E = eI := fun E e => by
    cases ea : aU S x (fun i => .inl (yB (kY S) i 4)) with
    | inl v => rw [ea] at e; cases e
    | inr E9 => rw [ea] at e; cases e; exact aU_E ea
  cases ea : aU S x (fun i => .inl (yB (kY S) i 4)) with
  | inl v =>
    refine R.aload_n dL_law_1842 rfl (by first | rfl | exact rfv_rf _) ?_
    refine R.aload_n dL_law_1843 rfl (by first | rfl | exact rfv_rf _) ?_
    refine R.iload dL_law_1844 rfl ?_
    refine R.iconst (v := nI 1) dL_law_1846 rfl ?_
    refine R.iadd dL_law_1847 ?_
    rw [nI_add9]
    refine R.scrIald dL_law_1848 (nI_pos (by omega)) (by rw [nI_clamp (by omega)]; show _ < mN _ 27 0; rw [h.l27]; omega) ?_
    rw [h.x27, nI_clamp (by omega), ← hx]
    refine R.aload_n dL_law_1849 rfl (by first | rfl | exact rfv_rf _) ?_
    refine cl_L_268 rfl rfl (by first | exact Nat.le_of_ble_eq_true rfl | simp [rf_cat, Value.category]) dL_law_1850 ?_
    refine h_trustOf hxc h.n15 hE ?_
    rw [ea]
    intro M1 c1 F hm
    have hN1 : mN M1 15 0 = 1 := by rw [(F.1 15 0 (Or.inr (Or.inr (Or.inl rfl)))).2.2.2.2]; exact h.n15
    have m1 := (h.m.frK F).f9 (Fr9_L M1 v.toInt64)
    refine R.istore dL_law_1853 (Nat.le_of_ble_eq_true rfl) (by decide) (by first | rfl | simp [lft, rf_cat]) rfl ?_
    refine R.aload_n dL_law_1855 rfl (by first | rfl | exact rfv_rf _) ?_
    refine R.aload_n dL_law_1856 rfl (by first | rfl | exact rfv_rf _) ?_
    refine R.iload dL_law_1857 rfl ?_
    refine R.iconst (v := nI 1) dL_law_1859 rfl ?_
    refine R.iadd dL_law_1860 ?_
    rw [nI_add9]
    refine R.scrIald dL_law_1861 (nI_pos (by omega)) (by rw [nI_clamp (by omega)]; show _ < mN _ 27 0; rw [show mN (sL M1 15 0 0 v.toInt64) 27 0 = mN M0 27 0 from hm.2.2.2.1.trans h.l27]; omega) ?_
    rw [show mI (sL M1 15 0 0 v.toInt64) 27 0 = mI M0 27 0 from hm.2.2.2.2.trans h.x27, nI_clamp (by omega), ← hx]
    refine cl_L_270 rfl rfl (by first | exact Nat.le_of_ble_eq_true rfl | simp [rf_cat, Value.category]) dL_law_1862 ?_
    refine n_trustOf m1 (by have := h.t hn; omega) ?_
    rw [ea]
    intro M2 m2 t2 F2
    refine R.istore dL_law_1865 (Nat.le_of_ble_eq_true rfl) (by decide) (by first | rfl | simp [lft, rf_cat]) rfl ?_
    refine R.aload_n dL_law_1867 rfl (by first | rfl | exact rfv_rf _) ?_
    refine cl_L_179 rfl rfl (by first | exact Nat.le_of_ble_eq_true rfl | simp [rf_cat, Value.category]) dL_law_1868 ?_
    refine n_thrown ?_
    rw [t2]
    refine R.iload dL_law_1871 rfl ?_
    refine R.icmp_eq (tgt := 1878) dL_law_1873 (by decide) (fun _ => ?_) (fun c9 => absurd (rfl) c9)
    refine R.iload dL_law_1878 rfl ?_
    refine R.if_ne (tgt := 1895) dL_law_1880 (by decide) (fun c9 => absurd (rfl) c9) (fun _ => ?_)
    refine R.aload_n dL_law_1883 rfl (by first | rfl | exact rfv_rf _) ?_
    refine R.iconst (v := 0) dL_law_1884 rfl ?_
    refine R.lald (i := 0) dL_law_1885 (by decide) (by rw [F2.2.1]; show _ < mN M1 15 0; rw [hN1]; decide) ?_
    rw [show mL M2 15 0 (Int32.toNatClampNeg 0) = v.toInt64 from (congrFun (F2.2.2.2.2 15 0 (by unfold inM; omega)).2.1 0).trans (mLsL9 _ _)]
    refine R.iload dL_law_1886 rfl ?_
    refine R.i2l dL_law_1888 ?_
    refine R.lcmp dL_law_1889 ?_
    refine R.if_eq (tgt := 1895) dL_law_1890 (by decide) (fun _ => ?_) (fun c9 => absurd (lcmp_rf _) c9)
    refine R.goto (tgt := 3039) dL_law_1895 (by decide) ?_
    exact k M2 S p T _ _ _ _ (h.yes c1 F hm (Fr9_L _ _) m2 F2 (Nat.le_refl _) (by omega) (by omega))
  | inr E =>
    refine R.aload_n dL_law_1842 rfl (by first | rfl | exact rfv_rf _) ?_
    refine R.aload_n dL_law_1843 rfl (by first | rfl | exact rfv_rf _) ?_
    refine R.iload dL_law_1844 rfl ?_
    refine R.iconst (v := nI 1) dL_law_1846 rfl ?_
    refine R.iadd dL_law_1847 ?_
    rw [nI_add9]
    refine R.scrIald dL_law_1848 (nI_pos (by omega)) (by rw [nI_clamp (by omega)]; show _ < mN _ 27 0; rw [h.l27]; omega) ?_
    rw [h.x27, nI_clamp (by omega), ← hx]
    refine R.aload_n dL_law_1849 rfl (by first | rfl | exact rfv_rf _) ?_
    refine cl_L_268 rfl rfl (by first | exact Nat.le_of_ble_eq_true rfl | simp [rf_cat, Value.category]) dL_law_1850 ?_
    refine h_trustOf hxc h.n15 hE ?_
    rw [ea]
    have e1 := hE E (by rw [ea]; rfl)
    subst e1
    show WP _ _ _ _ _ _ _
    refine R.istore dL_law_1853 (Nat.le_of_ble_eq_true rfl) (by decide) (by first | rfl | simp [lft, rf_cat]) rfl ?_
    refine R.aload_n dL_law_1855 rfl (by first | rfl | exact rfv_rf _) ?_
    refine R.aload_n dL_law_1856 rfl (by first | rfl | exact rfv_rf _) ?_
    refine R.iload dL_law_1857 rfl ?_
    refine R.iconst (v := nI 1) dL_law_1859 rfl ?_
    refine R.iadd dL_law_1860 ?_
    rw [nI_add9]
    refine R.scrIald dL_law_1861 (nI_pos (by omega)) (by rw [nI_clamp (by omega)]; show _ < mN _ 27 0; rw [show mN (ax M) 27 0 = mN M0 27 0 from h.l27]; omega) ?_
    rw [show mI (ax M) 27 0 = mI M0 27 0 from h.x27, nI_clamp (by omega), ← hx]
    refine cl_L_270 rfl rfl (by first | exact Nat.le_of_ble_eq_true rfl | simp [rf_cat, Value.category]) dL_law_1862 ?_
    refine n_trustOf h.m.ax9 (by have := h.t hn; omega) ?_
    rw [ea]
    intro M2 m2 t2 F2
    refine R.istore dL_law_1865 (Nat.le_of_ble_eq_true rfl) (by decide) (by first | rfl | simp [lft, rf_cat]) rfl ?_
    refine R.aload_n dL_law_1867 rfl (by first | rfl | exact rfv_rf _) ?_
    refine cl_L_179 rfl rfl (by first | exact Nat.le_of_ble_eq_true rfl | simp [rf_cat, Value.category]) dL_law_1868 ?_
    refine n_thrown ?_
    rw [t2]
    refine R.iload dL_law_1871 rfl ?_
    refine R.icmp_eq (tgt := 1878) dL_law_1873 (by decide) (fun _ => ?_) (fun c9 => absurd (rfl) c9)
    refine R.iload dL_law_1878 rfl ?_
    refine R.if_ne (tgt := 1895) dL_law_1880 (by decide) (fun _ => ?_) (fun c9 => absurd c9 (by decide))
    refine R.goto (tgt := 3039) dL_law_1895 (by decide) ?_
    exact k M2 S p T _ _ _ _ (h.no m2 F2)
set_option maxHeartbeats 2000000 in
set_option maxRecDepth 8000 in
theorem lw_purchasesOf {d n p T : Nat} {M0 M : Mem} {S : KS} {u6 u7 u8 u9 : Value} {Q : Out → Mem → Prop} (h : LW M0 M S p T n) (hn : n < 512) (hlen : 6 * n + 6 ≤ mN M0 27 0) (k : KLW d M0 n Q) : WP mL_law (d + 22) 1898 [.ref (rf 27 0), .ref (rf 10 0), .ref (rf 11 0), .ref (rf 15 0), .ref (rf 16 0), .int (nI (6 * n)), u6, u7, u8, u9] [] M Q := by
  obtain ⟨x, hx⟩ : ∃ x, x = mI M0 27 0 (6 * n + 1) := ⟨_, rfl⟩
  have hxc : WPc (d + 20) mX12_purchasesOf [.ref (rf 10 0), .int x] M (OU9 M (anR S p (aU S x fun i => .inl (yB (kY S) i 5)))) := c_purchasesOf h.c (QA.ou h.c)
  have hE : ∀ E, anR S p (aU S x fun i => .inl (yB (kY S) i 5)) = .inl E → E = eI := fun E e => by
    cases ea : aU S x (fun i => .inl (yB (kY S) i 5)) with
    | inl v => rw [ea] at e; cases e
    | inr E9 => rw [ea] at e; cases e; exact aU_E ea
  cases ea : aU S x (fun i => .inl (yB (kY S) i 5)) with
  | inl v =>
    refine R.aload_n dL_law_1898 rfl (by first | rfl | exact rfv_rf _) ?_
    refine R.aload_n dL_law_1899 rfl (by first | rfl | exact rfv_rf _) ?_
    refine R.iload dL_law_1900 rfl ?_
    refine R.iconst (v := nI 1) dL_law_1902 rfl ?_
    refine R.iadd dL_law_1903 ?_
    rw [nI_add9]
    refine R.scrIald dL_law_1904 (nI_pos (by omega)) (by rw [nI_clamp (by omega)]; show _ < mN _ 27 0; rw [h.l27]; omega) ?_
    rw [h.x27, nI_clamp (by omega), ← hx]
    refine R.aload_n dL_law_1905 rfl (by first | rfl | exact rfv_rf _) ?_
    refine cl_L_271 rfl rfl (by first | exact Nat.le_of_ble_eq_true rfl | simp [rf_cat, Value.category]) dL_law_1906 ?_
    refine h_purchasesOf hxc h.n15 hE ?_
    rw [ea]
    intro M1 c1 F hm
    have hN1 : mN M1 15 0 = 1 := by rw [(F.1 15 0 (Or.inr (Or.inr (Or.inl rfl)))).2.2.2.2]; exact h.n15
    have m1 := (h.m.frK F).f9 (Fr9_L M1 v.toInt64)
    refine R.istore dL_law_1909 (Nat.le_of_ble_eq_true rfl) (by decide) (by first | rfl | simp [lft, rf_cat]) rfl ?_
    refine R.aload_n dL_law_1911 rfl (by first | rfl | exact rfv_rf _) ?_
    refine R.aload_n dL_law_1912 rfl (by first | rfl | exact rfv_rf _) ?_
    refine R.iload dL_law_1913 rfl ?_
    refine R.iconst (v := nI 1) dL_law_1915 rfl ?_
    refine R.iadd dL_law_1916 ?_
    rw [nI_add9]
    refine R.scrIald dL_law_1917 (nI_pos (by omega)) (by rw [nI_clamp (by omega)]; show _ < mN _ 27 0; rw [show mN (sL M1 15 0 0 v.toInt64) 27 0 = mN M0 27 0 from hm.2.2.2.1.trans h.l27]; omega) ?_
    rw [show mI (sL M1 15 0 0 v.toInt64) 27 0 = mI M0 27 0 from hm.2.2.2.2.trans h.x27, nI_clamp (by omega), ← hx]
    refine cl_L_273 rfl rfl (by first | exact Nat.le_of_ble_eq_true rfl | simp [rf_cat, Value.category]) dL_law_1918 ?_
    refine n_purchasesOf m1 (by have := h.t hn; omega) ?_
    rw [ea]
    intro M2 m2 t2 F2
    refine R.istore dL_law_1921 (Nat.le_of_ble_eq_true rfl) (by decide) (by first | rfl | simp [lft, rf_cat]) rfl ?_
    refine R.aload_n dL_law_1923 rfl (by first | rfl | exact rfv_rf _) ?_
    refine cl_L_179 rfl rfl (by first | exact Nat.le_of_ble_eq_true rfl | simp [rf_cat, Value.category]) dL_law_1924 ?_
    refine n_thrown ?_
    rw [t2]
    refine R.iload dL_law_1927 rfl ?_
    refine R.icmp_eq (tgt := 1934) dL_law_1929 (by decide) (fun _ => ?_) (fun c9 => absurd (rfl) c9)
    refine R.iload dL_law_1934 rfl ?_
    refine R.if_ne (tgt := 1951) dL_law_1936 (by decide) (fun c9 => absurd (rfl) c9) (fun _ => ?_)
    refine R.aload_n dL_law_1939 rfl (by first | rfl | exact rfv_rf _) ?_
    refine R.iconst (v := 0) dL_law_1940 rfl ?_
    refine R.lald (i := 0) dL_law_1941 (by decide) (by rw [F2.2.1]; show _ < mN M1 15 0; rw [hN1]; decide) ?_
    rw [show mL M2 15 0 (Int32.toNatClampNeg 0) = v.toInt64 from (congrFun (F2.2.2.2.2 15 0 (by unfold inM; omega)).2.1 0).trans (mLsL9 _ _)]
    refine R.iload dL_law_1942 rfl ?_
    refine R.i2l dL_law_1944 ?_
    refine R.lcmp dL_law_1945 ?_
    refine R.if_eq (tgt := 1951) dL_law_1946 (by decide) (fun _ => ?_) (fun c9 => absurd (lcmp_rf _) c9)
    refine R.goto (tgt := 3039) dL_law_1951 (by decide) ?_
    exact k M2 S p T _ _ _ _ (h.yes c1 F hm (Fr9_L _ _) m2 F2 (Nat.le_refl _) (by omega) (by omega))
  | inr E =>
    refine R.aload_n dL_law_1898 rfl (by first | rfl | exact rfv_rf _) ?_
    refine R.aload_n dL_law_1899 rfl (by first | rfl | exact rfv_rf _) ?_
    refine R.iload dL_law_1900 rfl ?_
    refine R.iconst (v := nI 1) dL_law_1902 rfl ?_
    refine R.iadd dL_law_1903 ?_
    rw [nI_add9]
    refine R.scrIald dL_law_1904 (nI_pos (by omega)) (by rw [nI_clamp (by omega)]; show _ < mN _ 27 0; rw [h.l27]; omega) ?_
    rw [h.x27, nI_clamp (by omega), ← hx]
    refine R.aload_n dL_law_1905 rfl (by first | rfl | exact rfv_rf _) ?_
    refine cl_L_271 rfl rfl (by first | exact Nat.le_of_ble_eq_true rfl | simp [rf_cat, Value.category]) dL_law_1906 ?_
    refine h_purchasesOf hxc h.n15 hE ?_
    rw [ea]
    have e1 := hE E (by rw [ea]; rfl)
    subst e1
    show WP _ _ _ _ _ _ _
    refine R.istore dL_law_1909 (Nat.le_of_ble_eq_true rfl) (by decide) (by first | rfl | simp [lft, rf_cat]) rfl ?_
    refine R.aload_n dL_law_1911 rfl (by first | rfl | exact rfv_rf _) ?_
    refine R.aload_n dL_law_1912 rfl (by first | rfl | exact rfv_rf _) ?_
    refine R.iload dL_law_1913 rfl ?_
    refine R.iconst (v := nI 1) dL_law_1915 rfl ?_
    refine R.iadd dL_law_1916 ?_
    rw [nI_add9]
    refine R.scrIald dL_law_1917 (nI_pos (by omega)) (by rw [nI_clamp (by omega)]; show _ < mN _ 27 0; rw [show mN (ax M) 27 0 = mN M0 27 0 from h.l27]; omega) ?_
    rw [show mI (ax M) 27 0 = mI M0 27 0 from h.x27, nI_clamp (by omega), ← hx]
    refine cl_L_273 rfl rfl (by first | exact Nat.le_of_ble_eq_true rfl | simp [rf_cat, Value.category]) dL_law_1918 ?_
    refine n_purchasesOf h.m.ax9 (by have := h.t hn; omega) ?_
    rw [ea]
    intro M2 m2 t2 F2
    refine R.istore dL_law_1921 (Nat.le_of_ble_eq_true rfl) (by decide) (by first | rfl | simp [lft, rf_cat]) rfl ?_
    refine R.aload_n dL_law_1923 rfl (by first | rfl | exact rfv_rf _) ?_
    refine cl_L_179 rfl rfl (by first | exact Nat.le_of_ble_eq_true rfl | simp [rf_cat, Value.category]) dL_law_1924 ?_
    refine n_thrown ?_
    rw [t2]
    refine R.iload dL_law_1927 rfl ?_
    refine R.icmp_eq (tgt := 1934) dL_law_1929 (by decide) (fun _ => ?_) (fun c9 => absurd (rfl) c9)
    refine R.iload dL_law_1934 rfl ?_
    refine R.if_ne (tgt := 1951) dL_law_1936 (by decide) (fun _ => ?_) (fun c9 => absurd c9 (by decide))
    refine R.goto (tgt := 3039) dL_law_1951 (by decide) ?_
    exact k M2 S p T _ _ _ _ (h.no m2 F2)
