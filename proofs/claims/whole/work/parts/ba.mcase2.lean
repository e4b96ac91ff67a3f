/-! the law's getters with two arguments -/
theorem aCU_E {S : KS} {x z : Int32} {f : Nat → Nat → Int32} {E : String} (h : aC S x (fun i => aU S z fun b => .inl (f i b)) = .inr E) : E = eI := by
  unfold aC at h
  split at h
  · cases h; rfl
  · exact aU_E h
set_option maxHeartbeats 2000000 in
set_option maxRecDepth 8000 in
theorem lw_crateNameByte {d n p T : Nat} {M0 M : Mem} {S : KS} {u6 u7 u8 u9 : Value} {Q : Out → Mem → Prop} (h : LW M0 M S p T n) (hn : n < 512) (hlen : 6 * n + 6 ≤ mN M0 27 0) (k : KLW d M0 n Q) : WP mL_law (d + 22) 488 [.ref (rf 27 0), .ref (rf 10 0), .ref (rf 11 0), .ref (rf 15 0), .ref (rf 16 0), .int (nI (6 * n)), u6, u7, u8, u9] [] M Q := by
  obtain ⟨x, hx⟩ : ∃ x, x = mI M0 27 0 (6 * n + 1) := ⟨_, rfl⟩
  obtain ⟨z, hz⟩ : ∃ z, z = mI M0 27 0 (6 * n + 2) := ⟨_, rfl⟩
  have hxc : WPc (d + 20) mX12_crateNameByte [.ref (rf 10 0), .int x, .int z] M (OU9 M (anR S p (aC S x fun i => .inl (ltF (yC (kY S) i 1) z)))) := c_crateNameByte h.c (QA.ou h.c)
  have hE : ∀ E, anR S p (aC S x fun i => .inl (ltF (yC (kY S) i 1) z)) = .inl E → E = eI := fun E e => by
    cases ea : aC S x (fun i => .inl (ltF (yC (kY S) i 1) z)) with
    | inl v => rw [ea] at e; cases e
    | inr E9 => rw [ea] at e; cases e; first | exact aC_E ea | exact aCU_E ea
  cases ea : aC S x (fun i => .inl (ltF (yC (kY S) i 1) z)) with
  | inl v =>
    refine R.aload_n dL_law_488 rfl (by first | rfl | exact rfv_rf _) ?_
    refine R.aload_n dL_law_489 rfl (by first | rfl | exact rfv_rf _) ?_
    refine R.iload dL_law_490 rfl ?_
    refine R.iconst (v := nI 1) dL_law_492 rfl ?_
    refine R.iadd dL_law_493 ?_
    rw [nI_add9]
    refine R.scrIald dL_law_494 (nI_pos (by omega)) (by rw [nI_clamp (by omega)]; show _ < mN _ 27 0; rw [h.l27]; omega) ?_
    rw [h.x27, nI_clamp (by omega), ← hx]
    refine R.aload_n dL_law_495 rfl (by first | rfl | exact rfv_rf _) ?_
    refine R.iload dL_law_496 rfl ?_
    refine R.iconst (v := nI 2) dL_law_498 rfl ?_
    refine R.iadd dL_law_499 ?_
    rw [nI_add9]
    refine R.scrIald dL_law_500 (nI_pos (by omega)) (by rw [nI_clamp (by omega)]; show _ < mN _ 27 0; rw [h.l27]; omega) ?_
    rw [h.x27, nI_clamp (by omega), ← hz]
    refine R.aload_n dL_law_501 rfl (by first | rfl | exact rfv_rf _) ?_
    refine cl_L_173 rfl rfl (by first | exact Nat.le_of_ble_eq_true rfl | simp [rf_cat, Value.category]) dL_law_502 ?_
    refine h_crateNameByte hxc h.n15 hE ?_
    rw [ea]
    intro M1 c1 F hm
    have hN1 : mN M1 15 0 = 1 := by rw [(F.1 15 0 (Or.inr (Or.inr (Or.inl rfl)))).2.2.2.2]; exact h.n15
    have m1 := (h.m.frK F).f9 (Fr9_L M1 v.toInt64)
    refine R.istore dL_law_505 (Nat.le_of_ble_eq_true rfl) (by decide) (by first | rfl | simp [lft, rf_cat]) rfl ?_
    refine R.aload_n dL_law_507 rfl (by first | rfl | exact rfv_rf _) ?_
    refine R.aload_n dL_law_508 rfl (by first | rfl | exact rfv_rf _) ?_
    refine R.iload dL_law_509 rfl ?_
    refine R.iconst (v := nI 1) dL_law_511 rfl ?_
    refine R.iadd dL_law_512 ?_
    rw [nI_add9]
    refine R.scrIald dL_law_513 (nI_pos (by omega)) (by rw [nI_clamp (by omega)]; show _ < mN _ 27 0; rw [show mN (sL M1 15 0 0 v.toInt64) 27 0 = mN M0 27 0 from hm.2.2.2.1.trans h.l27]; omega) ?_
    rw [show mI (sL M1 15 0 0 v.toInt64) 27 0 = mI M0 27 0 from hm.2.2.2.2.trans h.x27, nI_clamp (by omega), ← hx]
    refine R.aload_n dL_law_514 rfl (by first | rfl | exact rfv_rf _) ?_
    refine R.iload dL_law_515 rfl ?_
    refine R.iconst (v := nI 2) dL_law_517 rfl ?_
    refine R.iadd dL_law_518 ?_
    rw [nI_add9]
    refine R.scrIald dL_law_519 (nI_pos (by omega)) (by rw [nI_clamp (by omega)]; show _ < mN _ 27 0; rw [show mN (sL M1 15 0 0 v.toInt64) 27 0 = mN M0 27 0 from hm.2.2.2.1.trans h.l27]; omega) ?_
    rw [show mI (sL M1 15 0 0 v.toInt64) 27 0 = mI M0 27 0 from hm.2.2.2.2.trans h.x27, nI_clamp (by omega), ← hz]
    refine cl_L_178 rfl rfl (by first | exact Nat.le_of_ble_eq_true rfl | simp [rf_cat, Value.category]) dL_law_520 ?_
    refine n_crateNameByte m1 (by have := h.t hn; omega) ?_
    rw [ea]
    intro M2 m2 t2 F2
    refine R.istore dL_law_523 (Nat.le_of_ble_eq_true rfl) (by decide) (by first | rfl | simp [lft, rf_cat]) rfl ?_
    refine R.aload_n dL_law_525 rfl (by first | rfl | exact rfv_rf _) ?_
    refine cl_L_179 rfl rfl (by first | exact Nat.le_of_ble_eq_true rfl | simp [rf_cat, Value.category]) dL_law_526 ?_
    refine n_thrown ?_
    rw [t2]
    refine R.iload dL_law_529 rfl ?_
    refine R.icmp_eq (tgt := 536) dL_law_531 (by decide) (fun _ => ?_) (fun c9 => absurd (rfl) c9)
    refine R.iload dL_law_536 rfl ?_
    refine R.if_ne (tgt := 553) dL_law_538 (by decide) (fun c9 => absurd (rfl) c9) (fun _ => ?_)
    refine R.aload_n dL_law_541 rfl (by first | rfl | exact rfv_rf _) ?_
    refine R.iconst (v := 0) dL_law_542 rfl ?_
    refine R.lald (i := 0) dL_law_543 (by decide) (by rw [F2.2.1]; show _ < mN M1 15 0; rw [hN1]; decide) ?_
    rw [show mL M2 15 0 (Int32.toNatClampNeg 0) = v.toInt64 from (congrFun (F2.2.2.2.2 15 0 (by unfold inM; omega)).2.1 0).trans (mLsL9 _ _)]
    refine R.iload dL_law_544 rfl ?_
    refine R.i2l dL_law_546 ?_
    refine R.lcmp dL_law_547 ?_
    refine R.if_eq (tgt := 553) dL_law_548 (by decide) (fun _ => ?_) (fun c9 => absurd (lcmp_rf _) c9)
    refine R.goto (tgt := 3039) dL_law_553 (by decide) ?_
    exact k M2 S p T _ _ _ _ (h.yes c1 F hm (Fr9_L _ _) m2 F2 (Nat.le_refl _) (by omega) (by omega))
  | inr E =>
    refine R.aload_n dL_law_488 rfl (by first | rfl | exact rfv_rf _) ?_
    refine R.aload_n dL_law_489 rfl (by first | rfl | exact rfv_rf _) ?_
    refine R.iload dL_law_490 rfl ?_
    refine R.iconst (v := nI 1) dL_law_492 rfl ?_
    refine R.iadd dL_law_493 ?_
    rw [nI_add9]
    refine R.scrIald dL_law_494 (nI_pos (by omega)) (by rw [nI_clamp (by omega)]; show _ < mN _ 27 0; rw [h.l27]; omega) ?_
    rw [h.x27, nI_clamp (by omega), ← hx]
    refine R.aload_n dL_law_495 rfl (by first | rfl | exact rfv_rf _) ?_
    refine R.iload dL_law_496 rfl ?_
    refine R.iconst (v := nI 2) dL_law_498 rfl ?_
    refine R.iadd dL_law_499 ?_
    rw [nI_add9]
    refine R.scrIald dL_law_500 (nI_pos (by omega)) (by rw [nI_clamp (by omega)]; show _ < mN _ 27 0; rw [h.l27]; omega) ?_
    rw [h.x27, nI_clamp (by omega), ← hz]
    refine R.aload_n dL_law_501 rfl (by first | rfl | exact rfv_rf _) ?_
    refine cl_L_173 rfl rfl (by first | exact Nat.le_of_ble_eq_true rfl | simp [rf_cat, Value.category]) dL_law_502 ?_
    refine h_crateNameByte hxc h.n15 hE ?_
    rw [ea]
    have e1 := hE E (by rw [ea]; rfl)
    subst e1
    show WP _ _ _ _ _ _ _
    refine R.istore dL_law_505 (Nat.le_of_ble_eq_true rfl) (by decide) (by first | rfl | simp [lft, rf_cat]) rfl ?_
    refine R.aload_n dL_law_507 rfl (by first | rfl | exact rfv_rf _) ?_
    refine R.aload_n dL_law_508 rfl (by first | rfl | exact rfv_rf _) ?_
    refine R.iload dL_law_509 rfl ?_
    refine R.iconst (v := nI 1) dL_law_511 rfl ?_
    refine R.iadd dL_law_512 ?_
    rw [nI_add9]
    refine R.scrIald dL_law_513 (nI_pos (by omega)) (by rw [nI_clamp (by omega)]; show _ < mN _ 27 0; rw [show mN (ax M) 27 0 = mN M0 27 0 from h.l27]; omega) ?_
    rw [show mI (ax M) 27 0 = mI M0 27 0 from h.x27, nI_clamp (by omega), ← hx]
    refine R.aload_n dL_law_514 rfl (by first | rfl | exact rfv_rf _) ?_
    refine R.iload dL_law_515 rfl ?_
    refine R.iconst (v := nI 2) dL_law_517 rfl ?_
    refine R.iadd dL_law_518 ?_
    rw [nI_add9]
    refine R.scrIald dL_law_519 (nI_pos (by omega)) (by rw [nI_clamp (by omega)]; show _ < mN _ 27 0; rw [show mN (ax M) 27 0 = mN M0 27 0 from h.l27]; omega) ?_
    rw [show mI (ax M) 27 0 = mI M0 27 0 from h.x27, nI_clamp (by omega), ← hz]
    refine cl_L_178 rfl rfl (by first | exact Nat.le_of_ble_eq_true rfl | simp [rf_cat, Value.category]) dL_law_520 ?_
    refine n_crateNameByte h.m.ax9 (by have := h.t hn; omega) ?_
    rw [ea]
    intro M2 m2 t2 F2
    refine R.istore dL_law_523 (Nat.le_of_ble_eq_true rfl) (by decide) (by first | rfl | simp [lft, rf_cat]) rfl ?_
    refine R.aload_n dL_law_525 rfl (by first | rfl | exact rfv_rf _) ?_
    refine cl_L_179 rfl rfl (by first | exact Nat.le_of_ble_eq_true rfl | simp [rf_cat, Value.category]) dL_law_526 ?_
    refine n_thrown ?_
    rw [t2]
    refine R.iload dL_law_529 rfl ?_
    refine R.icmp_eq (tgt := 536) dL_law_531 (by decide) (fun _ => ?_) (fun c9 => absurd (rfl) c9)
    refine R.iload dL_law_536 rfl ?_
    refine R.if_ne (tgt := 553) dL_law_538 (by decide) (fun _ => ?_) (fun c9 => absurd c9 (by decide))
    refine R.goto (tgt := 3039) dL_law_553 (by decide) ?_
    exact k M2 S p T _ _ _ _ (h.no m2 F2)
set_option maxHeartbeats 2000000 in
set_option maxRecDepth 8000 in
theorem lw_buyerNameByte {d n p T : Nat} {M0 M : Mem} {S : KS} {u6 u7 u8 u9 : Value} {Q : Out → Mem → Prop} (h : LW M0 M S p T n) (hn : n < 512) (hlen : 6 * n + 6 ≤ mN M0 27 0) (k : KLW d M0 n Q) : WP mL_law (d + 22) 556 [.ref (rf 27 0), .ref (rf 10 0), .ref (rf 11 0), .ref (rf 15 0), .ref (rf 16 0), .int (nI (6 * n)), u6, u7, u8, u9] [] M Q := by
  obtain ⟨x, hx⟩ : ∃ x, x = mI M0 27 0 (6 * n + 1) := ⟨_, rfl⟩
  obtain ⟨z, hz⟩ : ∃ z, z = mI M0 27 0 (6 * n + 2) := ⟨_, rfl⟩
  have hxc : WPc (d + 20) mX12_buyerNameByte [.ref (rf 10 0), .int x, .int z] M (OU9 M (anR S p (aU S x fun i => .inl (ltF (yB (kY S) i 1) z)))) := c_buyerNameByte h.c (QA.ou h.c)
  have hE : ∀ E, anR S p (aU S x fun i => .inl (ltF (yB (kY S) i 1) z)) = .inl E → E = eI := fun E e => by
    cases ea : aU S x (fun i => .inl (ltF (yB (kY S) i 1) z)) with
    | inl v => rw [ea] at e; cases e
    | inr E9 => rw [ea] at e; cases e; exact aU_E ea
  cases ea : aU S x (fun i => .inl (ltF (yB (kY S) i 1) z)) with
  | inl v =>
    refine R.aload_n dL_law_556 rfl (by first | rfl | exact rfv_rf _) ?_
    refine R.aload_n dL_law_557 rfl (by first | rfl | exact rfv_rf _) ?_
    refine R.iload dL_law_558 rfl ?_
    refine R.iconst (v := nI 1) dL_law_560 rfl ?_
    refine R.iadd dL_law_561 ?_
    rw [nI_add9]
    refine R.scrIald dL_law_562 (nI_pos (by omega)) (by rw [nI_clamp (by omega)]; show _ < mN _ 27 0; rw [h.l27]; omega) ?_
    rw [h.x27, nI_clamp (by omega), ← hx]
    refine R.aload_n dL_law_563 rfl (by first | rfl | exact rfv_rf _) ?_
    refine R.iload dL_law_564 rfl ?_
    refine R.iconst (v := nI 2) dL_law_566 rfl ?_
    refine R.iadd dL_law_567 ?_
    rw [nI_add9]
    refine R.scrIald dL_law_568 (nI_pos (by omega)) (by rw [nI_clamp (by omega)]; show _ < mN _ 27 0; rw [h.l27]; omega) ?_
    rw [h.x27, nI_clamp (by omega), ← hz]
    refine R.aload_n dL_law_569 rfl (by first | rfl | exact rfv_rf _) ?_
    refine cl_L_182 rfl rfl (by first | exact Nat.le_of_ble_eq_true rfl | simp [rf_cat, Value.category]) dL_law_570 ?_
    refine h_buyerNameByte hxc h.n15 hE ?_
    rw [ea]
    intro M1 c1 F hm
    have hN1 : mN M1 15 0 = 1 := by rw [(F.1 15 0 (Or.inr (Or.inr (Or.inl rfl)))).2.2.2.2]; exact h.n15
    have m1 := (h.m.frK F).f9 (Fr9_L M1 v.toInt64)
    refine R.istore dL_law_573 (Nat.le_of_ble_eq_true rfl) (by decide) (by first | rfl | simp [lft, rf_cat]) rfl ?_
    refine R.aload_n dL_law_575 rfl (by first | rfl | exact rfv_rf _) ?_
    refine R.aload_n dL_law_576 rfl (by first | rfl | exact rfv_rf _) ?_
    refine R.iload dL_law_577 rfl ?_
    refine R.iconst (v := nI 1) dL_law_579 rfl ?_
    refine R.iadd dL_law_580 ?_
    rw [nI_add9]
    refine R.scrIald dL_law_581 (nI_pos (by omega)) (by rw [nI_clamp (by omega)]; show _ < mN _ 27 0; rw [show mN (sL M1 15 0 0 v.toInt64) 27 0 = mN M0 27 0 from hm.2.2.2.1.trans h.l27]; omega) ?_
    rw [show mI (sL M1 15 0 0 v.toInt64) 27 0 = mI M0 27 0 from hm.2.2.2.2.trans h.x27, nI_clamp (by omega), ← hx]
    refine R.aload_n dL_law_582 rfl (by first | rfl | exact rfv_rf _) ?_
    refine R.iload dL_law_583 rfl ?_
    refine R.iconst (v := nI 2) dL_law_585 rfl ?_
    refine R.iadd dL_law_586 ?_
    rw [nI_add9]
    refine R.scrIald dL_law_587 (nI_pos (by omega)) (by rw [nI_clamp (by omega)]; show _ < mN _ 27 0; rw [show mN (sL M1 15 0 0 v.toInt64) 27 0 = mN M0 27 0 from hm.2.2.2.1.trans h.l27]; omega) ?_
    rw [show mI (sL M1 15 0 0 v.toInt64) 27 0 = mI M0 27 0 from hm.2.2.2.2.trans h.x27, nI_clamp (by omega), ← hz]
    refine cl_L_184 rfl rfl (by first | exact Nat.le_of_ble_eq_true rfl | simp [rf_cat, Value.category]) dL_law_588 ?_
    refine n_buyerNameByte m1 (by have := h.t hn; omega) ?_
    rw [ea]
    intro M2 m2 t2 F2
    refine R.istore dL_law_591 (Nat.le_of_ble_eq_true rfl) (by decide) (by first | rfl | simp [lft, rf_cat]) rfl ?_
    refine R.aload_n dL_law_593 rfl (by first | rfl | exact rfv_rf _) ?_
    refine cl_L_179 rfl rfl (by first | exact Nat.le_of_ble_eq_true rfl | simp [rf_cat, Value.category]) dL_law_594 ?_
    refine n_thrown ?_
    rw [t2]
    refine R.iload dL_law_597 rfl ?_
    refine R.icmp_eq (tgt := 604) dL_law_599 (by decide) (fun _ => ?_) (fun c9 => absurd (rfl) c9)
    refine R.iload dL_law_604 rfl ?_
    refine R.if_ne (tgt := 621) dL_law_606 (by decide) (fun c9 => absurd (rfl) c9) (fun _ => ?_)
    refine R.aload_n dL_law_609 rfl (by first | rfl | exact rfv_rf _) ?_
    refine R.iconst (v := 0) dL_law_610 rfl ?_
    refine R.lald (i := 0) dL_law_611 (by decide) (by rw [F2.2.1]; show _ < mN M1 15 0; rw [hN1]; decide) ?_
    rw [show mL M2 15 0 (Int32.toNatClampNeg 0) = v.toInt64 from (congrFun (F2.2.2.2.2 15 0 (by unfold inM; omega)).2.1 0).trans (mLsL9 _ _)]
    refine R.iload dL_law_612 rfl ?_
    refine R.i2l dL_law_614 ?_
    refine R.lcmp dL_law_615 ?_
    refine R.if_eq (tgt := 621) dL_law_616 (by decide) (fun _ => ?_) (fun c9 => absurd (lcmp_rf _) c9)
    refine R.goto (tgt := 3039) dL_law_621 (by decide) ?_
    exact k M2 S p T _ _ _ _ (h.yes c1 F hm (Fr9_L _ _) m2 F2 (Nat.le_refl _) (by omega) (by omega))
  | inr E =>
    refine R.aload_n dL_law_556 rfl (by first | rfl | exact rfv_rf _) ?_
    refine R.aload_n dL_law_557 rfl (by first | rfl | exact rfv_rf _) ?_
    refine R.iload dL_law_558 rfl ?_
    refine R.iconst (v := nI 1) dL_law_560 rfl ?_
    refine R.iadd dL_law_561 ?_
    rw [nI_add9]
    refine R.scrIald dL_law_562 (nI_pos (by omega)) (by rw [nI_clamp (by omega)]; show _ < mN _ 27 0; rw [h.l27]; omega) ?_
    rw [h.x27, nI_clamp (by omega), ← hx]
    refine R.aload_n dL_law_563 rfl (by first | rfl | exact rfv_rf _) ?_
    refine R.iload dL_law_564 rfl ?_
    refine R.iconst (v := nI 2) dL_law_566 rfl ?_
    refine R.iadd dL_law_567 ?_
    rw [nI_add9]
    refine R.scrIald dL_law_568 (nI_pos (by omega)) (by rw [nI_clamp (by omega)]; show _ < mN _ 27 0; rw [h.l27]; omega) ?_
    rw [h.x27, nI_clamp (by omega), ← hz]
    refine R.aload_n dL_law_569 rfl (by first | rfl | exact rfv_rf _) ?_
    refine cl_L_182 rfl rfl (by first | exact Nat.le_of_ble_eq_true rfl | simp [rf_cat, Value.category]) dL_law_570 ?_
    refine h_buyerNameByte hxc h.n15 hE ?_
    rw [ea]
    have e1 := hE E (by rw [ea]; rfl)
    subst e1
    show WP _ _ _ _ _ _ _
    refine R.istore dL_law_573 (Nat.le_of_ble_eq_true rfl) (by decide) (by first | rfl | simp [lft, rf_cat]) rfl ?_
    refine R.aload_n dL_law_575 rfl (by first | rfl | exact rfv_rf _) ?_
    refine R.aload_n dL_law_576 rfl (by first | rfl | exact rfv_rf _) ?_
    refine R.iload dL_law_577 rfl ?_
    refine R.iconst (v := nI 1) dL_law_579 rfl ?_
    refine R.iadd dL_law_580 ?_
    rw [nI_add9]
    refine R.scrIald dL_law_581 (nI_pos (by omega)) (by rw [nI_clamp (by omega)]; show _ < mN _ 27 0; rw [show mN (ax M) 27 0 = mN M0 27 0 from h.l27]; omega) ?_
    rw [show mI (ax M) 27 0 = mI M0 27 0 from h.x27, nI_clamp (by omega), ← hx]
    refine R.aload_n dL_law_582 rfl (by first | rfl | exact rfv_rf _) ?_
    refine R.iload dL_law_583 rfl ?_
    refine R.iconst (v := nI 2) dL_law_585 rfl ?_
    refine R.iadd dL_law_586 ?_
    rw [nI_add9]
    refine R.scrIald dL_law_587 (nI_pos (by omega)) (by rw [nI_clamp (by omega)]; show _ < mN _ 27 0; rw [show mN (ax M) 27 0 = mN M0 27 0 from h.l27]; omega) ?_
    rw [show mI (ax M) 27 0 = mI M0 27 0 from h.x27, nI_clamp (by omega), ← hz]
    refine cl_L_184 rfl rfl (by first | exact Nat.le_of_ble_eq_true rfl | simp [rf_cat, Value.category]) dL_law_588 ?_
    refine n_buyerNameByte h.m.ax9 (by have := h.t hn; omega) ?_
    rw [ea]
    intro M2 m2 t2 F2
    refine R.istore dL_law_591 (Nat.le_of_ble_eq_true rfl) (by decide) (by first | rfl | simp [lft, rf_cat]) rfl ?_
    refine R.aload_n dL_law_593 rfl (by first | rfl | exact rfv_rf _) ?_
    refine cl_L_179 rfl rfl (by first | exact Nat.le_of_ble_eq_true rfl | simp [rf_cat, Value.category]) dL_law_594 ?_
    refine n_thrown ?_
    rw [t2]
    refine R.iload dL_law_597 rfl ?_
    refine R.icmp_eq (tgt := 604) dL_law_599 (by decide) (fun _ => ?_) (fun c9 => absurd (rfl) c9)
    refine R.iload dL_law_604 rfl ?_
    refine R.if_ne (tgt := 621) dL_law_606 (by decide) (fun _ => ?_) (fun c9 => absurd c9 (by decide))
    refine R.goto (tgt := 3039) dL_law_621 (by decide) ?_
    exact k M2 S p T _ _ _ _ (h.no m2 F2)
set_option maxHeartbeats 2000000 in
set_option maxRecDepth 8000 in
theorem lw_childOf {d n p T : Nat} {M0 M : Mem} {S : KS} {u6 u7 u8 u9 : Value} {Q : Out → Mem → Prop} (h : LW M0 M S p T n) (hn : n < 512) (hlen : 6 * n + 6 ≤ mN M0 27 0) (k : KLW d M0 n Q) : WP mL_law (d + 22) 960 [.ref (rf 27 0), .ref (rf 10 0), .ref (rf 11 0), .ref (rf 15 0), .ref (rf 16 0), .int (nI (6 * n)), u6, u7, u8, u9] [] M Q := by
  obtain ⟨x, hx⟩ : ∃ x, x = mI M0 27 0 (6 * n + 1) := ⟨_, rfl⟩
  obtain ⟨z, hz⟩ : ∃ z, z = mI M0 27 0 (6 * n + 2) := ⟨_, rfl⟩
  have hxc : WPc (d + 20) mX12_childOf [.ref (rf 10 0), .int x, .int z] M (OU9 M (anR S p (aC S x fun i => .inl (coF (kY S) 17 (fCh (kY S) i) 0 z)))) := c_childOf h.c (h.che hn) (QA.ou h.c)
  have hE : ∀ E, anR S p (aC S x fun i => .inl (coF (kY S) 17 (fCh (kY S) i) 0 z)) = .inl E → E = eI := fun E e => by
    cases ea : aC S x (fun i => .inl (coF (kY S) 17 (fCh (kY S) i) 0 z)) with
    | inl v => rw [ea] at e; cases e
    | inr E9 => rw [ea] at e; cases e; first | exact aC_E ea | exact aCU_E ea
  cases ea : aC S x (fun i => .inl (coF (kY S) 17 (fCh (kY S) i) 0 z)) with
  | inl v =>
    refine R.aload_n dL_law_960 rfl (by first | rfl | exact rfv_rf _) ?_
    refine R.aload_n dL_law_961 rfl (by first | rfl | exact rfv_rf _) ?_
    refine R.iload dL_law_962 rfl ?_
    refine R.iconst (v := nI 1) dL_law_964 rfl ?_
    refine R.iadd dL_law_965 ?_
    rw [nI_add9]
    refine R.scrIald dL_law_966 (nI_pos (by omega)) (by rw [nI_clamp (by omega)]; show _ < mN _ 27 0; rw [h.l27]; omega) ?_
    rw [h.x27, nI_clamp (by omega), ← hx]
    refine R.aload_n dL_law_967 rfl (by first | rfl | exact rfv_rf _) ?_
    refine R.iload dL_law_968 rfl ?_
    refine R.iconst (v := nI 2) dL_law_970 rfl ?_
    refine R.iadd dL_law_971 ?_
    rw [nI_add9]
    refine R.scrIald dL_law_972 (nI_pos (by omega)) (by rw [nI_clamp (by omega)]; show _ < mN _ 27 0; rw [h.l27]; omega) ?_
    rw [h.x27, nI_clamp (by omega), ← hz]
    refine R.aload_n dL_law_973 rfl (by first | rfl | exact rfv_rf _) ?_
    refine cl_L_204 rfl rfl (by first | exact Nat.le_of_ble_eq_true rfl | simp [rf_cat, Value.category]) dL_law_974 ?_
    refine h_childOf hxc h.n15 hE ?_
    rw [ea]
    intro M1 c1 F hm
    have hN1 : mN M1 15 0 = 1 := by rw [(F.1 15 0 (Or.inr (Or.inr (Or.inl rfl)))).2.2.2.2]; exact h.n15
    have m1 := (h.m.frK F).f9 (Fr9_L M1 v.toInt64)
    refine R.istore dL_law_977 (Nat.le_of_ble_eq_true rfl) (by decide) (by first | rfl | simp [lft, rf_cat]) rfl ?_
    refine R.aload_n dL_law_979 rfl (by first | rfl | exact rfv_rf _) ?_
    refine R.aload_n dL_law_980 rfl (by first | rfl | exact rfv_rf _) ?_
    refine R.iload dL_law_981 rfl ?_
    refine R.iconst (v := nI 1) dL_law_983 rfl ?_
    refine R.iadd dL_law_984 ?_
    rw [nI_add9]
    refine R.scrIald dL_law_985 (nI_pos (by omega)) (by rw [nI_clamp (by omega)]; show _ < mN _ 27 0; rw [show mN (sL M1 15 0 0 v.toInt64) 27 0 = mN M0 27 0 from hm.2.2.2.1.trans h.l27]; omega) ?_
    rw [show mI (sL M1 15 0 0 v.toInt64) 27 0 = mI M0 27 0 from hm.2.2.2.2.trans h.x27, nI_clamp (by omega), ← hx]
    refine R.aload_n dL_law_986 rfl (by first | rfl | exact rfv_rf _) ?_
    refine R.iload dL_law_987 rfl ?_
    refine R.iconst (v := nI 2) dL_law_989 rfl ?_
    refine R.iadd dL_law_990 ?_
    rw [nI_add9]
    refine R.scrIald dL_law_991 (nI_pos (by omega)) (by rw [nI_clamp (by omega)]; show _ < mN _ 27 0; rw [show mN (sL M1 15 0 0 v.toInt64) 27 0 = mN M0 27 0 from hm.2.2.2.1.trans h.l27]; omega) ?_
    rw [show mI (sL M1 15 0 0 v.toInt64) 27 0 = mI M0 27 0 from hm.2.2.2.2.trans h.x27, nI_clamp (by omega), ← hz]
    refine cl_L_206 rfl rfl (by first | exact Nat.le_of_ble_eq_true rfl | simp [rf_cat, Value.category]) dL_law_992 ?_
    refine n_childOf m1 (by have := h.t hn; omega) ?_
    rw [ea]
    intro M2 m2 t2 F2
    refine R.istore dL_law_995 (Nat.le_of_ble_eq_true rfl) (by decide) (by first | rfl | simp [lft, rf_cat]) rfl ?_
    refine R.aload_n dL_law_997 rfl (by first | rfl | exact rfv_rf _) ?_
    refine cl_L_179 rfl rfl (by first | exact Nat.le_of_ble_eq_true rfl | simp [rf_cat, Value.category]) dL_law_998 ?_
    refine n_thrown ?_
    rw [t2]
    refine R.iload dL_law_1001 rfl ?_
    refine R.icmp_eq (tgt := 1008) dL_law_1003 (by decide) (fun _ => ?_) (fun c9 => absurd (rfl) c9)
    refine R.iload dL_law_1008 rfl ?_
    refine R.if_ne (tgt := 1025) dL_law_1010 (by decide) (fun c9 => absurd (rfl) c9) (fun _ => ?_)
    refine R.aload_n dL_law_1013 rfl (by first | rfl | exact rfv_rf _) ?_
    refine R.iconst (v := 0) dL_law_1014 rfl ?_
    refine R.lald (i := 0) dL_law_1015 (by decide) (by rw [F2.2.1]; show _ < mN M1 15 0; rw [hN1]; decide) ?_
    rw [show mL M2 15 0 (Int32.toNatClampNeg 0) = v.toInt64 from (congrFun (F2.2.2.2.2 15 0 (by unfold inM; omega)).2.1 0).trans (mLsL9 _ _)]
    refine R.iload dL_law_1016 rfl ?_
    refine R.i2l dL_law_1018 ?_
    refine R.lcmp dL_law_1019 ?_
    refine R.if_eq (tgt := 1025) dL_law_1020 (by decide) (fun _ => ?_) (fun c9 => absurd (lcmp_rf _) c9)
    refine R.goto (tgt := 3039) dL_law_1025 (by decide) ?_
    exact k M2 S p T _ _ _ _ (h.yes c1 F hm (Fr9_L _ _) m2 F2 (Nat.le_refl _) (by omega) (by omega))
  | inr E =>
    refine R.aload_n dL_law_960 rfl (by first | rfl | exact rfv_rf _) ?_
    refine R.aload_n dL_law_961 rfl (by first | rfl | exact rfv_rf _) ?_
    refine R.iload dL_law_962 rfl ?_
    refine R.iconst (v := nI 1) dL_law_964 rfl ?_
    refine R.iadd dL_law_965 ?_
    rw [nI_add9]
    refine R.scrIald dL_law_966 (nI_pos (by omega)) (by rw [nI_clamp (by omega)]; show _ < mN _ 27 0; rw [h.l27]; omega) ?_
    rw [h.x27, nI_clamp (by omega), ← hx]
    refine R.aload_n dL_law_967 rfl (by first | rfl | exact rfv_rf _) ?_
    refine R.iload dL_law_968 rfl ?_
    refine R.iconst (v := nI 2) dL_law_970 rfl ?_
    refine R.iadd dL_law_971 ?_
    rw [nI_add9]
    refine R.scrIald dL_law_972 (nI_pos (by omega)) (by rw [nI_clamp (by omega)]; show _ < mN _ 27 0; rw [h.l27]; omega) ?_
    rw [h.x27, nI_clamp (by omega), ← hz]
    refine R.aload_n dL_law_973 rfl (by first | rfl | exact rfv_rf _) ?_
    refine cl_L_204 rfl rfl (by first | exact Nat.le_of_ble_eq_true rfl | simp [rf_cat, Value.category]) dL_law_974 ?_
    refine h_childOf hxc h.n15 hE ?_
    rw [ea]
    have e1 := hE E (by rw [ea]; rfl)
    subst e1
    show WP _ _ _ _ _ _ _
    refine R.istore dL_law_977 (Nat.le_of_ble_eq_true rfl) (by decide) (by first | rfl | simp [lft, rf_cat]) rfl ?_
    refine R.aload_n dL_law_979 rfl (by first | rfl | exact rfv_rf _) ?_
    refine R.aload_n dL_law_980 rfl (by first | rfl | exact rfv_rf _) ?_
    refine R.iload dL_law_981 rfl ?_
    refine R.iconst (v := nI 1) dL_law_983 rfl ?_
    refine R.iadd dL_law_984 ?_
    rw [nI_add9]
    refine R.scrIald dL_law_985 (nI_pos (by omega)) (by rw [nI_clamp (by omega)]; show _ < mN _ 27 0; rw [show mN (ax M) 27 0 = mN M0 27 0 from h.l27]; omega) ?_
    rw [show mI (ax M) 27 0 = mI M0 27 0 from h.x27, nI_clamp (by omega), ← hx]
    refine R.aload_n dL_law_986 rfl (by first | rfl | exact rfv_rf _) ?_
    refine R.iload dL_law_987 rfl ?_
    refine R.iconst (v := nI 2) dL_law_989 rfl ?_
    refine R.iadd dL_law_990 ?_
    rw [nI_add9]
    refine R.scrIald dL_law_991 (nI_pos (by omega)) (by rw [nI_clamp (by omega)]; show _ < mN _ 27 0; rw [show mN (ax M) 27 0 = mN M0 27 0 from h.l27]; omega) ?_
    rw [show mI (ax M) 27 0 = mI M0 27 0 from h.x27, nI_clamp (by omega), ← hz]
    refine cl_L_206 rfl rfl (by first | exact Nat.le_of_ble_eq_true rfl | simp [rf_cat, Value.category]) dL_law_992 ?_
    refine n_childOf h.m.ax9 (by have := h.t hn; omega) ?_
    rw [ea]
    intro M2 m2 t2 F2
    refine R.istore dL_law_995 (Nat.le_of_ble_eq_true rfl) (by decide) (by first | rfl | simp [lft, rf_cat]) rfl ?_
    refine R.aload_n dL_law_997 rfl (by first | rfl | exact rfv_rf _) ?_
    refine cl_L_179 rfl rfl (by first | exact Nat.le_of_ble_eq_true rfl | simp [rf_cat, Value.category]) dL_law_998 ?_
    refine n_thrown ?_
    rw [t2]
    refine R.iload dL_law_1001 rfl ?_
    refine R.icmp_eq (tgt := 1008) dL_law_1003 (by decide) (fun _ => ?_) (fun c9 => absurd (rfl) c9)
    refine R.iload dL_law_1008 rfl ?_
    refine R.if_ne (tgt := 1025) dL_law_1010 (by decide) (fun _ => ?_) (fun c9 => absurd c9 (by decide))
    refine R.goto (tgt := 3039) dL_law_1025 (by decide) ?_
    exact k M2 S p T _ _ _ _ (h.no m2 F2)
set_option maxHeartbeats 2000000 in
set_option maxRecDepth 8000 in
theorem lw_refusalReason {d n p T : Nat} {M0 M : Mem} {S : KS} {u6 u7 u8 u9 : Value} {Q : Out → Mem → Prop} (h : LW M0 M S p T n) (hn : n < 512) (hlen : 6 * n + 6 ≤ mN M0 27 0) (k : KLW d M0 n Q) : WP mL_law (d + 22) 1954 [.ref (rf 27 0), .ref (rf 10 0), .ref (rf 11 0), .ref (rf 15 0), .ref (rf 16 0), .int (nI (6 * n)), u6, u7, u8, u9] [] M Q := by
  obtain ⟨x, hx⟩ : ∃ x, x = mI M0 27 0 (6 * n + 1) := ⟨_, rfl⟩
  obtain ⟨z, hz⟩ : ∃ z, z = mI M0 27 0 (6 * n + 2) := ⟨_, rfl⟩
  have hxc : WPc (d + 20) mX12_refusalReason [.ref (rf 10 0), .int x, .int z] M (OU9 M (anR S p (aC S x fun i => aU S z fun b => .inl (yRef (kY S) i b)))) := c_refusalReason h.c (QA.ou h.c)
  have hE : ∀ E, anR S p (aC S x fun i => aU S z fun b => .inl (yRef (kY S) i b)) = .inl E → E = eI := fun E e => by
    cases ea : aC S x (fun i => aU S z fun b => .inl (yRef (kY S) i b)) with
    | inl v => rw [ea] at e; cases e
    | inr E9 => rw [ea] at e; cases e; first | exact aC_E ea | exact aCU_E ea
  cases ea : aC S x (fun i => aU S z fun b => .inl (yRef (kY S) i b)) with
  | inl v =>
    refine R.aload_n dL_law_1954 rfl (by first | rfl | exact rfv_rf _) ?_
    refine R.aload_n dL_law_1955 rfl (by first | rfl | exact rfv_rf _) ?_
    refine R.iload dL_law_1956 rfl ?_
    refine R.iconst (v := nI 1) dL_law_1958 rfl ?_
    refine R.iadd dL_law_1959 ?_
    rw [nI_add9]
    refine R.scrIald dL_law_1960 (nI_pos (by omega)) (by rw [nI_clamp (by omega)]; show _ < mN _ 27 0; rw [h.l27]; omega) ?_
    rw [h.x27, nI_clamp (by omega), ← hx]
    refine R.aload_n dL_law_1961 rfl (by first | rfl | exact rfv_rf _) ?_
    refine R.iload dL_law_1962 rfl ?_
    refine R.iconst (v := nI 2) dL_law_1964 rfl ?_
    refine R.iadd dL_law_1965 ?_
    rw [nI_add9]
    refine R.scrIald dL_law_1966 (nI_pos (by omega)) (by rw [nI_clamp (by omega)]; show _ < mN _ 27 0; rw [h.l27]; omega) ?_
    rw [h.x27, nI_clamp (by omega), ← hz]
    refine R.aload_n dL_law_1967 rfl (by first | rfl | exact rfv_rf _) ?_
    refine cl_L_274 rfl rfl (by first | exact Nat.le_of_ble_eq_true rfl | simp [rf_cat, Value.category]) dL_law_1968 ?_
    refine h_refusalReason hxc h.n15 hE ?_
    rw [ea]
    intro M1 c1 F hm
    have hN1 : mN M1 15 0 = 1 := by rw [(F.1 15 0 (Or.inr (Or.inr (Or.inl rfl)))).2.2.2.2]; exact h.n15
    have m1 := (h.m.frK F).f9 (Fr9_L M1 v.toInt64)
    refine R.istore dL_law_1971 (Nat.le_of_ble_eq_true rfl) (by decide) (by first | rfl | simp [lft, rf_cat]) rfl ?_
    refine R.aload_n dL_law_1973 rfl (by first | rfl | exact rfv_rf _) ?_
    refine R.aload_n dL_law_1974 rfl (by first | rfl | exact rfv_rf _) ?_
    refine R.iload dL_law_1975 rfl ?_
    refine R.iconst (v := nI 1) dL_law_1977 rfl ?_
    refine R.iadd dL_law_1978 ?_
    rw [nI_add9]
    refine R.scrIald dL_law_1979 (nI_pos (by omega)) (by rw [nI_clamp (by omega)]; show _ < mN _ 27 0; rw [show mN (sL M1 15 0 0 v.toInt64) 27 0 = mN M0 27 0 from hm.2.2.2.1.trans h.l27]; omega) ?_
    rw [show mI (sL M1 15 0 0 v.toInt64) 27 0 = mI M0 27 0 from hm.2.2.2.2.trans h.x27, nI_clamp (by omega), ← hx]
    refine R.aload_n dL_law_1980 rfl (by first | rfl | exact rfv_rf _) ?_
    refine R.iload dL_law_1981 rfl ?_
    refine R.iconst (v := nI 2) dL_law_1983 rfl ?_
    refine R.iadd dL_law_1984 ?_
    rw [nI_add9]
    refine R.scrIald dL_law_1985 (nI_pos (by omega)) (by rw [nI_clamp (by omega)]; show _ < mN _ 27 0; rw [show mN (sL M1 15 0 0 v.toInt64) 27 0 = mN M0 27 0 from hm.2.2.2.1.trans h.l27]; omega) ?_
    rw [show mI (sL M1 15 0 0 v.toInt64) 27 0 = mI M0 27 0 from hm.2.2.2.2.trans h.x27, nI_clamp (by omega), ← hz]
    refine cl_L_276 rfl rfl (by first | exact Nat.le_of_ble_eq_true rfl | simp [rf_cat, Value.category]) dL_law_1986 ?_
    refine n_refusalReason m1 (by have := h.t hn; omega) ?_
    rw [ea]
    intro M2 m2 t2 F2
    refine R.istore dL_law_1989 (Nat.le_of_ble_eq_true rfl) (by decide) (by first | rfl | simp [lft, rf_cat]) rfl ?_
    refine R.aload_n dL_law_1991 rfl (by first | rfl | exact rfv_rf _) ?_
    refine cl_L_179 rfl rfl (by first | exact Nat.le_of_ble_eq_true rfl | simp [rf_cat, Value.category]) dL_law_1992 ?_
    refine n_thrown ?_
    rw [t2]
    refine R.iload dL_law_1995 rfl ?_
    refine R.icmp_eq (tgt := 2002) dL_law_1997 (by decide) (fun _ => ?_) (fun c9 => absurd (rfl) c9)
    refine R.iload dL_law_2002 rfl ?_
    refine R.if_ne (tgt := 2019) dL_law_2004 (by decide) (fun c9 => absurd (rfl) c9) (fun _ => ?_)
    refine R.aload_n dL_law_2007 rfl (by first | rfl | exact rfv_rf _) ?_
    refine R.iconst (v := 0) dL_law_2008 rfl ?_
    refine R.lald (i := 0) dL_law_2009 (by decide) (by rw [F2.2.1]; show _ < mN M1 15 0; rw [hN1]; decide) ?_
    rw [show mL M2 15 0 (Int32.toNatClampNeg 0) = v.toInt64 from (congrFun (F2.2.2.2.2 15 0 (by unfold inM; omega)).2.1 0).trans (mLsL9 _ _)]
    refine R.iload dL_law_2010 rfl ?_
    refine R.i2l dL_law_2012 ?_
    refine R.lcmp dL_law_2013 ?_
    refine R.if_eq (tgt := 2019) dL_law_2014 (by decide) (fun _ => ?_) (fun c9 => absurd (lcmp_rf _) c9)
    refine R.goto (tgt := 3039) dL_law_2019 (by decide) ?_
    exact k M2 S p T _ _ _ _ (h.yes c1 F hm (Fr9_L _ _) m2 F2 (Nat.le_refl _) (by omega) (by omega))
  | inr E =>
    refine R.aload_n dL_law_1954 rfl (by first | rfl | exact rfv_rf _) ?_
    refine R.aload_n dL_law_1955 rfl (by first | rfl | exact rfv_rf _) ?_
    refine R.iload dL_law_1956 rfl ?_
    refine R.iconst (v := nI 1) dL_law_1958 rfl ?_
    refine R.iadd dL_law_1959 ?_
    rw [nI_add9]
    refine R.scrIald dL_law_1960 (nI_pos (by omega)) (by rw [nI_clamp (by omega)]; show _ < mN _ 27 0; rw [h.l27]; omega) ?_
    rw [h.x27, nI_clamp (by omega), ← hx]
    refine R.aload_n dL_law_1961 rfl (by first | rfl | exact rfv_rf _) ?_
    refine R.iload dL_law_1962 rfl ?_
    refine R.iconst (v := nI 2) dL_law_1964 rfl ?_
    refine R.iadd dL_law_1965 ?_
    rw [nI_add9]
    refine R.scrIald dL_law_1966 (nI_pos (by omega)) (by rw [nI_clamp (by omega)]; show _ < mN _ 27 0; rw [h.l27]; omega) ?_
    rw [h.x27, nI_clamp (by omega), ← hz]
    refine R.aload_n dL_law_1967 rfl (by first | rfl | exact rfv_rf _) ?_
    refine cl_L_274 rfl rfl (by first | exact Nat.le_of_ble_eq_true rfl | simp [rf_cat, Value.category]) dL_law_1968 ?_
    refine h_refusalReason hxc h.n15 hE ?_
    rw [ea]
    have e1 := hE E (by rw [ea]; rfl)
    subst e1
    show WP _ _ _ _ _ _ _
    refine R.istore dL_law_1971 (Nat.le_of_ble_eq_true rfl) (by decide) (by first | rfl | simp [lft, rf_cat]) rfl ?_
    refine R.aload_n dL_law_1973 rfl (by first | rfl | exact rfv_rf _) ?_
    refine R.aload_n dL_law_1974 rfl (by first | rfl | exact rfv_rf _) ?_
    refine R.iload dL_law_1975 rfl ?_
    refine R.iconst (v := nI 1) dL_law_1977 rfl ?_
    refine R.iadd dL_law_1978 ?_
    rw [nI_add9]
    refine R.scrIald dL_law_1979 (nI_pos (by omega)) (by rw [nI_clamp (by omega)]; show _ < mN _ 27 0; rw [show mN (ax M) 27 0 = mN M0 27 0 from h.l27]; omega) ?_
    rw [show mI (ax M) 27 0 = mI M0 27 0 from h.x27, nI_clamp (by omega), ← hx]
    refine R.aload_n dL_law_1980 rfl (by first | rfl | exact rfv_rf _) ?_
    refine R.iload dL_law_1981 rfl ?_
    refine R.iconst (v := nI 2) dL_law_1983 rfl ?_
    refine R.iadd dL_law_1984 ?_
    rw [nI_add9]
    refine R.scrIald dL_law_1985 (nI_pos (by omega)) (by rw [nI_clamp (by omega)]; show _ < mN _ 27 0; rw [show mN (ax M) 27 0 = mN M0 27 0 from h.l27]; omega) ?_
    rw [show mI (ax M) 27 0 = mI M0 27 0 from h.x27, nI_clamp (by omega), ← hz]
    refine cl_L_276 rfl rfl (by first | exact Nat.le_of_ble_eq_true rfl | simp [rf_cat, Value.category]) dL_law_1986 ?_
    refine n_refusalReason h.m.ax9 (by have := h.t hn; omega) ?_
    rw [ea]
    intro M2 m2 t2 F2
    refine R.istore dL_law_1989 (Nat.le_of_ble_eq_true rfl) (by decide) (by first | rfl | simp [lft, rf_cat]) rfl ?_
    refine R.aload_n dL_law_1991 rfl (by first | rfl | exact rfv_rf _) ?_
    refine cl_L_179 rfl rfl (by first | exact Nat.le_of_ble_eq_true rfl | simp [rf_cat, Value.category]) dL_law_1992 ?_
    refine n_thrown ?_
    rw [t2]
    refine R.iload dL_law_1995 rfl ?_
    refine R.icmp_eq (tgt := 2002) dL_law_1997 (by decide) (fun _ => ?_) (fun c9 => absurd (rfl) c9)
    refine R.iload dL_law_2002 rfl ?_
    refine R.if_ne (tgt := 2019) dL_law_2004 (by decide) (fun _ => ?_) (fun c9 => absurd c9 (by decide))
    refine R.goto (tgt := 3039) dL_law_2019 (by decide) ?_
    exact k M2 S p T _ _ _ _ (h.no m2 F2)
set_option maxHeartbeats 2000000 in
set_option maxRecDepth 8000 in
theorem lw_refusalDetail {d n p T : Nat} {M0 M : Mem} {S : KS} {u6 u7 u8 u9 : Value} {Q : Out → Mem → Prop} (h : LW M0 M S p T n) (hn : n < 512) (hlen : 6 * n + 6 ≤ mN M0 27 0) (k : KLW d M0 n Q) : WP mL_law (d + 22) 2022 [.ref (rf 27 0), .ref (rf 10 0), .ref (rf 11 0), .ref (rf 15 0), .ref (rf 16 0), .int (nI (6 * n)), u6, u7, u8, u9] [] M Q := by
  obtain ⟨x, hx⟩ : ∃ x, x = mI M0 27 0 (6 * n + 1) := ⟨_, rfl⟩
  obtain ⟨z, hz⟩ : ∃ z, z = mI M0 27 0 (6 * n + 2) := ⟨_, rfl⟩
  have hxc : WPc (d + 20) mX12_refusalDetail [.ref (rf 10 0), .int x, .int z] M (OU9 M (anR S p (aC S x fun i => aU S z fun b => .inl (yDet (kY S) i b)))) := c_refusalDetail h.c (QA.ou h.c)
  have hE : ∀ E, anR S p (aC S x fun i => aU S z fun b => .inl (yDet (kY S) i b)) = .inl E → E = eI := fun E e => by
    cases ea : aC S x (fun i => aU S z fun b => .inl (yDet (kY S) i b)) with
    | inl v => rw [ea] at e; cases e
    | inr E9 => rw [ea] at e; cases e; first | exact aC_E ea | exact aCU_E ea
  cases ea : aC S x (fun i => aU S z fun b => .inl (yDet (kY S) i b)) with
  | inl v =>
    refine R.aload_n dL_law_2022 rfl (by first | rfl | exact rfv_rf _) ?_
    refine R.aload_n dL_law_2023 rfl (by first | rfl | exact rfv_rf _) ?_
    refine R.iload dL_law_2024 rfl ?_
    refine R.iconst (v := nI 1) dL_law_2026 rfl ?_
    refine R.iadd dL_law_2027 ?_
    rw [nI_add9]
    refine R.scrIald dL_law_2028 (nI_pos (by omega)) (by rw [nI_clamp (by omega)]; show _ < mN _ 27 0; rw [h.l27]; omega) ?_
    rw [h.x27, nI_clamp (by omega), ← hx]
    refine R.aload_n dL_law_2029 rfl (by first | rfl | exact rfv_rf _) ?_
    refine R.iload dL_law_2030 rfl ?_
    refine R.iconst (v := nI 2) dL_law_2032 rfl ?_
    refine R.iadd dL_law_2033 ?_
    rw [nI_add9]
    refine R.scrIald dL_law_2034 (nI_pos (by omega)) (by rw [nI_clamp (by omega)]; show _ < mN _ 27 0; rw [h.l27]; omega) ?_
    rw [h.x27, nI_clamp (by omega), ← hz]
    refine R.aload_n dL_law_2035 rfl (by first | rfl | exact rfv_rf _) ?_
    refine cl_L_277 rfl rfl (by first | exact Nat.le_of_ble_eq_true rfl | simp [rf_cat, Value.category]) dL_law_2036 ?_
    refine h_refusalDetail hxc h.n15 hE ?_
    rw [ea]
    intro M1 c1 F hm
    have hN1 : mN M1 15 0 = 1 := by rw [(F.1 15 0 (Or.inr (Or.inr (Or.inl rfl)))).2.2.2.2]; exact h.n15
    have m1 := (h.m.frK F).f9 (Fr9_L M1 v.toInt64)
    refine R.istore dL_law_2039 (Nat.le_of_ble_eq_true rfl) (by decide) (by first | rfl | simp [lft, rf_cat]) rfl ?_
    refine R.aload_n dL_law_2041 rfl (by first | rfl | exact rfv_rf _) ?_
    refine R.aload_n dL_law_2042 rfl (by first | rfl | exact rfv_rf _) ?_
    refine R.iload dL_law_2043 rfl ?_
    refine R.iconst (v := nI 1) dL_law_2045 rfl ?_
    refine R.iadd dL_law_2046 ?_
    rw [nI_add9]
    refine R.scrIald dL_law_2047 (nI_pos (by omega)) (by rw [nI_clamp (by omega)]; show _ < mN _ 27 0; rw [show mN (sL M1 15 0 0 v.toInt64) 27 0 = mN M0 27 0 from hm.2.2.2.1.trans h.l27]; omega) ?_
    rw [show mI (sL M1 15 0 0 v.toInt64) 27 0 = mI M0 27 0 from hm.2.2.2.2.trans h.x27, nI_clamp (by omega), ← hx]
    refine R.aload_n dL_law_2048 rfl (by first | rfl | exact rfv_rf _) ?_
    refine R.iload dL_law_2049 rfl ?_
    refine R.iconst (v := nI 2) dL_law_2051 rfl ?_
    refine R.iadd dL_law_2052 ?_
    rw [nI_add9]
    refine R.scrIald dL_law_2053 (nI_pos (by omega)) (by rw [nI_clamp (by omega)]; show _ < mN _ 27 0; rw [show mN (sL M1 15 0 0 v.toInt64) 27 0 = mN M0 27 0 from hm.2.2.2.1.trans h.l27]; omega) ?_
    rw [show mI (sL M1 15 0 0 v.toInt64) 27 0 = mI M0 27 0 from hm.2.2.2.2.trans h.x27, nI_clamp (by omega), ← hz]
    refine cl_L_279 rfl rfl (by first | exact Nat.le_of_ble_eq_true rfl | simp [rf_cat, Value.category]) dL_law_2054 ?_
    refine n_refusalDetail m1 (by have := h.t hn; omega) ?_
    rw [ea]
    intro M2 m2 t2 F2
    refine R.istore dL_law_2057 (Nat.le_of_ble_eq_true rfl) (by decide) (by first | rfl | simp [lft, rf_cat]) rfl ?_
    refine R.aload_n dL_law_2059 rfl (by first | rfl | exact rfv_rf _) ?_
    refine cl_L_179 rfl rfl (by first | exact Nat.le_of_ble_eq_true rfl | simp [rf_cat, Value.category]) dL_law_2060 ?_
    refine n_thrown ?_
    rw [t2]
    refine R.iload dL_law_2063 rfl ?_
    refine R.icmp_eq (tgt := 2070) dL_law_2065 (by decide) (fun _ => ?_) (fun c9 => absurd (rfl) c9)
    refine R.iload dL_law_2070 rfl ?_
    refine R.if_ne (tgt := 2087) dL_law_2072 (by decide) (fun c9 => absurd (rfl) c9) (fun _ => ?_)
    refine R.aload_n dL_law_2075 rfl (by first | rfl | exact rfv_rf _) ?_
    refine R.iconst (v := 0) dL_law_2076 rfl ?_
    refine R.lald (i := 0) dL_law_2077 (by decide) (by rw [F2.2.1]; show _ < mN M1 15 0; rw [hN1]; decide) ?_
    rw [show mL M2 15 0 (Int32.toNatClampNeg 0) = v.toInt64 from (congrFun (F2.2.2.2.2 15 0 (by unfold inM; omega)).2.1 0).trans (mLsL9 _ _)]
    refine R.iload dL_law_2078 rfl ?_
    refine R.i2l dL_law_2080 ?_
    refine R.lcmp dL_law_2081 ?_
    refine R.if_eq (tgt := 2087) dL_law_2082 (by decide) (fun _ => ?_) (fun c9 => absurd (lcmp_rf _) c9)
    refine R.goto (tgt := 3039) dL_law_2087 (by decide) ?_
    exact k M2 S p T _ _ _ _ (h.yes c1 F hm (Fr9_L _ _) m2 F2 (Nat.le_refl _) (by omega) (by omega))
  | inr E =>
    refine R.aload_n dL_law_2022 rfl (by first | rfl | exact rfv_rf _) ?_
    refine R.aload_n dL_law_2023 rfl (by first | rfl | exact rfv_rf _) ?_
    refine R.iload dL_law_2024 rfl ?_
    refine R.iconst (v := nI 1) dL_law_2026 rfl ?_
    refine R.iadd dL_law_2027 ?_
    rw [nI_add9]
    refine R.scrIald dL_law_2028 (nI_pos (by omega)) (by rw [nI_clamp (by omega)]; show _ < mN _ 27 0; rw [h.l27]; omega) ?_
    rw [h.x27, nI_clamp (by omega), ← hx]
    refine R.aload_n dL_law_2029 rfl (by first | rfl | exact rfv_rf _) ?_
    refine R.iload dL_law_2030 rfl ?_
    refine R.iconst (v := nI 2) dL_law_2032 rfl ?_
    refine R.iadd dL_law_2033 ?_
    rw [nI_add9]
    refine R.scrIald dL_law_2034 (nI_pos (by omega)) (by rw [nI_clamp (by omega)]; show _ < mN _ 27 0; rw [h.l27]; omega) ?_
    rw [h.x27, nI_clamp (by omega), ← hz]
    refine R.aload_n dL_law_2035 rfl (by first | rfl | exact rfv_rf _) ?_
    refine cl_L_277 rfl rfl (by first | exact Nat.le_of_ble_eq_true rfl | simp [rf_cat, Value.category]) dL_law_2036 ?_
    refine h_refusalDetail hxc h.n15 hE ?_
    rw [ea]
    have e1 := hE E (by rw [ea]; rfl)
    subst e1
    show WP _ _ _ _ _ _ _
    refine R.istore dL_law_2039 (Nat.le_of_ble_eq_true rfl) (by decide) (by first | rfl | simp [lft, rf_cat]) rfl ?_
    refine R.aload_n dL_law_2041 rfl (by first | rfl | exact rfv_rf _) ?_
    refine R.aload_n dL_law_2042 rfl (by first | rfl | exact rfv_rf _) ?_
    refine R.iload dL_law_2043 rfl ?_
    refine R.iconst (v := nI 1) dL_law_2045 rfl ?_
    refine R.iadd dL_law_2046 ?_
    rw [nI_add9]
    refine R.scrIald dL_law_2047 (nI_pos (by omega)) (by rw [nI_clamp (by omega)]; show _ < mN _ 27 0; rw [show mN (ax M) 27 0 = mN M0 27 0 from h.l27]; omega) ?_
    rw [show mI (ax M) 27 0 = mI M0 27 0 from h.x27, nI_clamp (by omega), ← hx]
    refine R.aload_n dL_law_2048 rfl (by first | rfl | exact rfv_rf _) ?_
    refine R.iload dL_law_2049 rfl ?_
    refine R.iconst (v := nI 2) dL_law_2051 rfl ?_
    refine R.iadd dL_law_2052 ?_
    rw [nI_add9]
    refine R.scrIald dL_law_2053 (nI_pos (by omega)) (by rw [nI_clamp (by omega)]; show _ < mN _ 27 0; rw [show mN (ax M) 27 0 = mN M0 27 0 from h.l27]; omega) ?_
    rw [show mI (ax M) 27 0 = mI M0 27 0 from h.x27, nI_clamp (by omega), ← hz]
    refine cl_L_279 rfl rfl (by first | exact Nat.le_of_ble_eq_true rfl | simp [rf_cat, Value.category]) dL_law_2054 ?_
    refine n_refusalDetail h.m.ax9 (by have := h.t hn; omega) ?_
    rw [ea]
    intro M2 m2 t2 F2
    refine R.istore dL_law_2057 (Nat.le_of_ble_eq_true rfl) (by decide) (by first | rfl | simp [lft, rf_cat]) rfl ?_
    refine R.aload_n dL_law_2059 rfl (by first | rfl | exact rfv_rf _) ?_
    refine cl_L_179 rfl rfl (by first | exact Nat.le_of_ble_eq_true rfl | simp [rf_cat, Value.category]) dL_law_2060 ?_
    refine n_thrown ?_
    rw [t2]
    refine R.iload dL_law_2063 rfl ?_
    refine R.icmp_eq (tgt := 2070) dL_law_2065 (by decide) (fun _ => ?_) (fun c9 => absurd (rfl) c9)
    refine R.iload dL_law_2070 rfl ?_
    refine R.if_ne (tgt := 2087) dL_law_2072 (by decide) (fun _ => ?_) (fun c9 => absurd c9 (by decide))
    refine R.goto (tgt := 3039) dL_law_2087 (by decide) ?_
    exact k M2 S p T _ _ _ _ (h.no m2 F2)
