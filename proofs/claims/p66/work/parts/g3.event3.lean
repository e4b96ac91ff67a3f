/-! an event: a spring, an amplitude, a sale, a weighing; every event -/
set_option maxHeartbeats 1000000 in
set_option maxRecDepth 8000 in
theorem ev_spr {S : KS} {p k v0 d T : Nat} {W : LW} {x : Int32} {M : Mem} {Q : Out → Mem → Prop} (h : EH M S p W T) (hk : k < wN W) (hv : v0 < 32) (hq : EQ M p T Q) : WP mL_event (d + 22) 536 [.ref (rf 10 0), .ref (rf 32 0), .int x, .ref (rf 11 k), .int (nI (1 + v0)), UN] [] M Q := by
  obtain ⟨hC, hW, hI, hT, hp⟩ := h
  have c := hW.c hk
  have r := hI.rc hk
  have hns := hI.ns hk
  have hk16 : k < 16 := by have := hI.n9; omega
  have h9 := hI.spring
  have s3 : yS (kY S) 3 = wYs W 4 := hI.1.1.2.2.2.2.1.2.2.2
  refine R.aload_n dL_event_536 rfl (by first | rfl | exact rfv_rf _) ?_
  refine R.getIS (hW.yi (by decide)) dL_event_537 fl_L_30 (by decide) rfl ?_
  refine R.istore dL_event_540 (Nat.le_of_ble_eq_true rfl) (by decide) (by first | rfl | simp [lft, rf_cat]) rfl ?_
  refine R.aload_n dL_event_542 rfl (by first | rfl | exact rfv_rf _) ?_
  refine R.iconst (v := 0) dL_event_543 rfl ?_
  refine R.putI dL_event_544 fl_L_30 (fun q hq => by cases hq; exact Or.inl rfl) (by decide) rfl rfl rfl ?_
  have hM1 := hW.sY (f := 4) (v := 0)
  have F1 : Fx SWl 0 0 M (sI M 32 0 4 0) := (Fx.rf SWl 0 0 M).y (Or.inr (Or.inr (Or.inl rfl)))
  generalize sI M 32 0 4 0 = M1 at hM1 F1 ⊢
  have hC1 := hC.fx F1 (fun _ _ z => SWl_K z)
  refine R.aload_n dL_event_547 rfl (by first | rfl | exact rfv_rf _) ?_
  refine cl_L_223 rfl rfl (by first | exact Nat.le_of_ble_eq_true rfl | simp [rf_cat, Value.category]) dL_event_548 ?_
  refine c_replaceSpring (d := d + 1) hC1 hp hI.pv.kg (QR_1 (S := S) (p := p) (v := wYs W 4) (Y := spY (kY S)) (by rw [s3]) (fun M8 hC8 F8 => ?_))
  refine R.iload dL_event_551 rfl ?_
  refine R.icmp_ne (tgt := 560) dL_event_553 (by decide) (fun c => absurd rfl c) (fun _ => ?_)
  refine R.iconst (v := 1) dL_event_556 rfl ?_
  refine R.goto (tgt := 561) dL_event_557 (by decide) ?_
  refine WP.ret (ov := some (.int _)) dL_event_561 ⟨rfl, _, rfl, by first | rfl | assumption | exact nar_b01 (by assumption)⟩ ?_
  have b1 := F1.2.2.2.1
  have b2 := F1.2.2.2.2
  have b3 := F8.2.2.1
  have b4 := F8.2.2.2
  exact hq M8 _ (p + 1) _ hC8 (hM1.fk F8) (h9.mono (Nat.le_succ T) hT) (by omega) (by omega) (by omega)
set_option maxHeartbeats 1000000 in
set_option maxRecDepth 8000 in
theorem ev_amp {S : KS} {p k v0 d T : Nat} {W : LW} {x : Int32} {M : Mem} {Q : Out → Mem → Prop} (h : EH M S p W T) (hk : k < wN W) (hv : v0 < 32) (hq : EQ M p T Q) : WP mL_event (d + 22) 562 [.ref (rf 10 0), .ref (rf 32 0), .int x, .ref (rf 11 k), .int (nI (1 + v0)), UN] [] M Q := by
  obtain ⟨hC, hW, hI, hT, hp⟩ := h
  have c := hW.c hk
  have r := hI.rc hk
  have hns := hI.ns hk
  have hk16 : k < 16 := by have := hI.n9; omega
  obtain ⟨a9, ha9, ea⟩ := bi_in x 8 (b := 3) (n := 3) (by decide) (by decide)
  have h9 := hI.ampl (a := a9) (by omega)
  have s1 : yS (kY S) 1 = wYs W 2 := hI.1.1.2.2.2.2.1.2.1
  have hr9 : (0 : Int32) ≤ nI a9 ∧ nI a9 ≤ 50 := ⟨Int32.not_lt.mp (nI_pos (by omega)), show nI a9 ≤ nI 50 from Int32.not_lt.mp (nI_nlt (by omega) (by omega))⟩
  refine R.aload_n dL_event_562 rfl (by first | rfl | exact rfv_rf _) ?_
  refine R.getIS (hW.yi (by decide)) dL_event_563 fl_L_82 (by decide) rfl ?_
  refine R.istore dL_event_566 (Nat.le_of_ble_eq_true rfl) (by decide) (by first | rfl | simp [lft, rf_cat]) rfl ?_
  refine R.aload_n dL_event_568 rfl (by first | rfl | exact rfv_rf _) ?_
  refine R.iload_n dL_event_569 rfl ?_
  refine R.bipush (v := 8) dL_event_570 (by decide) ?_
  refine R.iconst (v := 3) dL_event_572 rfl ?_
  refine cl_L_181 rfl rfl (by first | exact Nat.le_of_ble_eq_true rfl | simp [rf_cat, Value.category]) dL_event_573 ?_
  refine s_bits ?_
  rw [ea]
  refine R.putI dL_event_576 fl_L_82 (fun q hq => by cases hq; exact Or.inl rfl) (by decide) rfl rfl rfl ?_
  have hM1 := hW.sY (f := 2) (v := nI a9)
  have F1 : Fx SWl 0 0 M (sI M 32 0 2 (nI a9)) := (Fx.rf SWl 0 0 M).y (Or.inr (Or.inr (Or.inl rfl)))
  generalize sI M 32 0 2 (nI a9) = M1 at hM1 F1 ⊢
  have hC1 := hC.fx F1 (fun _ _ z => SWl_K z)
  refine R.aload_n dL_event_579 rfl (by first | rfl | exact rfv_rf _) ?_
  refine R.aload_n dL_event_580 rfl (by first | rfl | exact rfv_rf _) ?_
  refine R.getIS ((hM1.yi (by decide)).trans (vY_s _ _ _)) dL_event_581 fl_L_82 (by decide) rfl ?_
  refine cl_L_226 rfl rfl (by first | exact Nat.le_of_ble_eq_true rfl | simp [rf_cat, Value.category]) dL_event_584 ?_
  refine c_setAmplitude (d := d + 1) hC1 hp hI.pv.kg (QR_1 (S := S) (p := p) (v := wYs W 2) (Y := uS (kY S) 1 (nI a9)) (by rw [if_pos hr9, s1]) (fun M8 hC8 F8 => ?_))
  refine R.iload dL_event_587 rfl ?_
  refine R.icmp_ne (tgt := 596) dL_event_589 (by decide) (fun c => absurd rfl c) (fun _ => ?_)
  refine R.iconst (v := 1) dL_event_592 rfl ?_
  refine R.goto (tgt := 597) dL_event_593 (by decide) ?_
  refine WP.ret (ov := some (.int _)) dL_event_597 ⟨rfl, _, rfl, by first | rfl | assumption | exact nar_b01 (by assumption)⟩ ?_
  have b1 := F1.2.2.2.1
  have b2 := F1.2.2.2.2
  have b3 := F8.2.2.1
  have b4 := F8.2.2.2
  exact hq M8 _ (p + 1) _ hC8 (hM1.fk F8) (h9.mono (Nat.le_succ T) hT) (by omega) (by omega) (by omega)
set_option maxHeartbeats 2000000 in
set_option maxRecDepth 8000 in
theorem ev_sal {S : KS} {p k v0 d T : Nat} {W : LW} {x : Int32} {M : Mem} {Q : Out → Mem → Prop} (h : EH M S p W T) (hk : k < wN W) (hv : v0 < 32) (hq : EQ M p T Q) : WP mL_event (d + 22) 598 [.ref (rf 10 0), .ref (rf 32 0), .int x, .ref (rf 11 k), .int (nI (1 + v0)), UN] [] M Q := by
  obtain ⟨hC, hW, hI, hT, hp⟩ := h
  have c := hW.c hk
  have r := hI.rc hk
  have hns := hI.ns hk
  have hk16 : k < 16 := by have := hI.n9; omega
  have eq9 : (aU S 0 fun b => .inl (yRef (kY S) k b)) = (.inl (yRef (kY S) k 0) : An) := aU_s hI.ku
  have yes : ∀ M1, LM M1 W → Fx Sz 1 4 M M1 → WP mL_event (d + 22) 657 [.ref (rf 10 0), .ref (rf 32 0), .int x, .ref (rf 11 k), .int (nI (1 + v0)), UN] [] M1 Q := by
    intro M1 hM1 F1
    refine R.iconst (v := 1) dL_event_657 rfl ?_
    refine R.goto (tgt := 662) dL_event_658 (by decide) ?_
    refine WP.ret (ov := some (.int _)) dL_event_662 ⟨rfl, _, rfl, by first | rfl | assumption | exact nar_b01 (by assumption)⟩ ?_
    have b1 := F1.2.2.2.1
    have b2 := F1.2.2.2.2
    exact hq M1 S p W (hC.fz F1) hM1 (hI.mono (Nat.le_succ T) hT) (by omega) (by omega) (by omega)
  refine R.aload_n dL_event_598 rfl (by first | rfl | exact rfv_rf _) ?_
  refine R.aload_n dL_event_599 rfl (by first | rfl | exact rfv_rf _) ?_
  refine R.getIS (c.i.trans r.1) dL_event_600 fl_L_106 (by decide) rfl ?_
  refine R.iconst (v := 0) dL_event_603 rfl ?_
  refine cl_L_229 rfl rfl (by first | exact Nat.le_of_ble_eq_true rfl | simp [rf_cat, Value.category]) dL_event_604 ?_
  refine c_refusalReason (d := d + 1) hC (QA_s (hI.kc hk) eq9 ?_)
  skip
  by_cases zr : yRef (kY S) k 0 = 0
  · skip
    refine R.if_eq (tgt := 663) dL_event_607 (by decide) (fun _ => ?_) (fun z => absurd zr z)
    refine R.aload_n dL_event_663 rfl (by first | rfl | exact rfv_rf _) ?_
    refine R.aload_n dL_event_664 rfl (by first | rfl | exact rfv_rf _) ?_
    refine R.aload_n dL_event_665 rfl (by first | rfl | exact rfv_rf _) ?_
    refine cl_L_232 rfl rfl (by first | exact Nat.le_of_ble_eq_true rfl | simp [rf_cat, Value.category]) dL_event_666 ?_
    refine s_isSold (d := d) hC hW hI hT hp hk zr (fun M1 S1 W1 hC1 hM1 h9 b1 b2 => ?_)
    refine WP.ret (ov := some (.int _)) dL_event_669 ⟨rfl, _, rfl, by first | rfl | assumption | exact nar_b01 (by assumption)⟩ ?_
    exact hq M1 S1 (p + 1) W1 hC1 hM1 h9 (by omega) (by omega) (by omega)
  · have hr9 := hI.ref hk zr
    have hl := hI.rl hk
    have t39 := hI.t39
    refine R.if_eq (tgt := 663) dL_event_607 (by decide) (fun z => absurd z zr) (fun _ => ?_)
    skip
    by_cases zg : wI W k 4 = 0
    · cases e : wP W k with
      | some j =>
        have e6 := c.p
        rw [e] at e6
        refine R.aload_n dL_event_610 rfl (by first | rfl | exact rfv_rf _) ?_
        refine R.getIS (c.i.trans zg) dL_event_611 fl_L_146 (by decide) rfl ?_
        refine R.if_ne (tgt := 657) dL_event_614 (by decide) (fun z => absurd rfl z) (fun _ => ?_)
        refine R.aload_n dL_event_617 rfl (by first | rfl | exact rfv_rf _) ?_
        refine R.getS (e6) dL_event_618 fl_L_124 (by decide) rfl ?_
        refine R.ifnonnullS (tgt := 657) (by first | decide | exact Nat.lt_of_le_of_lt (Nat.le_of_eq (kd_rf _ _ (by decide))) (by decide)) dL_event_621 (by decide) ?_
        exact yes M hW (Fx.rf _ _ _ _)
      | none =>
        have e6 := c.p
        rw [e] at e6
        refine R.aload_n dL_event_610 rfl (by first | rfl | exact rfv_rf _) ?_
        refine R.getIS (c.i.trans zg) dL_event_611 fl_L_146 (by decide) rfl ?_
        refine R.if_ne (tgt := 657) dL_event_614 (by decide) (fun z => absurd rfl z) (fun _ => ?_)
        refine R.aload_n dL_event_617 rfl (by first | rfl | exact rfv_rf _) ?_
        refine R.getN (e6) dL_event_618 fl_L_124 (by decide) rfl ?_
        refine R.ifnonnullN (tgt := 657) dL_event_621 (by decide) ?_
        refine R.aload_n dL_event_624 rfl (by first | rfl | exact rfv_rf _) ?_
        refine R.getS (c.r8) dL_event_625 fl_L_153 (by decide) rfl ?_
        refine ic_L_140 rfl (by first | exact Nat.le_of_ble_eq_true rfl | simp [rf_cat, Value.category]) dL_event_628 ?_
        refine s_alSize c.rd ?_
        rw [List.length_map]
        refine ⟨_, rfl, ?_⟩
        refine R.iconst (v := nI 2) dL_event_633 rfl ?_
        skip
        by_cases zl : (wR W k).length < 2
        · skip
          refine R.icmp_lt (tgt := 657) dL_event_634 (by decide) (fun _ => ?_) (fun z => absurd (nI_lt zl (by omega)) (Int32.not_lt.mpr (Int32.not_lt.mp z)))
          exact yes M hW (Fx.rf _ _ _ _)
        · have he : wR W k ≠ [] := fun z => zl (by rw [z]; decide)
          refine R.icmp_lt (tgt := 657) dL_event_634 (by decide) (fun z => absurd z (nI_nlt (Nat.not_lt.mp zl) (by omega))) (fun _ => ?_)
          refine R.aload_n dL_event_637 rfl (by first | rfl | exact rfv_rf _) ?_
          refine R.getIS (hW.yi (by decide)) dL_event_638 fl_L_64 (by decide) rfl ?_
          refine R.bipush (v := 20) dL_event_641 (by decide) ?_
          skip
          by_cases zt : wYs W 9 < 20
          · skip
            refine R.icmp_lt (tgt := 657) dL_event_643 (by decide) (fun _ => ?_) (fun z => absurd zt z)
            exact yes M hW (Fx.rf _ _ _ _)
          · have zm : wYs W 7 < sdM W k := by
              rcases hr9 with z | z | z | z | z
              · exact absurd zg z
              · exact absurd e z
              · exact absurd z zl
              · exact absurd z zt
              · exact z
            refine R.icmp_lt (tgt := 657) dL_event_643 (by decide) (fun z => absurd z zt) (fun _ => ?_)
            refine R.aload_n dL_event_646 rfl (by first | rfl | exact rfv_rf _) ?_
            refine cl_L_170 rfl rfl (by first | exact Nat.le_of_ble_eq_true rfl | simp [rf_cat, Value.category]) dL_event_647 ?_
            refine s_lmean (d := d + 17) hk he (hI.mn hk he).2.1 hW (fun M1 hM1 F1 => ?_)
            refine R.aload_n dL_event_650 rfl (by first | rfl | exact rfv_rf _) ?_
            refine R.getIS (hM1.yi (by decide)) dL_event_651 fl_L_58 (by decide) rfl ?_
            refine R.icmp_le (tgt := 661) dL_event_654 (by decide) (fun z => absurd zm (Int32.not_lt.mpr z)) (fun _ => ?_)
            exact yes M1 hM1 F1
    · skip
      refine R.aload_n dL_event_610 rfl (by first | rfl | exact rfv_rf _) ?_
      refine R.getIS (c.i) dL_event_611 fl_L_146 (by decide) rfl ?_
      refine R.if_ne (tgt := 657) dL_event_614 (by decide) (fun _ => ?_) (fun z => absurd z zg)
      exact yes M hW (Fx.rf _ _ _ _)
set_option maxHeartbeats 2000000 in
set_option maxRecDepth 8000 in
theorem ev_wei {S : KS} {p k v0 d T : Nat} {W : LW} {x : Int32} {M : Mem} {Q : Out → Mem → Prop} (h : EH M S p W T) (hk : k < wN W) (hv : v0 < 32) (hq : EQ M p T Q) : WP mL_event (d + 22) 670 [.ref (rf 10 0), .ref (rf 32 0), .int x, .ref (rf 11 k), .int (nI (1 + v0)), UN] [] M Q := by
  obtain ⟨hC, hW, hI, hT, hp⟩ := h
  have c := hW.c hk
  have r := hI.rc hk
  have hns := hI.ns hk
  have hk16 : k < 16 := by have := hI.n9; omega
  have hY7 := hI.pv.a.1 k hk16
  by_cases zg : wI W k 4 = 0
  · have h7 : ¬ yC (kY S) k 7 = 0 := fun z => by
      have q := r.2.2.2.1
      rw [z, zg] at q
      exact absurd q (by decide)
    have e5 : wI W k 5 = 0 ∨ wI W k 5 = 1 := by
      rw [r.2.2.2.2.2.2.2.2.1]
      split
      · exact Or.inr rfl
      · exact Or.inl rfl
    have hw := hI.weigh (k := k) (a := 0) (e9 := none) hk hT
    refine R.aload_n dL_event_670 rfl (by first | rfl | exact rfv_rf _) ?_
    refine R.getIS (c.i.trans zg) dL_event_671 fl_L_146 (by decide) rfl ?_
    refine R.if_eq (tgt := 694) dL_event_674 (by decide) (fun _ => ?_) (fun z => absurd rfl z)
    refine R.aload_n dL_event_694 rfl (by first | rfl | exact rfv_rf _) ?_
    refine R.aload_n dL_event_695 rfl (by first | rfl | exact rfv_rf _) ?_
    refine R.getIS (c.i.trans r.1) dL_event_696 fl_L_106 (by decide) rfl ?_
    refine cl_L_236 rfl rfl (by first | exact Nat.le_of_ble_eq_true rfl | simp [rf_cat, Value.category]) dL_event_699 ?_
    refine c_weigh (d := d + 1) hC hp hI.pv.kg (QR_c (S := S) (p := p) (hI.kc hk) (v := (tkY (kY S) k).1) (Y := (tkY (kY S) k).2) ?_ (fun M8 hC8 F8 => ?_))
    · show (if yC (kY S) k 7 = 0 then _ else _) = _
      rw [if_neg h7]
    have hM8 := hW.fk F8
    refine R.aload_n dL_event_702 rfl (by first | rfl | exact rfv_rf _) ?_
    refine R.aload_n dL_event_703 rfl (by first | rfl | exact rfv_rf _) ?_
    refine cl_L_239 rfl rfl (by first | exact Nat.le_of_ble_eq_true rfl | simp [rf_cat, Value.category]) dL_event_704 ?_
    refine s_weighs (d := d + 11) hM8 hk (hI.hg hk) hI.wh.2.2.2.2.1 (odd_ne _) (Nat.le_trans (hI.rl hk) (by omega)) e5 (fun M9 a e9 hM9 F9 => ?_)
    rw [hw.1]
    refine R.icmp_ne (tgt := 714) dL_event_707 (by decide) (fun c => absurd rfl c) (fun _ => ?_)
    refine R.iconst (v := 1) dL_event_710 rfl ?_
    refine R.goto (tgt := 715) dL_event_711 (by decide) ?_
    refine WP.ret (ov := some (.int _)) dL_event_715 ⟨rfl, _, rfl, by first | rfl | assumption | exact nar_b01 (by assumption)⟩ ?_
    have b3 := F8.2.2.1
    have b4 := F8.2.2.2
    have b5 := F9.2.2.2.1
    have b6 := F9.2.2.2.2
    have h9 := (hI.weigh (k := k) (a := a) (e9 := e9) hk hT).2
    exact hq M9 _ (p + 1) _ (hC8.fx F9 (fun _ _ z => SWl_K z)) hM9 h9 (by omega) (by omega) (by omega)
  · have h7 : yC (kY S) k 7 = 0 := by
      rcases hY7 with z | z
      · exact z
      · have q := r.2.2.2.1
        rw [z] at q
        exact absurd (q.trans (by decide)) zg
    have hYG : YG (kY S) := hI.wh.2.1
    refine R.aload_n dL_event_670 rfl (by first | rfl | exact rfv_rf _) ?_
    refine R.getIS (c.i) dL_event_671 fl_L_146 (by decide) rfl ?_
    refine R.if_eq (tgt := 694) dL_event_674 (by decide) (fun z => absurd z zg) (fun _ => ?_)
    refine R.aload_n dL_event_677 rfl (by first | rfl | exact rfv_rf _) ?_
    refine R.aload_n dL_event_678 rfl (by first | rfl | exact rfv_rf _) ?_
    refine R.getIS (c.i.trans r.1) dL_event_679 fl_L_106 (by decide) rfl ?_
    refine cl_L_143 rfl rfl (by first | exact Nat.le_of_ble_eq_true rfl | simp [rf_cat, Value.category]) dL_event_682 ?_
    refine c_isInYard (d := d + 1) hC hYG (QA_s (hI.kc hk) (congrArg Sum.inl h7) ?_)
    refine R.if_ne (tgt := 692) dL_event_685 (by decide) (fun z => absurd rfl z) (fun _ => ?_)
    refine R.iconst (v := 1) dL_event_688 rfl ?_
    refine R.goto (tgt := 693) dL_event_689 (by decide) ?_
    refine WP.ret (ov := some (.int _)) dL_event_693 ⟨rfl, _, rfl, by first | rfl | assumption | exact nar_b01 (by assumption)⟩ ?_
    exact hq M S p W hC hW (hI.mono (Nat.le_succ T) hT) (by omega) (by omega) (by omega)
set_option maxHeartbeats 1000000 in
set_option maxRecDepth 8000 in
theorem ev_case {S : KS} {p k v0 d T : Nat} {W : LW} {x : Int32} {M : Mem} {Q : Out → Mem → Prop} (h : EH M S p W T) (hk : k < wN W) (hv : v0 < 32) (hq : EQ M p T Q) : ∀ c9 : Nat, c9 < 16 → WP mL_event (d + 22) 46 [.ref (rf 10 0), .ref (rf 32 0), .int x, .ref (rf 11 k), .int (nI (1 + v0)), UN] [.int (nI c9)] M Q
  | 0, _ => R.tableIn (off := 50) (tgt := 96) dL_event_46 (by decide) (by decide) (by decide +kernel) (by decide) (ev_add h hk hv hq)
  | 1, _ => R.tableIn (off := 50) (tgt := 96) dL_event_46 (by decide) (by decide) (by decide +kernel) (by decide) (ev_add h hk hv hq)
  | 2, _ => R.tableIn (off := 138) (tgt := 184) dL_event_46 (by decide) (by decide) (by decide +kernel) (by decide) (ev_rem h hk hv hq)
  | 3, _ => R.tableIn (off := 222) (tgt := 268) dL_event_46 (by decide) (by decide) (by decide +kernel) (by decide) (ev_mov h hk hv hq)
  | 4, _ => R.tableIn (off := 222) (tgt := 268) dL_event_46 (by decide) (by decide) (by decide +kernel) (by decide) (ev_mov h hk hv hq)
  | 5, _ => R.tableIn (off := 401) (tgt := 447) dL_event_46 (by decide) (by decide) (by decide +kernel) (by decide) (ev_out h hk hv hq)
  | 6, _ => R.tableIn (off := 490) (tgt := 536) dL_event_46 (by decide) (by decide) (by decide +kernel) (by decide) (ev_spr h hk hv hq)
  | 7, _ => R.tableIn (off := 516) (tgt := 562) dL_event_46 (by decide) (by decide) (by decide +kernel) (by decide) (ev_amp h hk hv hq)
  | 8, _ => R.tableIn (off := 552) (tgt := 598) dL_event_46 (by decide) (by decide) (by decide +kernel) (by decide) (ev_sal h hk hv hq)
  | 9, _ => R.tableOut (tgt := 670) dL_event_46 (Or.inr (by decide)) (by decide) (ev_wei h hk hv hq)
  | 10, _ => R.tableOut (tgt := 670) dL_event_46 (Or.inr (by decide)) (by decide) (ev_wei h hk hv hq)
  | 11, _ => R.tableOut (tgt := 670) dL_event_46 (Or.inr (by decide)) (by decide) (ev_wei h hk hv hq)
  | 12, _ => R.tableOut (tgt := 670) dL_event_46 (Or.inr (by decide)) (by decide) (ev_wei h hk hv hq)
  | 13, _ => R.tableOut (tgt := 670) dL_event_46 (Or.inr (by decide)) (by decide) (ev_wei h hk hv hq)
  | 14, _ => R.tableOut (tgt := 670) dL_event_46 (Or.inr (by decide)) (by decide) (ev_wei h hk hv hq)
  | 15, _ => R.tableOut (tgt := 670) dL_event_46 (Or.inr (by decide)) (by decide) (ev_wei h hk hv hq)
  | c9 + 16, hc => absurd hc (by omega)
theorem s_event {S : KS} {p d T : Nat} {W : LW} {x : Int32} {M : Mem} {Q : Out → Mem → Prop} (h : EH M S p W T) (hq : EQ M p T Q) : WPc (d + 22) mL_event [.ref (rf 10 0), .ref (rf 32 0), .int x] M Q :=
  ev_head h.2.1 h.2.2.1.n2 (fun _ _ c9 hk hv hc => ev_case h hk hv hq c9 hc)
