/-! the model reads buyers, settings, a whole setup -/
set_option maxHeartbeats 4000000 in
set_option maxRecDepth 4000 in
theorem p_rdB {d n e : Nat} {b w N : Nat → Int32} {RR : OR9} {M0 M : Mem} {Q : Out → Mem → Prop} {Y : Yd} {m b9 : Nat} (h : PQ M0 M b n e w N RR) (hD : DR Y m b9 w) (hq : PRM Q M0 b n RR (buP0 b n (tS b n e) (tE b n e) b9 Y)) : WPc (d + 6) mX13_readBuyer [.ref (rf 11 0)] M Q := by
  refine WPc.of (by decide +kernel) (Nat.le_of_ble_eq_true rfl) rfl ?_
  unfold buP0 at hq
  have hm16 := hD.v.b6
  by_cases hf : 6 ≤ b9
  · rw [if_pos hf] at hq
    have hmn : nI b9 = nI 6 := by congr 1; omega
    refine R.aload_n dX13_readBuyer_0 rfl (by first | rfl | exact rfv_rf _) ?_
    refine R.getS (h.l.w) dX13_readBuyer_1 fl_X13_7 (by decide) rfl ?_
    refine R.iconst (v := nI 1) dX13_readBuyer_4 rfl ?_
    refine R.ialdN (k := 1) dX13_readBuyer_5 (by omega) (by show _ < mN M 14 0; rw [h.l.n]; omega) ?_
    rw [h.w, hD.r.h.1, show yF (uT Y 6 0) 5 = nI b9 from hD.v.f5]
    refine R.bipush (v := nI 6) dX13_readBuyer_6 (by decide) ?_
    refine R.icmp_ne (tgt := 18) dX13_readBuyer_8 (by decide) (fun c9 => absurd (hmn) c9) (fun _ => ?_)
    refine R.aload_n dX13_readBuyer_11 rfl (by first | rfl | exact rfv_rf _) ?_
    refine R.bipush (v := 6) dX13_readBuyer_12 (by decide) ?_
    refine cl_X13_224 rfl rfl (by first | exact Nat.le_of_ble_eq_true rfl | simp [rf_cat, Value.category]) dX13_readBuyer_14 ?_
    refine p_fail h (fun M1 h1 => ?_)
    refine WP.ret (ov := some (.int _)) dX13_readBuyer_17 ⟨rfl, _, rfl, by first | rfl | assumption | exact nar_b01 (by assumption)⟩ ?_
    exact hq M1 h1
  rw [if_neg hf] at hq
  have hm : b9 < 6 := by omega
  have hmn : ¬ nI b9 = nI 6 := fun q => by have := (nI_inj (by omega) (by omega)).mp q; omega
  unfold buP1 at hq
  by_cases c1 : nnC b n (tE b n e) = 0
  case neg =>
    rw [if_neg c1] at hq
    refine R.aload_n dX13_readBuyer_0 rfl (by first | rfl | exact rfv_rf _) ?_
    refine R.getS (h.l.w) dX13_readBuyer_1 fl_X13_7 (by decide) rfl ?_
    refine R.iconst (v := nI 1) dX13_readBuyer_4 rfl ?_
    refine R.ialdN (k := 1) dX13_readBuyer_5 (by omega) (by show _ < mN M 14 0; rw [h.l.n]; omega) ?_
    rw [h.w, hD.r.h.1, show yF (uT Y 6 0) 5 = nI b9 from hD.v.f5]
    refine R.bipush (v := nI 6) dX13_readBuyer_6 (by decide) ?_
    refine R.icmp_ne (tgt := 18) dX13_readBuyer_8 (by decide) (fun _ => ?_) (fun c9 => absurd c9 (hmn))
    refine R.aload_n dX13_readBuyer_18 rfl (by first | rfl | exact rfv_rf _) ?_
    refine cl_X13_233 rfl rfl (by first | exact Nat.le_of_ble_eq_true rfl | simp [rf_cat, Value.category]) dX13_readBuyer_19 ?_
    refine p_adv h (fun M1 h1 => ?_)
    refine R.aload_n dX13_readBuyer_22 rfl (by first | rfl | exact rfv_rf _) ?_
    refine cl_X13_242 rfl rfl (by first | exact Nat.le_of_ble_eq_true rfl | simp [rf_cat, Value.category]) dX13_readBuyer_23 ?_
    refine p_nmN h1 c1 (fun M2 h2 => ?_)
    refine R.if_eq (tgt := 62) dX13_readBuyer_26 (by decide) (fun _ => ?_) (fun c9 => absurd (rfl) c9)
    refine R.iconst (v := 0) dX13_readBuyer_62 rfl ?_
    refine WP.ret (ov := some (.int _)) dX13_readBuyer_63 ⟨rfl, _, rfl, by first | rfl | assumption | exact nar_b01 (by assumption)⟩ ?_
    exact hq M2 h2
  rw [if_pos c1] at hq
  unfold buP2 at hq
  cases hcn : bnF Y (nmF b (tS b n (tE b n e)) (tE b n (tE b n e))) 6 0 with
  | some j =>
    rw [hcn, if_neg (fun z => nomatch z)] at hq
    have hj16 := bn_lt hD.v.c c1 hcn
    refine R.aload_n dX13_readBuyer_0 rfl (by first | rfl | exact rfv_rf _) ?_
    refine R.getS (h.l.w) dX13_readBuyer_1 fl_X13_7 (by decide) rfl ?_
    refine R.iconst (v := nI 1) dX13_readBuyer_4 rfl ?_
    refine R.ialdN (k := 1) dX13_readBuyer_5 (by omega) (by show _ < mN M 14 0; rw [h.l.n]; omega) ?_
    rw [h.w, hD.r.h.1, show yF (uT Y 6 0) 5 = nI b9 from hD.v.f5]
    refine R.bipush (v := nI 6) dX13_readBuyer_6 (by decide) ?_
    refine R.icmp_ne (tgt := 18) dX13_readBuyer_8 (by decide) (fun _ => ?_) (fun c9 => absurd c9 (hmn))
    refine R.aload_n dX13_readBuyer_18 rfl (by first | rfl | exact rfv_rf _) ?_
    refine cl_X13_233 rfl rfl (by first | exact Nat.le_of_ble_eq_true rfl | simp [rf_cat, Value.category]) dX13_readBuyer_19 ?_
    refine p_adv h (fun M1 h1 => ?_)
    refine R.aload_n dX13_readBuyer_22 rfl (by first | rfl | exact rfv_rf _) ?_
    refine cl_X13_242 rfl rfl (by first | exact Nat.le_of_ble_eq_true rfl | simp [rf_cat, Value.category]) dX13_readBuyer_23 ?_
    refine p_nmS h1 c1 ?_
    refine R.if_eq (tgt := 62) dX13_readBuyer_26 (by decide) (fun c9 => absurd c9 (by decide)) (fun _ => ?_)
    refine R.aload_n dX13_readBuyer_29 rfl (by first | rfl | exact rfv_rf _) ?_
    refine R.sipush (v := 304) dX13_readBuyer_30 (by decide) ?_
    refine R.bipush (v := 11) dX13_readBuyer_33 (by decide) ?_
    refine R.aload_n dX13_readBuyer_35 rfl (by first | rfl | exact rfv_rf _) ?_
    refine R.getS (h1.l.w) dX13_readBuyer_36 fl_X13_7 (by decide) rfl ?_
    refine R.iconst (v := nI 1) dX13_readBuyer_39 rfl ?_
    refine R.ialdN (k := 1) dX13_readBuyer_40 (by omega) (by show _ < mN M1 14 0; rw [h1.l.n]; omega) ?_
    rw [h1.w, hD.r.h.1, show yF (uT Y 6 0) 5 = nI b9 from hD.v.f5]
    refine R.imul dX13_readBuyer_41 ?_
    refine R.iadd dX13_readBuyer_42 ?_
    rw [wi_b0]
    refine R.aload_n dX13_readBuyer_43 rfl (by first | rfl | exact rfv_rf _) ?_
    refine cl_X13_249 rfl rfl (by first | exact Nat.le_of_ble_eq_true rfl | simp [rf_cat, Value.category]) dX13_readBuyer_44 ?_
    refine p_bH h1 hD.r (show CrB (uT Y 6 0) m b9 from hD.v.c) c1 ?_
    rw [bnF_T, hcn]
    change WP _ _ _ _ (.int (nI j) :: _) _ _
    refine R.iconst (v := -1) dX13_readBuyer_47 rfl ?_
    refine R.icmp_eq (tgt := 55) dX13_readBuyer_48 (by decide) (fun c9 => absurd c9 (nI_m1 (by omega))) (fun _ => ?_)
    refine R.iconst (v := 1) dX13_readBuyer_51 rfl ?_
    refine R.goto (tgt := 56) dX13_readBuyer_52 (by decide) ?_
    refine cl_X13_258 rfl rfl (by first | exact Nat.le_of_ble_eq_true rfl | simp [rf_cat, Value.category]) dX13_readBuyer_56 ?_
    refine p_nnU h1 (fun M2 h2 => ?_)
    refine R.if_ne (tgt := 64) dX13_readBuyer_59 (by decide) (fun c9 => absurd (rfl) c9) (fun _ => ?_)
    refine R.iconst (v := 0) dX13_readBuyer_62 rfl ?_
    refine WP.ret (ov := some (.int _)) dX13_readBuyer_63 ⟨rfl, _, rfl, by first | rfl | assumption | exact nar_b01 (by assumption)⟩ ?_
    exact hq M2 h2
  | none =>
  rw [if_pos hcn] at hq
  unfold buP3 at hq
  by_cases c2 : nbC b n (tE b n (tE b n e)) 0 9999 = 0
  case neg =>
    rw [if_neg c2] at hq
    refine R.aload_n dX13_readBuyer_0 rfl (by first | rfl | exact rfv_rf _) ?_
    refine R.getS (h.l.w) dX13_readBuyer_1 fl_X13_7 (by decide) rfl ?_
    refine R.iconst (v := nI 1) dX13_readBuyer_4 rfl ?_
    refine R.ialdN (k := 1) dX13_readBuyer_5 (by omega) (by show _ < mN M 14 0; rw [h.l.n]; omega) ?_
    rw [h.w, hD.r.h.1, show yF (uT Y 6 0) 5 = nI b9 from hD.v.f5]
    refine R.bipush (v := nI 6) dX13_readBuyer_6 (by decide) ?_
    refine R.icmp_ne (tgt := 18) dX13_readBuyer_8 (by decide) (fun _ => ?_) (fun c9 => absurd c9 (hmn))
    refine R.aload_n dX13_readBuyer_18 rfl (by first | rfl | exact rfv_rf _) ?_
    refine cl_X13_233 rfl rfl (by first | exact Nat.le_of_ble_eq_true rfl | simp [rf_cat, Value.category]) dX13_readBuyer_19 ?_
    refine p_adv h (fun M1 h1 => ?_)
    refine R.aload_n dX13_readBuyer_22 rfl (by first | rfl | exact rfv_rf _) ?_
    refine cl_X13_242 rfl rfl (by first | exact Nat.le_of_ble_eq_true rfl | simp [rf_cat, Value.category]) dX13_readBuyer_23 ?_
    refine p_nmS h1 c1 ?_
    refine R.if_eq (tgt := 62) dX13_readBuyer_26 (by decide) (fun c9 => absurd c9 (by decide)) (fun _ => ?_)
    refine R.aload_n dX13_readBuyer_29 rfl (by first | rfl | exact rfv_rf _) ?_
    refine R.sipush (v := 304) dX13_readBuyer_30 (by decide) ?_
    refine R.bipush (v := 11) dX13_readBuyer_33 (by decide) ?_
    refine R.aload_n dX13_readBuyer_35 rfl (by first | rfl | exact rfv_rf _) ?_
    refine R.getS (h1.l.w) dX13_readBuyer_36 fl_X13_7 (by decide) rfl ?_
    refine R.iconst (v := nI 1) dX13_readBuyer_39 rfl ?_
    refine R.ialdN (k := 1) dX13_readBuyer_40 (by omega) (by show _ < mN M1 14 0; rw [h1.l.n]; omega) ?_
    rw [h1.w, hD.r.h.1, show yF (uT Y 6 0) 5 = nI b9 from hD.v.f5]
    refine R.imul dX13_readBuyer_41 ?_
    refine R.iadd dX13_readBuyer_42 ?_
    rw [wi_b0]
    refine R.aload_n dX13_readBuyer_43 rfl (by first | rfl | exact rfv_rf _) ?_
    refine cl_X13_249 rfl rfl (by first | exact Nat.le_of_ble_eq_true rfl | simp [rf_cat, Value.category]) dX13_readBuyer_44 ?_
    refine p_bH h1 hD.r (show CrB (uT Y 6 0) m b9 from hD.v.c) c1 ?_
    rw [bnF_T, hcn]
    change WP _ _ _ _ (.int (-1) :: _) _ _
    refine R.iconst (v := -1) dX13_readBuyer_47 rfl ?_
    refine R.icmp_eq (tgt := 55) dX13_readBuyer_48 (by decide) (fun _ => ?_) (fun c9 => absurd (rfl) c9)
    refine R.iconst (v := 0) dX13_readBuyer_55 rfl ?_
    refine cl_X13_258 rfl rfl (by first | exact Nat.le_of_ble_eq_true rfl | simp [rf_cat, Value.category]) dX13_readBuyer_56 ?_
    refine p_nnS h1 (by omega) c1 (fun M2 h2 => ?_)
    refine R.if_ne (tgt := 64) dX13_readBuyer_59 (by decide) (fun _ => ?_) (fun c9 => absurd c9 (by decide))
    refine R.aload_n dX13_readBuyer_64 rfl (by first | rfl | exact rfv_rf _) ?_
    refine R.iconst (v := nI 0) dX13_readBuyer_65 rfl ?_
    refine R.iconst (v := 0) dX13_readBuyer_66 rfl ?_
    refine R.sipush (v := 9999) dX13_readBuyer_67 (by decide) ?_
    refine cl_X13_262 rfl rfl (by first | exact Nat.le_of_ble_eq_true rfl | simp [rf_cat, Value.category]) dX13_readBuyer_70 ?_
    refine p_tkN (k := 0) h2 c2 (fun M3 h3 => ?_)
    refine R.if_eq (tgt := 98) dX13_readBuyer_73 (by decide) (fun _ => ?_) (fun c9 => absurd (rfl) c9)
    refine R.iconst (v := 0) dX13_readBuyer_98 rfl ?_
    refine WP.ret (ov := some (.int _)) dX13_readBuyer_99 ⟨rfl, _, rfl, by first | rfl | assumption | exact nar_b01 (by assumption)⟩ ?_
    exact hq M3 h3
  rw [if_pos c2] at hq
  unfold buP4 at hq
  by_cases c3 : nbC b n (tE b n (tE b n (tE b n e))) 0 50 = 0
  case neg =>
    rw [if_neg c3] at hq
    refine R.aload_n dX13_readBuyer_0 rfl (by first | rfl | exact rfv_rf _) ?_
    refine R.getS (h.l.w) dX13_readBuyer_1 fl_X13_7 (by decide) rfl ?_
    refine R.iconst (v := nI 1) dX13_readBuyer_4 rfl ?_
    refine R.ialdN (k := 1) dX13_readBuyer_5 (by omega) (by show _ < mN M 14 0; rw [h.l.n]; omega) ?_
    rw [h.w, hD.r.h.1, show yF (uT Y 6 0) 5 = nI b9 from hD.v.f5]
    refine R.bipush (v := nI 6) dX13_readBuyer_6 (by decide) ?_
    refine R.icmp_ne (tgt := 18) dX13_readBuyer_8 (by decide) (fun _ => ?_) (fun c9 => absurd c9 (hmn))
    refine R.aload_n dX13_readBuyer_18 rfl (by first | rfl | exact rfv_rf _) ?_
    refine cl_X13_233 rfl rfl (by first | exact Nat.le_of_ble_eq_true rfl | simp [rf_cat, Value.category]) dX13_readBuyer_19 ?_
    refine p_adv h (fun M1 h1 => ?_)
    refine R.aload_n dX13_readBuyer_22 rfl (by first | rfl | exact rfv_rf _) ?_
    refine cl_X13_242 rfl rfl (by first | exact Nat.le_of_ble_eq_true rfl | simp [rf_cat, Value.category]) dX13_readBuyer_23 ?_
    refine p_nmS h1 c1 ?_
    refine R.if_eq (tgt := 62) dX13_readBuyer_26 (by decide) (fun c9 => absurd c9 (by decide)) (fun _ => ?_)
    refine R.aload_n dX13_readBuyer_29 rfl (by first | rfl | exact rfv_rf _) ?_
    refine R.sipush (v := 304) dX13_readBuyer_30 (by decide) ?_
    refine R.bipush (v := 11) dX13_readBuyer_33 (by decide) ?_
    refine R.aload_n dX13_readBuyer_35 rfl (by first | rfl | exact rfv_rf _) ?_
    refine R.getS (h1.l.w) dX13_readBuyer_36 fl_X13_7 (by decide) rfl ?_
    refine R.iconst (v := nI 1) dX13_readBuyer_39 rfl ?_
    refine R.ialdN (k := 1) dX13_readBuyer_40 (by omega) (by show _ < mN M1 14 0; rw [h1.l.n]; omega) ?_
    rw [h1.w, hD.r.h.1, show yF (uT Y 6 0) 5 = nI b9 from hD.v.f5]
    refine R.imul dX13_readBuyer_41 ?_
    refine R.iadd dX13_readBuyer_42 ?_
    rw [wi_b0]
    refine R.aload_n dX13_readBuyer_43 rfl (by first | rfl | exact rfv_rf _) ?_
    refine cl_X13_249 rfl rfl (by first | exact Nat.le_of_ble_eq_true rfl | simp [rf_cat, Value.category]) dX13_readBuyer_44 ?_
    refine p_bH h1 hD.r (show CrB (uT Y 6 0) m b9 from hD.v.c) c1 ?_
    rw [bnF_T, hcn]
    change WP _ _ _ _ (.int (-1) :: _) _ _
    refine R.iconst (v := -1) dX13_readBuyer_47 rfl ?_
    refine R.icmp_eq (tgt := 55) dX13_readBuyer_48 (by decide) (fun _ => ?_) (fun c9 => absurd (rfl) c9)
    refine R.iconst (v := 0) dX13_readBuyer_55 rfl ?_
    refine cl_X13_258 rfl rfl (by first | exact Nat.le_of_ble_eq_true rfl | simp [rf_cat, Value.category]) dX13_readBuyer_56 ?_
    refine p_nnS h1 (by omega) c1 (fun M2 h2 => ?_)
    refine R.if_ne (tgt := 64) dX13_readBuyer_59 (by decide) (fun _ => ?_) (fun c9 => absurd c9 (by decide))
    refine R.aload_n dX13_readBuyer_64 rfl (by first | rfl | exact rfv_rf _) ?_
    refine R.iconst (v := nI 0) dX13_readBuyer_65 rfl ?_
    refine R.iconst (v := 0) dX13_readBuyer_66 rfl ?_
    refine R.sipush (v := 9999) dX13_readBuyer_67 (by decide) ?_
    refine cl_X13_262 rfl rfl (by first | exact Nat.le_of_ble_eq_true rfl | simp [rf_cat, Value.category]) dX13_readBuyer_70 ?_
    refine p_tkS (k := 0) h2 (by omega) c2 (fun M3 h3 => ?_)
    refine R.if_eq (tgt := 98) dX13_readBuyer_73 (by decide) (fun c9 => absurd c9 (by decide)) (fun _ => ?_)
    refine R.aload_n dX13_readBuyer_76 rfl (by first | rfl | exact rfv_rf _) ?_
    refine R.iconst (v := nI 1) dX13_readBuyer_77 rfl ?_
    refine R.iconst (v := 0) dX13_readBuyer_78 rfl ?_
    refine R.bipush (v := 50) dX13_readBuyer_79 (by decide) ?_
    refine cl_X13_262 rfl rfl (by first | exact Nat.le_of_ble_eq_true rfl | simp [rf_cat, Value.category]) dX13_readBuyer_81 ?_
    refine p_tkN (k := 1) h3 c3 (fun M4 h4 => ?_)
    refine R.if_eq (tgt := 98) dX13_readBuyer_84 (by decide) (fun _ => ?_) (fun c9 => absurd (rfl) c9)
    refine R.iconst (v := 0) dX13_readBuyer_98 rfl ?_
    refine WP.ret (ov := some (.int _)) dX13_readBuyer_99 ⟨rfl, _, rfl, by first | rfl | assumption | exact nar_b01 (by assumption)⟩ ?_
    exact hq M4 h4
  rw [if_pos c3] at hq
  unfold buP5 at hq
  by_cases c4 : nbC b n (tE b n (tE b n (tE b n (tE b n e)))) 0 100 = 0
  case neg =>
    rw [if_neg c4] at hq
    refine R.aload_n dX13_readBuyer_0 rfl (by first | rfl | exact rfv_rf _) ?_
    refine R.getS (h.l.w) dX13_readBuyer_1 fl_X13_7 (by decide) rfl ?_
    refine R.iconst (v := nI 1) dX13_readBuyer_4 rfl ?_
    refine R.ialdN (k := 1) dX13_readBuyer_5 (by omega) (by show _ < mN M 14 0; rw [h.l.n]; omega) ?_
    rw [h.w, hD.r.h.1, show yF (uT Y 6 0) 5 = nI b9 from hD.v.f5]
    refine R.bipush (v := nI 6) dX13_readBuyer_6 (by decide) ?_
    refine R.icmp_ne (tgt := 18) dX13_readBuyer_8 (by decide) (fun _ => ?_) (fun c9 => absurd c9 (hmn))
    refine R.aload_n dX13_readBuyer_18 rfl (by first | rfl | exact rfv_rf _) ?_
    refine cl_X13_233 rfl rfl (by first | exact Nat.le_of_ble_eq_true rfl | simp [rf_cat, Value.category]) dX13_readBuyer_19 ?_
    refine p_adv h (fun M1 h1 => ?_)
    refine R.aload_n dX13_readBuyer_22 rfl (by first | rfl | exact rfv_rf _) ?_
    refine cl_X13_242 rfl rfl (by first | exact Nat.le_of_ble_eq_true rfl | simp [rf_cat, Value.category]) dX13_readBuyer_23 ?_
    refine p_nmS h1 c1 ?_
    refine R.if_eq (tgt := 62) dX13_readBuyer_26 (by decide) (fun c9 => absurd c9 (by decide)) (fun _ => ?_)
    refine R.aload_n dX13_readBuyer_29 rfl (by first | rfl | exact rfv_rf _) ?_
    refine R.sipush (v := 304) dX13_readBuyer_30 (by decide) ?_
    refine R.bipush (v := 11) dX13_readBuyer_33 (by decide) ?_
    refine R.aload_n dX13_readBuyer_35 rfl (by first | rfl | exact rfv_rf _) ?_
    refine R.getS (h1.l.w) dX13_readBuyer_36 fl_X13_7 (by decide) rfl ?_
    refine R.iconst (v := nI 1) dX13_readBuyer_39 rfl ?_
    refine R.ialdN (k := 1) dX13_readBuyer_40 (by omega) (by show _ < mN M1 14 0; rw [h1.l.n]; omega) ?_
    rw [h1.w, hD.r.h.1, show yF (uT Y 6 0) 5 = nI b9 from hD.v.f5]
    refine R.imul dX13_readBuyer_41 ?_
    refine R.iadd dX13_readBuyer_42 ?_
    rw [wi_b0]
    refine R.aload_n dX13_readBuyer_43 rfl (by first | rfl | exact rfv_rf _) ?_
    refine cl_X13_249 rfl rfl (by first | exact Nat.le_of_ble_eq_true rfl | simp [rf_cat, Value.category]) dX13_readBuyer_44 ?_
    refine p_bH h1 hD.r (show CrB (uT Y 6 0) m b9 from hD.v.c) c1 ?_
    rw [bnF_T, hcn]
    change WP _ _ _ _ (.int (-1) :: _) _ _
    refine R.iconst (v := -1) dX13_readBuyer_47 rfl ?_
    refine R.icmp_eq (tgt := 55) dX13_readBuyer_48 (by decide) (fun _ => ?_) (fun c9 => absurd (rfl) c9)
    refine R.iconst (v := 0) dX13_readBuyer_55 rfl ?_
    refine cl_X13_258 rfl rfl (by first | exact Nat.le_of_ble_eq_true rfl | simp [rf_cat, Value.category]) dX13_readBuyer_56 ?_
    refine p_nnS h1 (by omega) c1 (fun M2 h2 => ?_)
    refine R.if_ne (tgt := 64) dX13_readBuyer_59 (by decide) (fun _ => ?_) (fun c9 => absurd c9 (by decide))
    refine R.aload_n dX13_readBuyer_64 rfl (by first | rfl | exact rfv_rf _) ?_
    refine R.iconst (v := nI 0) dX13_readBuyer_65 rfl ?_
    refine R.iconst (v := 0) dX13_readBuyer_66 rfl ?_
    refine R.sipush (v := 9999) dX13_readBuyer_67 (by decide) ?_
    refine cl_X13_262 rfl rfl (by first | exact Nat.le_of_ble_eq_true rfl | simp [rf_cat, Value.category]) dX13_readBuyer_70 ?_
    refine p_tkS (k := 0) h2 (by omega) c2 (fun M3 h3 => ?_)
    refine R.if_eq (tgt := 98) dX13_readBuyer_73 (by decide) (fun c9 => absurd c9 (by decide)) (fun _ => ?_)
    refine R.aload_n dX13_readBuyer_76 rfl (by first | rfl | exact rfv_rf _) ?_
    refine R.iconst (v := nI 1) dX13_readBuyer_77 rfl ?_
    refine R.iconst (v := 0) dX13_readBuyer_78 rfl ?_
    refine R.bipush (v := 50) dX13_readBuyer_79 (by decide) ?_
    refine cl_X13_262 rfl rfl (by first | exact Nat.le_of_ble_eq_true rfl | simp [rf_cat, Value.category]) dX13_readBuyer_81 ?_
    refine p_tkS (k := 1) h3 (by omega) c3 (fun M4 h4 => ?_)
    refine R.if_eq (tgt := 98) dX13_readBuyer_84 (by decide) (fun c9 => absurd c9 (by decide)) (fun _ => ?_)
    refine R.aload_n dX13_readBuyer_87 rfl (by first | rfl | exact rfv_rf _) ?_
    refine R.iconst (v := nI 2) dX13_readBuyer_88 rfl ?_
    refine R.iconst (v := 0) dX13_readBuyer_89 rfl ?_
    refine R.bipush (v := 100) dX13_readBuyer_90 (by decide) ?_
    refine cl_X13_262 rfl rfl (by first | exact Nat.le_of_ble_eq_true rfl | simp [rf_cat, Value.category]) dX13_readBuyer_92 ?_
    refine p_tkN (k := 2) h4 c4 (fun M5 h5 => ?_)
    refine R.if_ne (tgt := 100) dX13_readBuyer_95 (by decide) (fun c9 => absurd (rfl) c9) (fun _ => ?_)
    refine R.iconst (v := 0) dX13_readBuyer_98 rfl ?_
    refine WP.ret (ov := some (.int _)) dX13_readBuyer_99 ⟨rfl, _, rfl, by first | rfl | assumption | exact nar_b01 (by assumption)⟩ ?_
    exact hq M5 h5
  rw [if_pos c4] at hq
  unfold buP6 at hq
  have hR9 : RW (uT Y 6 0) m b9 m (nwF w b (304 + 11 * b9) (tS b n (tE b n e)) (tE b n (tE b n e) - tS b n (tE b n e))) := hD.r.ltB (fun x hx => by
    show (if 304 + 11 * b9 + 1 ≤ x ∧ x < 304 + 11 * b9 + 7 then _ else w x) = w x
    rw [if_neg (by omega)]) hm
  by_cases c7 : scC (tK b n (tE b n (tE b n (tE b n (tE b n (tE b n e)))))) = 0
  · rw [if_pos c7] at hq
    have hD8 : DR Y m b9 (nwF w b (304 + 11 * b9) (tS b n (tE b n e)) (tE b n (tE b n e) - tS b n (tE b n e))) := ⟨hR9, hD.2⟩
    have hNW : NW (nmF b (tS b n (tE b n e)) (tE b n (tE b n e))) (abW (nwF w b (304 + 11 * b9) (tS b n (tE b n e)) (tE b n (tE b n e) - tS b n (tE b n e))) b9 (nI (tE b n (tE b n e) - tS b n (tE b n e))) (nbV b n (tE b n (tE b n e))) (nbV b n (tE b n (tE b n (tE b n e)))) (nbV b n (tE b n (tE b n (tE b n (tE b n e)))))) (304 + 11 * b9) := NW.new c1 (abW_c.2.1) (fun j hj => by
      rw [abW_o (by omega)]
      show (if 304 + 11 * b9 + 1 ≤ 304 + 11 * b9 + 1 + j ∧ 304 + 11 * b9 + 1 + j < 304 + 11 * b9 + 7 then (if 304 + 11 * b9 + 1 + j - (304 + 11 * b9 + 1) < (tE b n (tE b n e) - tS b n (tE b n e)) then b (tS b n (tE b n e) + (304 + 11 * b9 + 1 + j - (304 + 11 * b9 + 1))) else 0) else w _) = _
      rw [if_pos (by omega), show 304 + 11 * b9 + 1 + j - (304 + 11 * b9 + 1) = j by omega])
    have hD9 := hD8.ab (nm := (nmF b (tS b n (tE b n e)) (tE b n (tE b n e)))) (L := (tE b n (tE b n e) - tS b n (tE b n e))) hm hNW
    refine R.aload_n dX13_readBuyer_0 rfl (by first | rfl | exact rfv_rf _) ?_
    refine R.getS (h.l.w) dX13_readBuyer_1 fl_X13_7 (by decide) rfl ?_
    refine R.iconst (v := nI 1) dX13_readBuyer_4 rfl ?_
    refine R.ialdN (k := 1) dX13_readBuyer_5 (by omega) (by show _ < mN M 14 0; rw [h.l.n]; omega) ?_
    rw [h.w, hD.r.h.1, show yF (uT Y 6 0) 5 = nI b9 from hD.v.f5]
    refine R.bipush (v := nI 6) dX13_readBuyer_6 (by decide) ?_
    refine R.icmp_ne (tgt := 18) dX13_readBuyer_8 (by decide) (fun _ => ?_) (fun c9 => absurd c9 (hmn))
    refine R.aload_n dX13_readBuyer_18 rfl (by first | rfl | exact rfv_rf _) ?_
    refine cl_X13_233 rfl rfl (by first | exact Nat.le_of_ble_eq_true rfl | simp [rf_cat, Value.category]) dX13_readBuyer_19 ?_
    refine p_adv h (fun M1 h1 => ?_)
    refine R.aload_n dX13_readBuyer_22 rfl (by first | rfl | exact rfv_rf _) ?_
    refine cl_X13_242 rfl rfl (by first | exact Nat.le_of_ble_eq_true rfl | simp [rf_cat, Value.category]) dX13_readBuyer_23 ?_
    refine p_nmS h1 c1 ?_
    refine R.if_eq (tgt := 62) dX13_readBuyer_26 (by decide) (fun c9 => absurd c9 (by decide)) (fun _ => ?_)
    refine R.aload_n dX13_readBuyer_29 rfl (by first | rfl | exact rfv_rf _) ?_
    refine R.sipush (v := 304) dX13_readBuyer_30 (by decide) ?_
    refine R.bipush (v := 11) dX13_readBuyer_33 (by decide) ?_
    refine R.aload_n dX13_readBuyer_35 rfl (by first | rfl | exact rfv_rf _) ?_
    refine R.getS (h1.l.w) dX13_readBuyer_36 fl_X13_7 (by decide) rfl ?_
    refine R.iconst (v := nI 1) dX13_readBuyer_39 rfl ?_
    refine R.ialdN (k := 1) dX13_readBuyer_40 (by omega) (by show _ < mN M1 14 0; rw [h1.l.n]; omega) ?_
    rw [h1.w, hD.r.h.1, show yF (uT Y 6 0) 5 = nI b9 from hD.v.f5]
    refine R.imul dX13_readBuyer_41 ?_
    refine R.iadd dX13_readBuyer_42 ?_
    rw [wi_b0]
    refine R.aload_n dX13_readBuyer_43 rfl (by first | rfl | exact rfv_rf _) ?_
    refine cl_X13_249 rfl rfl (by first | exact Nat.le_of_ble_eq_true rfl | simp [rf_cat, Value.category]) dX13_readBuyer_44 ?_
    refine p_bH h1 hD.r (show CrB (uT Y 6 0) m b9 from hD.v.c) c1 ?_
    rw [bnF_T, hcn]
    change WP _ _ _ _ (.int (-1) :: _) _ _
    refine R.iconst (v := -1) dX13_readBuyer_47 rfl ?_
    refine R.icmp_eq (tgt := 55) dX13_readBuyer_48 (by decide) (fun _ => ?_) (fun c9 => absurd (rfl) c9)
    refine R.iconst (v := 0) dX13_readBuyer_55 rfl ?_
    refine cl_X13_258 rfl rfl (by first | exact Nat.le_of_ble_eq_true rfl | simp [rf_cat, Value.category]) dX13_readBuyer_56 ?_
    refine p_nnS h1 (by omega) c1 (fun M2 h2 => ?_)
    refine R.if_ne (tgt := 64) dX13_readBuyer_59 (by decide) (fun _ => ?_) (fun c9 => absurd c9 (by decide))
    refine R.aload_n dX13_readBuyer_64 rfl (by first | rfl | exact rfv_rf _) ?_
    refine R.iconst (v := nI 0) dX13_readBuyer_65 rfl ?_
    refine R.iconst (v := 0) dX13_readBuyer_66 rfl ?_
    refine R.sipush (v := 9999) dX13_readBuyer_67 (by decide) ?_
    refine cl_X13_262 rfl rfl (by first | exact Nat.le_of_ble_eq_true rfl | simp [rf_cat, Value.category]) dX13_readBuyer_70 ?_
    refine p_tkS (k := 0) h2 (by omega) c2 (fun M3 h3 => ?_)
    refine R.if_eq (tgt := 98) dX13_readBuyer_73 (by decide) (fun c9 => absurd c9 (by decide)) (fun _ => ?_)
    refine R.aload_n dX13_readBuyer_76 rfl (by first | rfl | exact rfv_rf _) ?_
    refine R.iconst (v := nI 1) dX13_readBuyer_77 rfl ?_
    refine R.iconst (v := 0) dX13_readBuyer_78 rfl ?_
    refine R.bipush (v := 50) dX13_readBuyer_79 (by decide) ?_
    refine cl_X13_262 rfl rfl (by first | exact Nat.le_of_ble_eq_true rfl | simp [rf_cat, Value.category]) dX13_readBuyer_81 ?_
    refine p_tkS (k := 1) h3 (by omega) c3 (fun M4 h4 => ?_)
    refine R.if_eq (tgt := 98) dX13_readBuyer_84 (by decide) (fun c9 => absurd c9 (by decide)) (fun _ => ?_)
    refine R.aload_n dX13_readBuyer_87 rfl (by first | rfl | exact rfv_rf _) ?_
    refine R.iconst (v := nI 2) dX13_readBuyer_88 rfl ?_
    refine R.iconst (v := 0) dX13_readBuyer_89 rfl ?_
    refine R.bipush (v := 100) dX13_readBuyer_90 (by decide) ?_
    refine cl_X13_262 rfl rfl (by first | exact Nat.le_of_ble_eq_true rfl | simp [rf_cat, Value.category]) dX13_readBuyer_92 ?_
    refine p_tkS (k := 2) h4 (by omega) c4 (fun M5 h5 => ?_)
    refine R.if_ne (tgt := 100) dX13_readBuyer_95 (by decide) (fun _ => ?_) (fun c9 => absurd c9 (by decide))
    refine R.aload_n dX13_readBuyer_100 rfl (by first | rfl | exact rfv_rf _) ?_
    refine R.aload_n dX13_readBuyer_101 rfl (by first | rfl | exact rfv_rf _) ?_
    refine R.getS (h5.l.1.2.2.2.2.2.2.1) dX13_readBuyer_102 fl_X13_32 (by decide) rfl ?_
    refine R.iconst (v := nI 3) dX13_readBuyer_105 rfl ?_
    refine R.ialdN (k := 3) dX13_readBuyer_106 (by omega) (by rw [h5.l.2.2.2.2.2.2.2.1]; omega) ?_
    rw [h5.N]
    change WP _ _ _ _ (.int (nI (tE b n (tE b n e) - tS b n (tE b n e))) :: _) _ _
    refine R.aload_n dX13_readBuyer_107 rfl (by first | rfl | exact rfv_rf _) ?_
    refine R.getS (h5.l.1.2.2.2.2.2.2.1) dX13_readBuyer_108 fl_X13_32 (by decide) rfl ?_
    refine R.iconst (v := nI 0) dX13_readBuyer_111 rfl ?_
    refine R.ialdN (k := 0) dX13_readBuyer_112 (by omega) (by rw [h5.l.2.2.2.2.2.2.2.1]; omega) ?_
    rw [h5.N]
    change WP _ _ _ _ (.int (nbV b n (tE b n (tE b n e))) :: _) _ _
    refine R.aload_n dX13_readBuyer_113 rfl (by first | rfl | exact rfv_rf _) ?_
    refine R.getS (h5.l.1.2.2.2.2.2.2.1) dX13_readBuyer_114 fl_X13_32 (by decide) rfl ?_
    refine R.iconst (v := nI 1) dX13_readBuyer_117 rfl ?_
    refine R.ialdN (k := 1) dX13_readBuyer_118 (by omega) (by rw [h5.l.2.2.2.2.2.2.2.1]; omega) ?_
    rw [h5.N]
    change WP _ _ _ _ (.int (nbV b n (tE b n (tE b n (tE b n e)))) :: _) _ _
    refine R.aload_n dX13_readBuyer_119 rfl (by first | rfl | exact rfv_rf _) ?_
    refine R.getS (h5.l.1.2.2.2.2.2.2.1) dX13_readBuyer_120 fl_X13_32 (by decide) rfl ?_
    refine R.iconst (v := nI 2) dX13_readBuyer_123 rfl ?_
    refine R.ialdN (k := 2) dX13_readBuyer_124 (by omega) (by rw [h5.l.2.2.2.2.2.2.2.1]; omega) ?_
    rw [h5.N]
    change WP _ _ _ _ (.int (nbV b n (tE b n (tE b n (tE b n (tE b n e))))) :: _) _ _
    refine cl_X13_62 rfl rfl (by first | exact Nat.le_of_ble_eq_true rfl | simp [rf_cat, Value.category]) dX13_readBuyer_125 ?_
    refine atW h5.w ?_
    refine m_addB h5.l hm (hR9.h.1.trans hD.v.f5) ?_
    refine R.aload_n dX13_readBuyer_128 rfl (by first | rfl | exact rfv_rf _) ?_
    refine cl_X13_268 rfl rfl (by first | exact Nat.le_of_ble_eq_true rfl | simp [rf_cat, Value.category]) dX13_readBuyer_129 ?_
    refine p_semS (h5.sw _) c7 (fun M6 h6 => ?_)
    refine WP.ret (ov := some (.int _)) dX13_readBuyer_132 ⟨rfl, _, rfl, by first | rfl | assumption | exact nar_b01 (by assumption)⟩ ?_
    exact hq M6 _ _ _ _ h6 hD9
  · rw [if_neg c7] at hq
    refine R.aload_n dX13_readBuyer_0 rfl (by first | rfl | exact rfv_rf _) ?_
    refine R.getS (h.l.w) dX13_readBuyer_1 fl_X13_7 (by decide) rfl ?_
    refine R.iconst (v := nI 1) dX13_readBuyer_4 rfl ?_
    refine R.ialdN (k := 1) dX13_readBuyer_5 (by omega) (by show _ < mN M 14 0; rw [h.l.n]; omega) ?_
    rw [h.w, hD.r.h.1, show yF (uT Y 6 0) 5 = nI b9 from hD.v.f5]
    refine R.bipush (v := nI 6) dX13_readBuyer_6 (by decide) ?_
    refine R.icmp_ne (tgt := 18) dX13_readBuyer_8 (by decide) (fun _ => ?_) (fun c9 => absurd c9 (hmn))
    refine R.aload_n dX13_readBuyer_18 rfl (by first | rfl | exact rfv_rf _) ?_
    refine cl_X13_233 rfl rfl (by first | exact Nat.le_of_ble_eq_true rfl | simp [rf_cat, Value.category]) dX13_readBuyer_19 ?_
    refine p_adv h (fun M1 h1 => ?_)
    refine R.aload_n dX13_readBuyer_22 rfl (by first | rfl | exact rfv_rf _) ?_
    refine cl_X13_242 rfl rfl (by first | exact Nat.le_of_ble_eq_true rfl | simp [rf_cat, Value.category]) dX13_readBuyer_23 ?_
    refine p_nmS h1 c1 ?_
    refine R.if_eq (tgt := 62) dX13_readBuyer_26 (by decide) (fun c9 => absurd c9 (by decide)) (fun _ => ?_)
    refine R.aload_n dX13_readBuyer_29 rfl (by first | rfl | exact rfv_rf _) ?_
    refine R.sipush (v := 304) dX13_readBuyer_30 (by decide) ?_
    refine R.bipush (v := 11) dX13_readBuyer_33 (by decide) ?_
    refine R.aload_n dX13_readBuyer_35 rfl (by first | rfl | exact rfv_rf _) ?_
    refine R.getS (h1.l.w) dX13_readBuyer_36 fl_X13_7 (by decide) rfl ?_
    refine R.iconst (v := nI 1) dX13_readBuyer_39 rfl ?_
    refine R.ialdN (k := 1) dX13_readBuyer_40 (by omega) (by show _ < mN M1 14 0; rw [h1.l.n]; omega) ?_
    rw [h1.w, hD.r.h.1, show yF (uT Y 6 0) 5 = nI b9 from hD.v.f5]
    refine R.imul dX13_readBuyer_41 ?_
    refine R.iadd dX13_readBuyer_42 ?_
    rw [wi_b0]
    refine R.aload_n dX13_readBuyer_43 rfl (by first | rfl | exact rfv_rf _) ?_
    refine cl_X13_249 rfl rfl (by first | exact Nat.le_of_ble_eq_true rfl | simp [rf_cat, Value.category]) dX13_readBuyer_44 ?_
    refine p_bH h1 hD.r (show CrB (uT Y 6 0) m b9 from hD.v.c) c1 ?_
    rw [bnF_T, hcn]
    change WP _ _ _ _ (.int (-1) :: _) _ _
    refine R.iconst (v := -1) dX13_readBuyer_47 rfl ?_
    refine R.icmp_eq (tgt := 55) dX13_readBuyer_48 (by decide) (fun _ => ?_) (fun c9 => absurd (rfl) c9)
    refine R.iconst (v := 0) dX13_readBuyer_55 rfl ?_
    refine cl_X13_258 rfl rfl (by first | exact Nat.le_of_ble_eq_true rfl | simp [rf_cat, Value.category]) dX13_readBuyer_56 ?_
    refine p_nnS h1 (by omega) c1 (fun M2 h2 => ?_)
    refine R.if_ne (tgt := 64) dX13_readBuyer_59 (by decide) (fun _ => ?_) (fun c9 => absurd c9 (by decide))
    refine R.aload_n dX13_readBuyer_64 rfl (by first | rfl | exact rfv_rf _) ?_
    refine R.iconst (v := nI 0) dX13_readBuyer_65 rfl ?_
    refine R.iconst (v := 0) dX13_readBuyer_66 rfl ?_
    refine R.sipush (v := 9999) dX13_readBuyer_67 (by decide) ?_
    refine cl_X13_262 rfl rfl (by first | exact Nat.le_of_ble_eq_true rfl | simp [rf_cat, Value.category]) dX13_readBuyer_70 ?_
    refine p_tkS (k := 0) h2 (by omega) c2 (fun M3 h3 => ?_)
    refine R.if_eq (tgt := 98) dX13_readBuyer_73 (by decide) (fun c9 => absurd c9 (by decide)) (fun _ => ?_)
    refine R.aload_n dX13_readBuyer_76 rfl (by first | rfl | exact rfv_rf _) ?_
    refine R.iconst (v := nI 1) dX13_readBuyer_77 rfl ?_
    refine R.iconst (v := 0) dX13_readBuyer_78 rfl ?_
    refine R.bipush (v := 50) dX13_readBuyer_79 (by decide) ?_
    refine cl_X13_262 rfl rfl (by first | exact Nat.le_of_ble_eq_true rfl | simp [rf_cat, Value.category]) dX13_readBuyer_81 ?_
    refine p_tkS (k := 1) h3 (by omega) c3 (fun M4 h4 => ?_)
    refine R.if_eq (tgt := 98) dX13_readBuyer_84 (by decide) (fun c9 => absurd c9 (by decide)) (fun _ => ?_)
    refine R.aload_n dX13_readBuyer_87 rfl (by first | rfl | exact rfv_rf _) ?_
    refine R.iconst (v := nI 2) dX13_readBuyer_88 rfl ?_
    refine R.iconst (v := 0) dX13_readBuyer_89 rfl ?_
    refine R.bipush (v := 100) dX13_readBuyer_90 (by decide) ?_
    refine cl_X13_262 rfl rfl (by first | exact Nat.le_of_ble_eq_true rfl | simp [rf_cat, Value.category]) dX13_readBuyer_92 ?_
    refine p_tkS (k := 2) h4 (by omega) c4 (fun M5 h5 => ?_)
    refine R.if_ne (tgt := 100) dX13_readBuyer_95 (by decide) (fun _ => ?_) (fun c9 => absurd c9 (by decide))
    refine R.aload_n dX13_readBuyer_100 rfl (by first | rfl | exact rfv_rf _) ?_
    refine R.aload_n dX13_readBuyer_101 rfl (by first | rfl | exact rfv_rf _) ?_
    refine R.getS (h5.l.1.2.2.2.2.2.2.1) dX13_readBuyer_102 fl_X13_32 (by decide) rfl ?_
    refine R.iconst (v := nI 3) dX13_readBuyer_105 rfl ?_
    refine R.ialdN (k := 3) dX13_readBuyer_106 (by omega) (by rw [h5.l.2.2.2.2.2.2.2.1]; omega) ?_
    rw [h5.N]
    change WP _ _ _ _ (.int (nI (tE b n (tE b n e) - tS b n (tE b n e))) :: _) _ _
    refine R.aload_n dX13_readBuyer_107 rfl (by first | rfl | exact rfv_rf _) ?_
    refine R.getS (h5.l.1.2.2.2.2.2.2.1) dX13_readBuyer_108 fl_X13_32 (by decide) rfl ?_
    refine R.iconst (v := nI 0) dX13_readBuyer_111 rfl ?_
    refine R.ialdN (k := 0) dX13_readBuyer_112 (by omega) (by rw [h5.l.2.2.2.2.2.2.2.1]; omega) ?_
    rw [h5.N]
    change WP _ _ _ _ (.int (nbV b n (tE b n (tE b n e))) :: _) _ _
    refine R.aload_n dX13_readBuyer_113 rfl (by first | rfl | exact rfv_rf _) ?_
    refine R.getS (h5.l.1.2.2.2.2.2.2.1) dX13_readBuyer_114 fl_X13_32 (by decide) rfl ?_
    refine R.iconst (v := nI 1) dX13_readBuyer_117 rfl ?_
    refine R.ialdN (k := 1) dX13_readBuyer_118 (by omega) (by rw [h5.l.2.2.2.2.2.2.2.1]; omega) ?_
    rw [h5.N]
    change WP _ _ _ _ (.int (nbV b n (tE b n (tE b n (tE b n e)))) :: _) _ _
    refine R.aload_n dX13_readBuyer_119 rfl (by first | rfl | exact rfv_rf _) ?_
    refine R.getS (h5.l.1.2.2.2.2.2.2.1) dX13_readBuyer_120 fl_X13_32 (by decide) rfl ?_
    refine R.iconst (v := nI 2) dX13_readBuyer_123 rfl ?_
    refine R.ialdN (k := 2) dX13_readBuyer_124 (by omega) (by rw [h5.l.2.2.2.2.2.2.2.1]; omega) ?_
    rw [h5.N]
    change WP _ _ _ _ (.int (nbV b n (tE b n (tE b n (tE b n (tE b n e))))) :: _) _ _
    refine cl_X13_62 rfl rfl (by first | exact Nat.le_of_ble_eq_true rfl | simp [rf_cat, Value.category]) dX13_readBuyer_125 ?_
    refine atW h5.w ?_
    refine m_addB h5.l hm (hR9.h.1.trans hD.v.f5) ?_
    refine R.aload_n dX13_readBuyer_128 rfl (by first | rfl | exact rfv_rf _) ?_
    refine cl_X13_268 rfl rfl (by first | exact Nat.le_of_ble_eq_true rfl | simp [rf_cat, Value.category]) dX13_readBuyer_129 ?_
    refine p_semN (h5.sw _) c7 (fun M6 h6 => ?_)
    refine WP.ret (ov := some (.int _)) dX13_readBuyer_132 ⟨rfl, _, rfl, by first | rfl | assumption | exact nar_b01 (by assumption)⟩ ?_
    exact hq M6 h6
set_option maxHeartbeats 2000000 in
set_option maxRecDepth 4000 in
theorem p_rdV {d n e : Nat} {b w N : Nat → Int32} {RR : OR9} {M0 M : Mem} {Q : Out → Mem → Prop} {Y : Yd} {m b9 c : Nat} {lo hi : Int32} {F : Int32 → Yd} (h : PQ M0 M b n e w N RR) (hc : c < 15) (hF : nbC b n (tE b n e) lo hi = 0 → DR (F (nbV b n (tE b n e))) m b9 (upW w c (nbV b n (tE b n e)))) (hq : PRM Q M0 b n RR (seP b n (st1 b n (tE b n e) lo hi F))) : WPc (d + 6) mX13_readCell [.ref (rf 11 0), .int (nI c), .int lo, .int hi] M Q := by
  refine WPc.of (by decide +kernel) (Nat.le_of_ble_eq_true rfl) rfl ?_
  unfold st1 seP at hq
  by_cases c2 : nbC b n (tE b n e) lo hi = 0
  case neg =>
    rw [if_neg c2] at hq
    refine R.aload_n dX13_readCell_0 rfl (by first | rfl | exact rfv_rf _) ?_
    refine cl_X13_233 rfl rfl (by first | exact Nat.le_of_ble_eq_true rfl | simp [rf_cat, Value.category]) dX13_readCell_1 ?_
    refine p_adv h (fun M1 h1 => ?_)
    refine R.aload_n dX13_readCell_4 rfl (by first | rfl | exact rfv_rf _) ?_
    refine R.iconst (v := nI 0) dX13_readCell_5 rfl ?_
    refine R.iload_n dX13_readCell_6 rfl ?_
    refine R.iload_n dX13_readCell_7 rfl ?_
    refine cl_X13_262 rfl rfl (by first | exact Nat.le_of_ble_eq_true rfl | simp [rf_cat, Value.category]) dX13_readCell_8 ?_
    refine p_tkN (k := 0) h1 c2 (fun M2 h2 => ?_)
    refine R.if_ne (tgt := 16) dX13_readCell_11 (by decide) (fun c9 => absurd (rfl) c9) (fun _ => ?_)
    refine R.iconst (v := 0) dX13_readCell_14 rfl ?_
    refine WP.ret (ov := some (.int _)) dX13_readCell_15 ⟨rfl, _, rfl, by first | rfl | assumption | exact nar_b01 (by assumption)⟩ ?_
    exact hq M2 h2
  rw [if_pos c2] at hq
  by_cases c7 : scC (tK b n (tE b n (tE b n e))) = 0
  · simp only [if_pos c7] at hq
    refine R.aload_n dX13_readCell_0 rfl (by first | rfl | exact rfv_rf _) ?_
    refine cl_X13_233 rfl rfl (by first | exact Nat.le_of_ble_eq_true rfl | simp [rf_cat, Value.category]) dX13_readCell_1 ?_
    refine p_adv h (fun M1 h1 => ?_)
    refine R.aload_n dX13_readCell_4 rfl (by first | rfl | exact rfv_rf _) ?_
    refine R.iconst (v := nI 0) dX13_readCell_5 rfl ?_
    refine R.iload_n dX13_readCell_6 rfl ?_
    refine R.iload_n dX13_readCell_7 rfl ?_
    refine cl_X13_262 rfl rfl (by first | exact Nat.le_of_ble_eq_true rfl | simp [rf_cat, Value.category]) dX13_readCell_8 ?_
    refine p_tkS (k := 0) h1 (by omega) c2 (fun M2 h2 => ?_)
    refine R.if_ne (tgt := 16) dX13_readCell_11 (by decide) (fun _ => ?_) (fun c9 => absurd c9 (by decide))
    refine R.aload_n dX13_readCell_16 rfl (by first | rfl | exact rfv_rf _) ?_
    refine R.getS (h2.l.w) dX13_readCell_17 fl_X13_7 (by decide) rfl ?_
    refine R.iload_n dX13_readCell_20 rfl ?_
    refine R.aload_n dX13_readCell_21 rfl (by first | rfl | exact rfv_rf _) ?_
    refine R.getS (h2.l.1.2.2.2.2.2.2.1) dX13_readCell_22 fl_X13_32 (by decide) rfl ?_
    refine R.iconst (v := nI 0) dX13_readCell_25 rfl ?_
    refine R.ialdN (k := 0) dX13_readCell_26 (by omega) (by rw [h2.l.2.2.2.2.2.2.2.1]; omega) ?_
    rw [h2.N]
    change WP _ _ _ _ (.int (nbV b n (tE b n e)) :: _) _ _
    rw [← bW h2.w]
    refine R.iastN (k := c) dX13_readCell_27 (by omega) (by show _ < mN M2 14 0; rw [h2.l.n]; omega) ?_
    rw [sI_sW]
    refine R.aload_n dX13_readCell_28 rfl (by first | rfl | exact rfv_rf _) ?_
    refine cl_X13_268 rfl rfl (by first | exact Nat.le_of_ble_eq_true rfl | simp [rf_cat, Value.category]) dX13_readCell_29 ?_
    refine p_semS (h2.sw _) c7 (fun M3 h3 => ?_)
    refine WP.ret (ov := some (.int _)) dX13_readCell_32 ⟨rfl, _, rfl, by first | rfl | assumption | exact nar_b01 (by assumption)⟩ ?_
    exact hq M3 _ _ _ _ h3 (hF c2)
  · simp only [if_neg c7] at hq
    refine R.aload_n dX13_readCell_0 rfl (by first | rfl | exact rfv_rf _) ?_
    refine cl_X13_233 rfl rfl (by first | exact Nat.le_of_ble_eq_true rfl | simp [rf_cat, Value.category]) dX13_readCell_1 ?_
    refine p_adv h (fun M1 h1 => ?_)
    refine R.aload_n dX13_readCell_4 rfl (by first | rfl | exact rfv_rf _) ?_
    refine R.iconst (v := nI 0) dX13_readCell_5 rfl ?_
    refine R.iload_n dX13_readCell_6 rfl ?_
    refine R.iload_n dX13_readCell_7 rfl ?_
    refine cl_X13_262 rfl rfl (by first | exact Nat.le_of_ble_eq_true rfl | simp [rf_cat, Value.category]) dX13_readCell_8 ?_
    refine p_tkS (k := 0) h1 (by omega) c2 (fun M2 h2 => ?_)
    refine R.if_ne (tgt := 16) dX13_readCell_11 (by decide) (fun _ => ?_) (fun c9 => absurd c9 (by decide))
    refine R.aload_n dX13_readCell_16 rfl (by first | rfl | exact rfv_rf _) ?_
    refine R.getS (h2.l.w) dX13_readCell_17 fl_X13_7 (by decide) rfl ?_
    refine R.iload_n dX13_readCell_20 rfl ?_
    refine R.aload_n dX13_readCell_21 rfl (by first | rfl | exact rfv_rf _) ?_
    refine R.getS (h2.l.1.2.2.2.2.2.2.1) dX13_readCell_22 fl_X13_32 (by decide) rfl ?_
    refine R.iconst (v := nI 0) dX13_readCell_25 rfl ?_
    refine R.ialdN (k := 0) dX13_readCell_26 (by omega) (by rw [h2.l.2.2.2.2.2.2.2.1]; omega) ?_
    rw [h2.N]
    change WP _ _ _ _ (.int (nbV b n (tE b n e)) :: _) _ _
    rw [← bW h2.w]
    refine R.iastN (k := c) dX13_readCell_27 (by omega) (by show _ < mN M2 14 0; rw [h2.l.n]; omega) ?_
    rw [sI_sW]
    refine R.aload_n dX13_readCell_28 rfl (by first | rfl | exact rfv_rf _) ?_
    refine cl_X13_268 rfl rfl (by first | exact Nat.le_of_ble_eq_true rfl | simp [rf_cat, Value.category]) dX13_readCell_29 ?_
    refine p_semN (h2.sw _) c7 (fun M3 h3 => ?_)
    refine WP.ret (ov := some (.int _)) dX13_readCell_32 ⟨rfl, _, rfl, by first | rfl | assumption | exact nar_b01 (by assumption)⟩ ?_
    exact hq M3 h3
theorem DR.hd {Y Y' : Yd} {m b : Nat} {w w' : Nat → Int32} (h : DR Y m b w) (hw : ∀ x, (x = 0 ∨ 15 ≤ x) → w' x = w x) (hH : RH (uT Y' 6 0) w') (hV : PV Y' m b m) (e1 : yC Y' = yC Y) (e2 : yL Y' = yL Y) (e3 : yP Y' = yP Y) (e4 : yB Y' = yB Y) (e5 : yT Y' = yT Y) : DR Y' m b w' := by
  obtain ⟨hR, -, hZ, hT, hM⟩ := h
  refine ⟨hR.hd hw hH e1 e2 e3 e4, hV, ?_, by rw [e5]; exact hT, ?_⟩
  · unfold ZR at hZ ⊢
    rw [e1, e2]
    exact hZ
  · have : ∀ n i a, moF Y' n i a = moF Y n i a := by
      intro n
      induction n with
      | zero => intro i a; rfl
      | succ n ih => intro i a; rw [moF, moF, ih, e4]
    rw [e5, this]
    exact hM
theorem DR.am {Y : Yd} {m b j : Nat} {w : Nat → Int32} (hD : DR Y m b w) (h1 : 0 ≤ j) (h2 : j ≤ 50) : DR (uS Y 1 (nI j)) m b (upW w 2 (nI j)) := by
  obtain ⟨a1, a2, a3, a4, a5, a6, a7, a8, a9, a10, a11, a12, a13, a14⟩ := hD.r.h
  refine hD.hd (fun x hx => upW_n _ _ (by omega)) ⟨(upW_n _ _ (by decide)).trans a1, upW_s _ _ _, (upW_n _ _ (by decide)).trans a3, (upW_n _ _ (by decide)).trans a4, (upW_n _ _ (by decide)).trans a5, (upW_n _ _ (by decide)).trans a6, (upW_n _ _ (by decide)).trans a7, (upW_n _ _ (by decide)).trans a8, (upW_n _ _ (by decide)).trans a9, (upW_n _ _ (by decide)).trans a10, (upW_n _ _ (by decide)).trans a11, (upW_n _ _ (by decide)).trans a12, (upW_n _ _ (by decide)).trans a13, (upW_n _ _ (by decide)).trans a14⟩ (hD.v.am h2) rfl rfl rfl rfl rfl
theorem DR.gn {Y : Yd} {m b j : Nat} {w : Nat → Int32} (hD : DR Y m b w) (h1 : 0 ≤ j) (h2 : j ≤ 9999) : DR (uS Y 0 (nI j)) m b (upW w 3 (nI j)) := by
  obtain ⟨a1, a2, a3, a4, a5, a6, a7, a8, a9, a10, a11, a12, a13, a14⟩ := hD.r.h
  refine hD.hd (fun x hx => upW_n _ _ (by omega)) ⟨(upW_n _ _ (by decide)).trans a1, (upW_n _ _ (by decide)).trans a2, upW_s _ _ _, (upW_n _ _ (by decide)).trans a4, (upW_n _ _ (by decide)).trans a5, (upW_n _ _ (by decide)).trans a6, (upW_n _ _ (by decide)).trans a7, (upW_n _ _ (by decide)).trans a8, (upW_n _ _ (by decide)).trans a9, (upW_n _ _ (by decide)).trans a10, (upW_n _ _ (by decide)).trans a11, (upW_n _ _ (by decide)).trans a12, (upW_n _ _ (by decide)).trans a13, (upW_n _ _ (by decide)).trans a14⟩ (hD.v.gn h2) rfl rfl rfl rfl rfl
theorem DR.ag {Y : Yd} {m b j : Nat} {w : Nat → Int32} (hD : DR Y m b w) (h1 : 1 ≤ j) (h2 : j ≤ 100) : DR (uS Y 2 (nI j)) m b (upW w 4 (nI j)) := by
  obtain ⟨a1, a2, a3, a4, a5, a6, a7, a8, a9, a10, a11, a12, a13, a14⟩ := hD.r.h
  refine hD.hd (fun x hx => upW_n _ _ (by omega)) ⟨(upW_n _ _ (by decide)).trans a1, (upW_n _ _ (by decide)).trans a2, (upW_n _ _ (by decide)).trans a3, upW_s _ _ _, (upW_n _ _ (by decide)).trans a5, (upW_n _ _ (by decide)).trans a6, (upW_n _ _ (by decide)).trans a7, (upW_n _ _ (by decide)).trans a8, (upW_n _ _ (by decide)).trans a9, (upW_n _ _ (by decide)).trans a10, (upW_n _ _ (by decide)).trans a11, (upW_n _ _ (by decide)).trans a12, (upW_n _ _ (by decide)).trans a13, (upW_n _ _ (by decide)).trans a14⟩ (hD.v.ag h1 h2) rfl rfl rfl rfl rfl
theorem DR.f6 {Y : Yd} {m b j : Nat} {w : Nat → Int32} (hD : DR Y m b w) (h1 : 1 ≤ j) (h2 : j ≤ 9) : DR (uF Y 6 (nI j)) m b (upW w 5 (nI j)) := by
  obtain ⟨a1, a2, a3, a4, a5, a6, a7, a8, a9, a10, a11, a12, a13, a14⟩ := hD.r.h
  refine hD.hd (fun x hx => upW_n _ _ (by omega)) ⟨(upW_n _ _ (by decide)).trans a1, (upW_n _ _ (by decide)).trans a2, (upW_n _ _ (by decide)).trans a3, (upW_n _ _ (by decide)).trans a4, upW_s _ _ _, (upW_n _ _ (by decide)).trans a6, (upW_n _ _ (by decide)).trans a7, (upW_n _ _ (by decide)).trans a8, (upW_n _ _ (by decide)).trans a9, (upW_n _ _ (by decide)).trans a10, (upW_n _ _ (by decide)).trans a11, (upW_n _ _ (by decide)).trans a12, (upW_n _ _ (by decide)).trans a13, (upW_n _ _ (by decide)).trans a14⟩ (hD.v.f6 h1 h2) rfl rfl rfl rfl rfl
theorem DR.f7 {Y : Yd} {m b j : Nat} {w : Nat → Int32} (hD : DR Y m b w) (h1 : 0 ≤ j) (h2 : j ≤ 100) : DR (uF Y 7 (nI j)) m b (upW w 6 (nI j)) := by
  obtain ⟨a1, a2, a3, a4, a5, a6, a7, a8, a9, a10, a11, a12, a13, a14⟩ := hD.r.h
  refine hD.hd (fun x hx => upW_n _ _ (by omega)) ⟨(upW_n _ _ (by decide)).trans a1, (upW_n _ _ (by decide)).trans a2, (upW_n _ _ (by decide)).trans a3, (upW_n _ _ (by decide)).trans a4, (upW_n _ _ (by decide)).trans a5, upW_s _ _ _, (upW_n _ _ (by decide)).trans a7, (upW_n _ _ (by decide)).trans a8, (upW_n _ _ (by decide)).trans a9, (upW_n _ _ (by decide)).trans a10, (upW_n _ _ (by decide)).trans a11, (upW_n _ _ (by decide)).trans a12, (upW_n _ _ (by decide)).trans a13, (upW_n _ _ (by decide)).trans a14⟩ (hD.v.f7) rfl rfl rfl rfl rfl
theorem PRM.mo {Q Q' : Out → Mem → Prop} {M0 : Mem} {b : Nat → Int32} {n : Nat} {RR : OR9} {r : PR} (h : PRM Q M0 b n RR r) (k : ∀ v M', (v = 0 ∨ v = 1) → Q (.inl (some (.int v))) M' → Q' (.inl (some (.int v))) M') : PRM Q' M0 b n RR r := by
  cases r with
  | inl t => exact fun M' w' h1 => k _ _ (Or.inl rfl) (h M' h1)
  | inr t => exact fun M' w' N' m' b' h1 h2 => k _ _ (Or.inr rfl) (h M' w' N' m' b' h1 h2)
theorem mY_n {Y : Yd} {m : Nat} (h : yF Y 4 = nI m) (hm : m ≤ 16) : mY Y = m := by
  unfold mY
  rw [h, nI_clamp (by omega)]
theorem wY_n {Y : Yd} {m : Nat} (h : yF Y 5 = nI m) (hm : m ≤ 6) : wY Y = m := by
  unfold wY
  rw [h, nI_clamp (by omega)]
set_option maxHeartbeats 4000000 in
set_option maxRecDepth 4000 in
theorem p_rdS {d n e : Nat} {b w N : Nat → Int32} {RR : OR9} {M0 M : Mem} {Q : Out → Mem → Prop} {Y : Yd} {m b9 : Nat} (h : PQ M0 M b n e w N RR) (hD : DR Y m b9 w) (hq : PRM Q M0 b n RR (stmP b n (tS b n e) (tE b n e) (tK b n e) Y)) : WPc (d + 7) mX13_readSetupStatement [.ref (rf 11 0)] M Q := by
  refine WPc.of (by decide +kernel) (Nat.le_of_ble_eq_true rfl) rfl ?_
  unfold stmP at hq
  rw [mY_n hD.v.f4 hD.v.m16, wY_n hD.v.f5 hD.v.b6] at hq
  by_cases y0 : isW b (tS b n e) (tE b n e) (tK b n e) 11 = true
  case pos =>
    have w0 : isW b (tS b n e) (tE b n e) (tK b n e) 31 = true := by rw [isW_e (v := 31) (v' := 11) rfl]; exact y0
    rw [if_pos y0] at hq
    refine R.aload_n dX13_readSetupStatement_0 rfl (by first | rfl | exact rfv_rf _) ?_
    refine R.ldcwS (i := 31) rfl dX13_readSetupStatement_1 ?_
    refine cl_X13_254 rfl rfl (by first | exact Nat.le_of_ble_eq_true rfl | simp [rf_cat, Value.category]) dX13_readSetupStatement_4 ?_
    refine p_isW (v := 31) h (by decide) ?_
    rw [if_pos w0]
    refine R.if_eq (tgt := 15) dX13_readSetupStatement_7 (by decide) (fun c9 => absurd c9 (by decide)) (fun _ => ?_)
    refine R.aload_n dX13_readSetupStatement_10 rfl (by first | rfl | exact rfv_rf _) ?_
    refine cl_X13_273 rfl rfl (by first | exact Nat.le_of_ble_eq_true rfl | simp [rf_cat, Value.category]) dX13_readSetupStatement_11 ?_
    refine p_rdC h hD ?_
    refine PRM.mo hq (fun v M9 z9 q9 => ?_)
    refine WP.ret (ov := some (.int _)) dX13_readSetupStatement_14 ⟨rfl, _, rfl, by first | rfl | assumption | exact nar_b01 (by assumption)⟩ ?_
    exact q9
  have w0 : ¬ isW b (tS b n e) (tE b n e) (tK b n e) 31 = true := by rw [isW_e (v := 31) (v' := 11) rfl]; exact y0
  rw [if_neg y0] at hq
  by_cases y1 : isW b (tS b n e) (tE b n e) (tK b n e) 12 = true
  case pos =>
    have w1 : isW b (tS b n e) (tE b n e) (tK b n e) 32 = true := by rw [isW_e (v := 32) (v' := 12) rfl]; exact y1
    rw [if_pos y1] at hq
    refine R.aload_n dX13_readSetupStatement_0 rfl (by first | rfl | exact rfv_rf _) ?_
    refine R.ldcwS (i := 31) rfl dX13_readSetupStatement_1 ?_
    refine cl_X13_254 rfl rfl (by first | exact Nat.le_of_ble_eq_true rfl | simp [rf_cat, Value.category]) dX13_readSetupStatement_4 ?_
    refine p_isW (v := 31) h (by decide) ?_
    rw [if_neg w0]
    refine R.if_eq (tgt := 15) dX13_readSetupStatement_7 (by decide) (fun _ => ?_) (fun c9 => absurd (rfl) c9)
    refine R.aload_n dX13_readSetupStatement_15 rfl (by first | rfl | exact rfv_rf _) ?_
    refine R.ldcwS (i := 32) rfl dX13_readSetupStatement_16 ?_
    refine cl_X13_254 rfl rfl (by first | exact Nat.le_of_ble_eq_true rfl | simp [rf_cat, Value.category]) dX13_readSetupStatement_19 ?_
    refine p_isW (v := 32) h (by decide) ?_
    rw [if_pos w1]
    refine R.if_eq (tgt := 30) dX13_readSetupStatement_22 (by decide) (fun c9 => absurd c9 (by decide)) (fun _ => ?_)
    refine R.aload_n dX13_readSetupStatement_25 rfl (by first | rfl | exact rfv_rf _) ?_
    refine cl_X13_278 rfl rfl (by first | exact Nat.le_of_ble_eq_true rfl | simp [rf_cat, Value.category]) dX13_readSetupStatement_26 ?_
    refine p_rdB h hD ?_
    refine PRM.mo hq (fun v M9 z9 q9 => ?_)
    refine WP.ret (ov := some (.int _)) dX13_readSetupStatement_29 ⟨rfl, _, rfl, by first | rfl | assumption | exact nar_b01 (by assumption)⟩ ?_
    exact q9
  have w1 : ¬ isW b (tS b n e) (tE b n e) (tK b n e) 32 = true := by rw [isW_e (v := 32) (v' := 12) rfl]; exact y1
  rw [if_neg y1] at hq
  unfold setR at hq
  by_cases y2 : isW b (tS b n e) (tE b n e) (tK b n e) 14 = true
  case pos =>
    have w2 : isW b (tS b n e) (tE b n e) (tK b n e) 33 = true := by rw [isW_e (v := 33) (v' := 14) rfl]; exact y2
    rw [if_pos y2] at hq
    refine R.aload_n dX13_readSetupStatement_0 rfl (by first | rfl | exact rfv_rf _) ?_
    refine R.ldcwS (i := 31) rfl dX13_readSetupStatement_1 ?_
    refine cl_X13_254 rfl rfl (by first | exact Nat.le_of_ble_eq_true rfl | simp [rf_cat, Value.category]) dX13_readSetupStatement_4 ?_
    refine p_isW (v := 31) h (by decide) ?_
    rw [if_neg w0]
    refine R.if_eq (tgt := 15) dX13_readSetupStatement_7 (by decide) (fun _ => ?_) (fun c9 => absurd (rfl) c9)
    refine R.aload_n dX13_readSetupStatement_15 rfl (by first | rfl | exact rfv_rf _) ?_
    refine R.ldcwS (i := 32) rfl dX13_readSetupStatement_16 ?_
    refine cl_X13_254 rfl rfl (by first | exact Nat.le_of_ble_eq_true rfl | simp [rf_cat, Value.category]) dX13_readSetupStatement_19 ?_
    refine p_isW (v := 32) h (by decide) ?_
    rw [if_neg w1]
    refine R.if_eq (tgt := 30) dX13_readSetupStatement_22 (by decide) (fun _ => ?_) (fun c9 => absurd (rfl) c9)
    refine R.aload_n dX13_readSetupStatement_30 rfl (by first | rfl | exact rfv_rf _) ?_
    refine R.ldcwS (i := 33) rfl dX13_readSetupStatement_31 ?_
    refine cl_X13_254 rfl rfl (by first | exact Nat.le_of_ble_eq_true rfl | simp [rf_cat, Value.category]) dX13_readSetupStatement_34 ?_
    refine p_isW (v := 33) h (by decide) ?_
    rw [if_pos w2]
    refine R.if_eq (tgt := 49) dX13_readSetupStatement_37 (by decide) (fun c9 => absurd c9 (by decide)) (fun _ => ?_)
    refine R.aload_n dX13_readSetupStatement_40 rfl (by first | rfl | exact rfv_rf _) ?_
    refine R.iconst (v := nI 2) dX13_readSetupStatement_41 rfl ?_
    refine R.iconst (v := 0) dX13_readSetupStatement_42 rfl ?_
    refine R.bipush (v := 50) dX13_readSetupStatement_43 (by decide) ?_
    refine cl_X13_282 rfl rfl (by first | exact Nat.le_of_ble_eq_true rfl | simp [rf_cat, Value.category]) dX13_readSetupStatement_45 ?_
    refine p_rdV (Y := Y) (m := m) (b9 := b9) (F := uS Y 1) h (by omega) (fun c2 => ?_) ?_
    case refine_1 =>
      obtain ⟨j, ej, j1, j2⟩ := nbV_in (lo := 0) (hi := 50) c2 (by omega) (by omega)
      rw [ej]
      exact hD.am j1 j2
    refine PRM.mo hq (fun v M9 z9 q9 => ?_)
    refine WP.ret (ov := some (.int _)) dX13_readSetupStatement_48 ⟨rfl, _, rfl, by first | rfl | assumption | exact nar_b01 (by assumption)⟩ ?_
    exact q9
  have w2 : ¬ isW b (tS b n e) (tE b n e) (tK b n e) 33 = true := by rw [isW_e (v := 33) (v' := 14) rfl]; exact y2
  rw [if_neg y2] at hq
  by_cases y3 : isW b (tS b n e) (tE b n e) (tK b n e) 15 = true
  case pos =>
    have w3 : isW b (tS b n e) (tE b n e) (tK b n e) 34 = true := by rw [isW_e (v := 34) (v' := 15) rfl]; exact y3
    rw [if_pos y3] at hq
    refine R.aload_n dX13_readSetupStatement_0 rfl (by first | rfl | exact rfv_rf _) ?_
    refine R.ldcwS (i := 31) rfl dX13_readSetupStatement_1 ?_
    refine cl_X13_254 rfl rfl (by first | exact Nat.le_of_ble_eq_true rfl | simp [rf_cat, Value.category]) dX13_readSetupStatement_4 ?_
    refine p_isW (v := 31) h (by decide) ?_
    rw [if_neg w0]
    refine R.if_eq (tgt := 15) dX13_readSetupStatement_7 (by decide) (fun _ => ?_) (fun c9 => absurd (rfl) c9)
    refine R.aload_n dX13_readSetupStatement_15 rfl (by first | rfl | exact rfv_rf _) ?_
    refine R.ldcwS (i := 32) rfl dX13_readSetupStatement_16 ?_
    refine cl_X13_254 rfl rfl (by first | exact Nat.le_of_ble_eq_true rfl | simp [rf_cat, Value.category]) dX13_readSetupStatement_19 ?_
    refine p_isW (v := 32) h (by decide) ?_
    rw [if_neg w1]
    refine R.if_eq (tgt := 30) dX13_readSetupStatement_22 (by decide) (fun _ => ?_) (fun c9 => absurd (rfl) c9)
    refine R.aload_n dX13_readSetupStatement_30 rfl (by first | rfl | exact rfv_rf _) ?_
    refine R.ldcwS (i := 33) rfl dX13_readSetupStatement_31 ?_
    refine cl_X13_254 rfl rfl (by first | exact Nat.le_of_ble_eq_true rfl | simp [rf_cat, Value.category]) dX13_readSetupStatement_34 ?_
    refine p_isW (v := 33) h (by decide) ?_
    rw [if_neg w2]
    refine R.if_eq (tgt := 49) dX13_readSetupStatement_37 (by decide) (fun _ => ?_) (fun c9 => absurd (rfl) c9)
    refine R.aload_n dX13_readSetupStatement_49 rfl (by first | rfl | exact rfv_rf _) ?_
    refine R.ldcwS (i := 34) rfl dX13_readSetupStatement_50 ?_
    refine cl_X13_254 rfl rfl (by first | exact Nat.le_of_ble_eq_true rfl | simp [rf_cat, Value.category]) dX13_readSetupStatement_53 ?_
    refine p_isW (v := 34) h (by decide) ?_
    rw [if_pos w3]
    refine R.if_eq (tgt := 69) dX13_readSetupStatement_56 (by decide) (fun c9 => absurd c9 (by decide)) (fun _ => ?_)
    refine R.aload_n dX13_readSetupStatement_59 rfl (by first | rfl | exact rfv_rf _) ?_
    refine R.iconst (v := nI 3) dX13_readSetupStatement_60 rfl ?_
    refine R.iconst (v := 0) dX13_readSetupStatement_61 rfl ?_
    refine R.sipush (v := 9999) dX13_readSetupStatement_62 (by decide) ?_
    refine cl_X13_282 rfl rfl (by first | exact Nat.le_of_ble_eq_true rfl | simp [rf_cat, Value.category]) dX13_readSetupStatement_65 ?_
    refine p_rdV (Y := Y) (m := m) (b9 := b9) (F := uS Y 0) h (by omega) (fun c2 => ?_) ?_
    case refine_1 =>
      obtain ⟨j, ej, j1, j2⟩ := nbV_in (lo := 0) (hi := 9999) c2 (by omega) (by omega)
      rw [ej]
      exact hD.gn j1 j2
    refine PRM.mo hq (fun v M9 z9 q9 => ?_)
    refine WP.ret (ov := some (.int _)) dX13_readSetupStatement_68 ⟨rfl, _, rfl, by first | rfl | assumption | exact nar_b01 (by assumption)⟩ ?_
    exact q9
  have w3 : ¬ isW b (tS b n e) (tE b n e) (tK b n e) 34 = true := by rw [isW_e (v := 34) (v' := 15) rfl]; exact y3
  rw [if_neg y3] at hq
  by_cases y4 : isW b (tS b n e) (tE b n e) (tK b n e) 16 = true
  case pos =>
    have w4 : isW b (tS b n e) (tE b n e) (tK b n e) 35 = true := by rw [isW_e (v := 35) (v' := 16) rfl]; exact y4
    rw [if_pos y4] at hq
    refine R.aload_n dX13_readSetupStatement_0 rfl (by first | rfl | exact rfv_rf _) ?_
    refine R.ldcwS (i := 31) rfl dX13_readSetupStatement_1 ?_
    refine cl_X13_254 rfl rfl (by first | exact Nat.le_of_ble_eq_true rfl | simp [rf_cat, Value.category]) dX13_readSetupStatement_4 ?_
    refine p_isW (v := 31) h (by decide) ?_
    rw [if_neg w0]
    refine R.if_eq (tgt := 15) dX13_readSetupStatement_7 (by decide) (fun _ => ?_) (fun c9 => absurd (rfl) c9)
    refine R.aload_n dX13_readSetupStatement_15 rfl (by first | rfl | exact rfv_rf _) ?_
    refine R.ldcwS (i := 32) rfl dX13_readSetupStatement_16 ?_
    refine cl_X13_254 rfl rfl (by first | exact Nat.le_of_ble_eq_true rfl | simp [rf_cat, Value.category]) dX13_readSetupStatement_19 ?_
    refine p_isW (v := 32) h (by decide) ?_
    rw [if_neg w1]
    refine R.if_eq (tgt := 30) dX13_readSetupStatement_22 (by decide) (fun _ => ?_) (fun c9 => absurd (rfl) c9)
    refine R.aload_n dX13_readSetupStatement_30 rfl (by first | rfl | exact rfv_rf _) ?_
    refine R.ldcwS (i := 33) rfl dX13_readSetupStatement_31 ?_
    refine cl_X13_254 rfl rfl (by first | exact Nat.le_of_ble_eq_true rfl | simp [rf_cat, Value.category]) dX13_readSetupStatement_34 ?_
    refine p_isW (v := 33) h (by decide) ?_
    rw [if_neg w2]
    refine R.if_eq (tgt := 49) dX13_readSetupStatement_37 (by decide) (fun _ => ?_) (fun c9 => absurd (rfl) c9)
    refine R.aload_n dX13_readSetupStatement_49 rfl (by first | rfl | exact rfv_rf _) ?_
    refine R.ldcwS (i := 34) rfl dX13_readSetupStatement_50 ?_
    refine cl_X13_254 rfl rfl (by first | exact Nat.le_of_ble_eq_true rfl | simp [rf_cat, Value.category]) dX13_readSetupStatement_53 ?_
    refine p_isW (v := 34) h (by decide) ?_
    rw [if_neg w3]
    refine R.if_eq (tgt := 69) dX13_readSetupStatement_56 (by decide) (fun _ => ?_) (fun c9 => absurd (rfl) c9)
    refine R.aload_n dX13_readSetupStatement_69 rfl (by first | rfl | exact rfv_rf _) ?_
    refine R.ldcwS (i := 35) rfl dX13_readSetupStatement_70 ?_
    refine cl_X13_254 rfl rfl (by first | exact Nat.le_of_ble_eq_true rfl | simp [rf_cat, Value.category]) dX13_readSetupStatement_73 ?_
    refine p_isW (v := 35) h (by decide) ?_
    rw [if_pos w4]
    refine R.if_eq (tgt := 88) dX13_readSetupStatement_76 (by decide) (fun c9 => absurd c9 (by decide)) (fun _ => ?_)
    refine R.aload_n dX13_readSetupStatement_79 rfl (by first | rfl | exact rfv_rf _) ?_
    refine R.iconst (v := nI 4) dX13_readSetupStatement_80 rfl ?_
    refine R.iconst (v := 1) dX13_readSetupStatement_81 rfl ?_
    refine R.bipush (v := 100) dX13_readSetupStatement_82 (by decide) ?_
    refine cl_X13_282 rfl rfl (by first | exact Nat.le_of_ble_eq_true rfl | simp [rf_cat, Value.category]) dX13_readSetupStatement_84 ?_
    refine p_rdV (Y := Y) (m := m) (b9 := b9) (F := uS Y 2) h (by omega) (fun c2 => ?_) ?_
    case refine_1 =>
      obtain ⟨j, ej, j1, j2⟩ := nbV_in (lo := 1) (hi := 100) c2 (by omega) (by omega)
      rw [ej]
      exact hD.ag j1 j2
    refine PRM.mo hq (fun v M9 z9 q9 => ?_)
    refine WP.ret (ov := some (.int _)) dX13_readSetupStatement_87 ⟨rfl, _, rfl, by first | rfl | assumption | exact nar_b01 (by assumption)⟩ ?_
    exact q9
  have w4 : ¬ isW b (tS b n e) (tE b n e) (tK b n e) 35 = true := by rw [isW_e (v := 35) (v' := 16) rfl]; exact y4
  rw [if_neg y4] at hq
  by_cases y5 : isW b (tS b n e) (tE b n e) (tK b n e) 17 = true
  case pos =>
    have w5 : isW b (tS b n e) (tE b n e) (tK b n e) 36 = true := by rw [isW_e (v := 36) (v' := 17) rfl]; exact y5
    rw [if_pos y5] at hq
    refine R.aload_n dX13_readSetupStatement_0 rfl (by first | rfl | exact rfv_rf _) ?_
    refine R.ldcwS (i := 31) rfl dX13_readSetupStatement_1 ?_
    refine cl_X13_254 rfl rfl (by first | exact Nat.le_of_ble_eq_true rfl | simp [rf_cat, Value.category]) dX13_readSetupStatement_4 ?_
    refine p_isW (v := 31) h (by decide) ?_
    rw [if_neg w0]
    refine R.if_eq (tgt := 15) dX13_readSetupStatement_7 (by decide) (fun _ => ?_) (fun c9 => absurd (rfl) c9)
    refine R.aload_n dX13_readSetupStatement_15 rfl (by first | rfl | exact rfv_rf _) ?_
    refine R.ldcwS (i := 32) rfl dX13_readSetupStatement_16 ?_
    refine cl_X13_254 rfl rfl (by first | exact Nat.le_of_ble_eq_true rfl | simp [rf_cat, Value.category]) dX13_readSetupStatement_19 ?_
    refine p_isW (v := 32) h (by decide) ?_
    rw [if_neg w1]
    refine R.if_eq (tgt := 30) dX13_readSetupStatement_22 (by decide) (fun _ => ?_) (fun c9 => absurd (rfl) c9)
    refine R.aload_n dX13_readSetupStatement_30 rfl (by first | rfl | exact rfv_rf _) ?_
    refine R.ldcwS (i := 33) rfl dX13_readSetupStatement_31 ?_
    refine cl_X13_254 rfl rfl (by first | exact Nat.le_of_ble_eq_true rfl | simp [rf_cat, Value.category]) dX13_readSetupStatement_34 ?_
    refine p_isW (v := 33) h (by decide) ?_
    rw [if_neg w2]
    refine R.if_eq (tgt := 49) dX13_readSetupStatement_37 (by decide) (fun _ => ?_) (fun c9 => absurd (rfl) c9)
    refine R.aload_n dX13_readSetupStatement_49 rfl (by first | rfl | exact rfv_rf _) ?_
    refine R.ldcwS (i := 34) rfl dX13_readSetupStatement_50 ?_
    refine cl_X13_254 rfl rfl (by first | exact Nat.le_of_ble_eq_true rfl | simp [rf_cat, Value.category]) dX13_readSetupStatement_53 ?_
    refine p_isW (v := 34) h (by decide) ?_
    rw [if_neg w3]
    refine R.if_eq (tgt := 69) dX13_readSetupStatement_56 (by decide) (fun _ => ?_) (fun c9 => absurd (rfl) c9)
    refine R.aload_n dX13_readSetupStatement_69 rfl (by first | rfl | exact rfv_rf _) ?_
    refine R.ldcwS (i := 35) rfl dX13_readSetupStatement_70 ?_
    refine cl_X13_254 rfl rfl (by first | exact Nat.le_of_ble_eq_true rfl | simp [rf_cat, Value.category]) dX13_readSetupStatement_73 ?_
    refine p_isW (v := 35) h (by decide) ?_
    rw [if_neg w4]
    refine R.if_eq (tgt := 88) dX13_readSetupStatement_76 (by decide) (fun _ => ?_) (fun c9 => absurd (rfl) c9)
    refine R.aload_n dX13_readSetupStatement_88 rfl (by first | rfl | exact rfv_rf _) ?_
    refine R.ldcwS (i := 36) rfl dX13_readSetupStatement_89 ?_
    refine cl_X13_254 rfl rfl (by first | exact Nat.le_of_ble_eq_true rfl | simp [rf_cat, Value.category]) dX13_readSetupStatement_92 ?_
    refine p_isW (v := 36) h (by decide) ?_
    rw [if_pos w5]
    refine R.if_eq (tgt := 107) dX13_readSetupStatement_95 (by decide) (fun c9 => absurd c9 (by decide)) (fun _ => ?_)
    refine R.aload_n dX13_readSetupStatement_98 rfl (by first | rfl | exact rfv_rf _) ?_
    refine R.iconst (v := nI 5) dX13_readSetupStatement_99 rfl ?_
    refine R.iconst (v := 1) dX13_readSetupStatement_100 rfl ?_
    refine R.bipush (v := 9) dX13_readSetupStatement_101 (by decide) ?_
    refine cl_X13_282 rfl rfl (by first | exact Nat.le_of_ble_eq_true rfl | simp [rf_cat, Value.category]) dX13_readSetupStatement_103 ?_
    refine p_rdV (Y := Y) (m := m) (b9 := b9) (F := uF Y 6) h (by omega) (fun c2 => ?_) ?_
    case refine_1 =>
      obtain ⟨j, ej, j1, j2⟩ := nbV_in (lo := 1) (hi := 9) c2 (by omega) (by omega)
      rw [ej]
      exact hD.f6 j1 j2
    refine PRM.mo hq (fun v M9 z9 q9 => ?_)
    refine WP.ret (ov := some (.int _)) dX13_readSetupStatement_106 ⟨rfl, _, rfl, by first | rfl | assumption | exact nar_b01 (by assumption)⟩ ?_
    exact q9
  have w5 : ¬ isW b (tS b n e) (tE b n e) (tK b n e) 36 = true := by rw [isW_e (v := 36) (v' := 17) rfl]; exact y5
  rw [if_neg y5] at hq
  by_cases y6 : isW b (tS b n e) (tE b n e) (tK b n e) 18 = true
  case pos =>
    have w6 : isW b (tS b n e) (tE b n e) (tK b n e) 37 = true := by rw [isW_e (v := 37) (v' := 18) rfl]; exact y6
    rw [if_pos y6] at hq
    refine R.aload_n dX13_readSetupStatement_0 rfl (by first | rfl | exact rfv_rf _) ?_
    refine R.ldcwS (i := 31) rfl dX13_readSetupStatement_1 ?_
    refine cl_X13_254 rfl rfl (by first | exact Nat.le_of_ble_eq_true rfl | simp [rf_cat, Value.category]) dX13_readSetupStatement_4 ?_
    refine p_isW (v := 31) h (by decide) ?_
    rw [if_neg w0]
    refine R.if_eq (tgt := 15) dX13_readSetupStatement_7 (by decide) (fun _ => ?_) (fun c9 => absurd (rfl) c9)
    refine R.aload_n dX13_readSetupStatement_15 rfl (by first | rfl | exact rfv_rf _) ?_
    refine R.ldcwS (i := 32) rfl dX13_readSetupStatement_16 ?_
    refine cl_X13_254 rfl rfl (by first | exact Nat.le_of_ble_eq_true rfl | simp [rf_cat, Value.category]) dX13_readSetupStatement_19 ?_
    refine p_isW (v := 32) h (by decide) ?_
    rw [if_neg w1]
    refine R.if_eq (tgt := 30) dX13_readSetupStatement_22 (by decide) (fun _ => ?_) (fun c9 => absurd (rfl) c9)
    refine R.aload_n dX13_readSetupStatement_30 rfl (by first | rfl | exact rfv_rf _) ?_
    refine R.ldcwS (i := 33) rfl dX13_readSetupStatement_31 ?_
    refine cl_X13_254 rfl rfl (by first | exact Nat.le_of_ble_eq_true rfl | simp [rf_cat, Value.category]) dX13_readSetupStatement_34 ?_
    refine p_isW (v := 33) h (by decide) ?_
    rw [if_neg w2]
    refine R.if_eq (tgt := 49) dX13_readSetupStatement_37 (by decide) (fun _ => ?_) (fun c9 => absurd (rfl) c9)
    refine R.aload_n dX13_readSetupStatement_49 rfl (by first | rfl | exact rfv_rf _) ?_
    refine R.ldcwS (i := 34) rfl dX13_readSetupStatement_50 ?_
    refine cl_X13_254 rfl rfl (by first | exact Nat.le_of_ble_eq_true rfl | simp [rf_cat, Value.category]) dX13_readSetupStatement_53 ?_
    refine p_isW (v := 34) h (by decide) ?_
    rw [if_neg w3]
    refine R.if_eq (tgt := 69) dX13_readSetupStatement_56 (by decide) (fun _ => ?_) (fun c9 => absurd (rfl) c9)
    refine R.aload_n dX13_readSetupStatement_69 rfl (by first | rfl | exact rfv_rf _) ?_
    refine R.ldcwS (i := 35) rfl dX13_readSetupStatement_70 ?_
    refine cl_X13_254 rfl rfl (by first | exact Nat.le_of_ble_eq_true rfl | simp [rf_cat, Value.category]) dX13_readSetupStatement_73 ?_
    refine p_isW (v := 35) h (by decide) ?_
    rw [if_neg w4]
    refine R.if_eq (tgt := 88) dX13_readSetupStatement_76 (by decide) (fun _ => ?_) (fun c9 => absurd (rfl) c9)
    refine R.aload_n dX13_readSetupStatement_88 rfl (by first | rfl | exact rfv_rf _) ?_
    refine R.ldcwS (i := 36) rfl dX13_readSetupStatement_89 ?_
    refine cl_X13_254 rfl rfl (by first | exact Nat.le_of_ble_eq_true rfl | simp [rf_cat, Value.category]) dX13_readSetupStatement_92 ?_
    refine p_isW (v := 36) h (by decide) ?_
    rw [if_neg w5]
    refine R.if_eq (tgt := 107) dX13_readSetupStatement_95 (by decide) (fun _ => ?_) (fun c9 => absurd (rfl) c9)
    refine R.aload_n dX13_readSetupStatement_107 rfl (by first | rfl | exact rfv_rf _) ?_
    refine R.ldcwS (i := 37) rfl dX13_readSetupStatement_108 ?_
    refine cl_X13_254 rfl rfl (by first | exact Nat.le_of_ble_eq_true rfl | simp [rf_cat, Value.category]) dX13_readSetupStatement_111 ?_
    refine p_isW (v := 37) h (by decide) ?_
    rw [if_pos w6]
    refine R.if_eq (tgt := 129) dX13_readSetupStatement_114 (by decide) (fun c9 => absurd c9 (by decide)) (fun _ => ?_)
    refine R.aload_n dX13_readSetupStatement_117 rfl (by first | rfl | exact rfv_rf _) ?_
    refine R.bipush (v := nI 6) dX13_readSetupStatement_118 (by decide) ?_
    refine R.iconst (v := 0) dX13_readSetupStatement_120 rfl ?_
    refine R.bipush (v := 100) dX13_readSetupStatement_121 (by decide) ?_
    refine cl_X13_282 rfl rfl (by first | exact Nat.le_of_ble_eq_true rfl | simp [rf_cat, Value.category]) dX13_readSetupStatement_123 ?_
    refine p_rdV (Y := Y) (m := m) (b9 := b9) (F := uF Y 7) h (by omega) (fun c2 => ?_) ?_
    case refine_1 =>
      obtain ⟨j, ej, j1, j2⟩ := nbV_in (lo := 0) (hi := 100) c2 (by omega) (by omega)
      rw [ej]
      exact hD.f7 j1 j2
    refine PRM.mo hq (fun v M9 z9 q9 => ?_)
    refine R.goto (tgt := 134) dX13_readSetupStatement_126 (by decide) ?_
    refine WP.ret (ov := some (.int _)) dX13_readSetupStatement_134 ⟨rfl, _, rfl, by first | rfl | assumption | exact nar_b01 (by assumption)⟩ ?_
    exact q9
  have w6 : ¬ isW b (tS b n e) (tE b n e) (tK b n e) 37 = true := by rw [isW_e (v := 37) (v' := 18) rfl]; exact y6
  rw [if_neg y6] at hq
  refine R.aload_n dX13_readSetupStatement_0 rfl (by first | rfl | exact rfv_rf _) ?_
  refine R.ldcwS (i := 31) rfl dX13_readSetupStatement_1 ?_
  refine cl_X13_254 rfl rfl (by first | exact Nat.le_of_ble_eq_true rfl | simp [rf_cat, Value.category]) dX13_readSetupStatement_4 ?_
  refine p_isW (v := 31) h (by decide) ?_
  rw [if_neg w0]
  refine R.if_eq (tgt := 15) dX13_readSetupStatement_7 (by decide) (fun _ => ?_) (fun c9 => absurd (rfl) c9)
  refine R.aload_n dX13_readSetupStatement_15 rfl (by first | rfl | exact rfv_rf _) ?_
  refine R.ldcwS (i := 32) rfl dX13_readSetupStatement_16 ?_
  refine cl_X13_254 rfl rfl (by first | exact Nat.le_of_ble_eq_true rfl | simp [rf_cat, Value.category]) dX13_readSetupStatement_19 ?_
  refine p_isW (v := 32) h (by decide) ?_
  rw [if_neg w1]
  refine R.if_eq (tgt := 30) dX13_readSetupStatement_22 (by decide) (fun _ => ?_) (fun c9 => absurd (rfl) c9)
  refine R.aload_n dX13_readSetupStatement_30 rfl (by first | rfl | exact rfv_rf _) ?_
  refine R.ldcwS (i := 33) rfl dX13_readSetupStatement_31 ?_
  refine cl_X13_254 rfl rfl (by first | exact Nat.le_of_ble_eq_true rfl | simp [rf_cat, Value.category]) dX13_readSetupStatement_34 ?_
  refine p_isW (v := 33) h (by decide) ?_
  rw [if_neg w2]
  refine R.if_eq (tgt := 49) dX13_readSetupStatement_37 (by decide) (fun _ => ?_) (fun c9 => absurd (rfl) c9)
  refine R.aload_n dX13_readSetupStatement_49 rfl (by first | rfl | exact rfv_rf _) ?_
  refine R.ldcwS (i := 34) rfl dX13_readSetupStatement_50 ?_
  refine cl_X13_254 rfl rfl (by first | exact Nat.le_of_ble_eq_true rfl | simp [rf_cat, Value.category]) dX13_readSetupStatement_53 ?_
  refine p_isW (v := 34) h (by decide) ?_
  rw [if_neg w3]
  refine R.if_eq (tgt := 69) dX13_readSetupStatement_56 (by decide) (fun _ => ?_) (fun c9 => absurd (rfl) c9)
  refine R.aload_n dX13_readSetupStatement_69 rfl (by first | rfl | exact rfv_rf _) ?_
  refine R.ldcwS (i := 35) rfl dX13_readSetupStatement_70 ?_
  refine cl_X13_254 rfl rfl (by first | exact Nat.le_of_ble_eq_true rfl | simp [rf_cat, Value.category]) dX13_readSetupStatement_73 ?_
  refine p_isW (v := 35) h (by decide) ?_
  rw [if_neg w4]
  refine R.if_eq (tgt := 88) dX13_readSetupStatement_76 (by decide) (fun _ => ?_) (fun c9 => absurd (rfl) c9)
  refine R.aload_n dX13_readSetupStatement_88 rfl (by first | rfl | exact rfv_rf _) ?_
  refine R.ldcwS (i := 36) rfl dX13_readSetupStatement_89 ?_
  refine cl_X13_254 rfl rfl (by first | exact Nat.le_of_ble_eq_true rfl | simp [rf_cat, Value.category]) dX13_readSetupStatement_92 ?_
  refine p_isW (v := 36) h (by decide) ?_
  rw [if_neg w5]
  refine R.if_eq (tgt := 107) dX13_readSetupStatement_95 (by decide) (fun _ => ?_) (fun c9 => absurd (rfl) c9)
  refine R.aload_n dX13_readSetupStatement_107 rfl (by first | rfl | exact rfv_rf _) ?_
  refine R.ldcwS (i := 37) rfl dX13_readSetupStatement_108 ?_
  refine cl_X13_254 rfl rfl (by first | exact Nat.le_of_ble_eq_true rfl | simp [rf_cat, Value.category]) dX13_readSetupStatement_111 ?_
  refine p_isW (v := 37) h (by decide) ?_
  rw [if_neg w6]
  refine R.if_eq (tgt := 129) dX13_readSetupStatement_114 (by decide) (fun _ => ?_) (fun c9 => absurd (rfl) c9)
  refine R.aload_n dX13_readSetupStatement_129 rfl (by first | rfl | exact rfv_rf _) ?_
  refine R.iconst (v := 1) dX13_readSetupStatement_130 rfl ?_
  refine cl_X13_224 rfl rfl (by first | exact Nat.le_of_ble_eq_true rfl | simp [rf_cat, Value.category]) dX13_readSetupStatement_131 ?_
  refine p_fail h (fun M1 h1 => ?_)
  refine WP.ret (ov := some (.int _)) dX13_readSetupStatement_134 ⟨rfl, _, rfl, by first | rfl | assumption | exact nar_b01 (by assumption)⟩ ?_
  exact hq M1 h1
