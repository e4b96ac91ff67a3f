/-! the model reads a setup -/
/-- what a statement of a setup answers -/
def PRM (Q : Out → Mem → Prop) (M0 : Mem) (b : Nat → Int32) (n : Nat) (RR : OR9) (r : PR) : Prop := match r with
  | .inl (cd, s) => ∀ M' {w' : Nat → Int32}, PX M0 M' cd s w' → Q (.inl (some (.int 0))) M'
  | .inr (e', Y') => ∀ M' w' N' m' b', PQ M0 M' b n e' w' N' RR → DR Y' m' b' w' → Q (.inl (some (.int 1))) M'
theorem DR.r {Y : Yd} {m b : Nat} {w : Nat → Int32} (h : DR Y m b w) : RW (uT Y 6 0) m b m w := h.1
theorem DR.v {Y : Yd} {m b : Nat} {w : Nat → Int32} (h : DR Y m b w) : PV Y m b m := h.2.1
theorem cnF_T {Y : Yd} {x v : Int32} {f : Nat} : ∀ n i, cnF (uT Y f v) x n i = cnF Y x n i := by
  intro n
  induction n with
  | zero => intro i; rfl
  | succ n ih => intro i; rw [cnF, cnF, ih]; rfl
theorem bnF_T {Y : Yd} {x v : Int32} {f : Nat} : ∀ n i, bnF (uT Y f v) x n i = bnF Y x n i := by
  intro n
  induction n with
  | zero => intro i; rfl
  | succ n ih => intro i; rw [bnF, bnF, ih]; rfl
theorem rqC_T {b : Nat → Int32} {s e : Nat} {Y : Yd} {v : Int32} {f : Nat} : rqC b s e (uT Y f v) = rqC b s e Y := by
  unfold rqC
  rw [cnF_T]
  rfl
theorem nbV_in {b : Nat → Int32} {n e lo hi : Nat} (hc : nbC b n e (nI lo) (nI hi) = 0) (hh : hi < 2 ^ 31) (hl : lo ≤ hi) : ∃ j, nbV b n e = nI j ∧ lo ≤ j ∧ j ≤ hi := by
  obtain ⟨-, h1, h2⟩ := nb_z hc
  obtain ⟨j, hj, e0⟩ := nI_of (x := nbV b n e) (fun z => absurd h1 (fun q => absurd (Int32.le_trans (nI_pos' (by omega)) q) (i_nle z)))
  rw [e0] at h1 h2
  exact ⟨j, e0, (nI_leI (by omega) hj).mp h1, (nI_leI hj hh).mp h2⟩
set_option maxHeartbeats 1000000 in
set_option maxRecDepth 4000 in
theorem m_addC {d : Nat} {w : Nat → Int32} {M : Mem} {Q : Out → Mem → Prop} {c : Nat} {L ta go p : Int32} (hL : ML M) (hm : c < 16) (h0 : w 0 = nI c) (hq : Q (.inl none) (sW M (acW w c L ta go p))) : WPc (d + 1) mX13_addsCrate [.ref (rf 11 0), .int L, .int ta, .int go, .int p] (sW M w) Q := by
  refine WPc.of (by decide +kernel) (Nat.le_of_ble_eq_true rfl) rfl ?_
  refine R.aload_n dX13_addsCrate_0 rfl (by first | rfl | exact rfv_rf _) ?_
  refine R.getS (hL.w) dX13_addsCrate_1 fl_X13_7 (by decide) rfl ?_
  refine R.iconst (v := nI 0) dX13_addsCrate_4 rfl ?_
  refine R.ialdN (k := 0) dX13_addsCrate_5 (by omega) (by show _ < mN M 14 0; rw [hL.n]; omega) ?_
  rw [mI_sWc]
  rw [h0]
  refine R.istore dX13_addsCrate_6 (Nat.le_of_ble_eq_true rfl) (by decide) (by first | rfl | simp [lft, rf_cat]) rfl ?_
  refine R.aload_n dX13_addsCrate_8 rfl (by first | rfl | exact rfv_rf _) ?_
  refine R.iload dX13_addsCrate_9 rfl ?_
  refine R.iconst (v := nI 0) dX13_addsCrate_11 rfl ?_
  refine R.iload_n dX13_addsCrate_12 rfl ?_
  refine cl_X13_72 rfl rfl (by first | exact Nat.le_of_ble_eq_true rfl | simp [rf_cat, Value.category]) dX13_addsCrate_13 ?_
  refine m_puts hL hm (by omega) ?_
  refine R.aload_n dX13_addsCrate_16 rfl (by first | rfl | exact rfv_rf _) ?_
  refine R.iload dX13_addsCrate_17 rfl ?_
  refine R.bipush (v := nI 7) dX13_addsCrate_19 (by decide) ?_
  refine R.iload_n dX13_addsCrate_21 rfl ?_
  refine cl_X13_72 rfl rfl (by first | exact Nat.le_of_ble_eq_true rfl | simp [rf_cat, Value.category]) dX13_addsCrate_22 ?_
  refine m_puts hL hm (by omega) ?_
  refine R.aload_n dX13_addsCrate_25 rfl (by first | rfl | exact rfv_rf _) ?_
  refine R.iload dX13_addsCrate_26 rfl ?_
  refine R.bipush (v := nI 8) dX13_addsCrate_28 (by decide) ?_
  refine R.iload_n dX13_addsCrate_30 rfl ?_
  refine cl_X13_72 rfl rfl (by first | exact Nat.le_of_ble_eq_true rfl | simp [rf_cat, Value.category]) dX13_addsCrate_31 ?_
  refine m_puts hL hm (by omega) ?_
  refine R.aload_n dX13_addsCrate_34 rfl (by first | rfl | exact rfv_rf _) ?_
  refine R.iload dX13_addsCrate_35 rfl ?_
  refine R.bipush (v := nI 9) dX13_addsCrate_37 (by decide) ?_
  refine R.iload dX13_addsCrate_39 rfl ?_
  refine cl_X13_72 rfl rfl (by first | exact Nat.le_of_ble_eq_true rfl | simp [rf_cat, Value.category]) dX13_addsCrate_41 ?_
  refine m_puts hL hm (by omega) ?_
  refine R.aload_n dX13_addsCrate_44 rfl (by first | rfl | exact rfv_rf _) ?_
  refine R.iload dX13_addsCrate_45 rfl ?_
  refine R.bipush (v := nI 10) dX13_addsCrate_47 (by decide) ?_
  refine R.aload_n dX13_addsCrate_49 rfl (by first | rfl | exact rfv_rf _) ?_
  refine R.getS (hL.w) dX13_addsCrate_50 fl_X13_7 (by decide) rfl ?_
  refine R.bipush (v := nI 15) dX13_addsCrate_53 (by decide) ?_
  refine R.ialdN (k := 15) dX13_addsCrate_55 (by omega) (by show _ < mN M 14 0; rw [hL.n]; omega) ?_
  rw [mI_sWc]
  rw [upW_n _ _ (by omega), upW_n _ _ (by omega), upW_n _ _ (by omega), upW_n _ _ (by omega)]
  refine cl_X13_72 rfl rfl (by first | exact Nat.le_of_ble_eq_true rfl | simp [rf_cat, Value.category]) dX13_addsCrate_56 ?_
  refine m_puts hL hm (by omega) ?_
  refine R.aload_n dX13_addsCrate_59 rfl (by first | rfl | exact rfv_rf _) ?_
  refine R.getS (hL.w) dX13_addsCrate_60 fl_X13_7 (by decide) rfl ?_
  refine R.bipush (v := nI 15) dX13_addsCrate_63 (by decide) ?_
  refine R.dup2 dX13_addsCrate_65 rfl rfl ?_
  refine R.ialdN (k := 15) dX13_addsCrate_66 (by omega) (by show _ < mN M 14 0; rw [hL.n]; omega) ?_
  rw [mI_sWc]
  rw [upW_n _ _ (by omega), upW_n _ _ (by omega), upW_n _ _ (by omega), upW_n _ _ (by omega), upW_n _ _ (by omega)]
  refine R.iconst (v := 1) dX13_addsCrate_67 rfl ?_
  refine R.iadd dX13_addsCrate_68 ?_
  refine R.iastN (k := 15) dX13_addsCrate_69 (by omega) (by show _ < mN M 14 0; rw [hL.n]; omega) ?_
  rw [sI_sW]
  refine R.aload_n dX13_addsCrate_70 rfl (by first | rfl | exact rfv_rf _) ?_
  refine R.getS (hL.w) dX13_addsCrate_71 fl_X13_7 (by decide) rfl ?_
  refine R.iconst (v := nI 0) dX13_addsCrate_74 rfl ?_
  refine R.dup2 dX13_addsCrate_75 rfl rfl ?_
  refine R.ialdN (k := 0) dX13_addsCrate_76 (by omega) (by show _ < mN M 14 0; rw [hL.n]; omega) ?_
  rw [mI_sWc]
  rw [upW_n _ _ (by omega), upW_n _ _ (by omega), upW_n _ _ (by omega), upW_n _ _ (by omega), upW_n _ _ (by omega), upW_n _ _ (by omega), h0]
  refine R.iconst (v := 1) dX13_addsCrate_77 rfl ?_
  refine R.iadd dX13_addsCrate_78 ?_
  rw [nI_s1]
  refine R.iastN (k := 0) dX13_addsCrate_79 (by omega) (by show _ < mN M 14 0; rw [hL.n]; omega) ?_
  rw [sI_sW]
  refine WP.ret (ov := none) dX13_addsCrate_80 ⟨rfl, rfl⟩ ?_
  exact hq
set_option maxHeartbeats 1000000 in
set_option maxRecDepth 4000 in
theorem m_addB {d : Nat} {w : Nat → Int32} {M : Mem} {Q : Out → Mem → Prop} {c : Nat} {L mo to tr : Int32} (hL : ML M) (hm : c < 6) (h0 : w 1 = nI c) (hq : Q (.inl none) (sW M (abW w c L mo to tr))) : WPc (d + 1) mX13_addsBuyer [.ref (rf 11 0), .int L, .int mo, .int to, .int tr] (sW M w) Q := by
  refine WPc.of (by decide +kernel) (Nat.le_of_ble_eq_true rfl) rfl ?_
  refine R.aload_n dX13_addsBuyer_0 rfl (by first | rfl | exact rfv_rf _) ?_
  refine R.getS (hL.w) dX13_addsBuyer_1 fl_X13_7 (by decide) rfl ?_
  refine R.iconst (v := nI 1) dX13_addsBuyer_4 rfl ?_
  refine R.ialdN (k := 1) dX13_addsBuyer_5 (by omega) (by show _ < mN M 14 0; rw [hL.n]; omega) ?_
  rw [mI_sWc]
  rw [h0]
  refine R.istore dX13_addsBuyer_6 (Nat.le_of_ble_eq_true rfl) (by decide) (by first | rfl | simp [lft, rf_cat]) rfl ?_
  refine R.aload_n dX13_addsBuyer_8 rfl (by first | rfl | exact rfv_rf _) ?_
  refine R.iload dX13_addsBuyer_9 rfl ?_
  refine R.iconst (v := nI 0) dX13_addsBuyer_11 rfl ?_
  refine R.iload_n dX13_addsBuyer_12 rfl ?_
  refine cl_X13_75 rfl rfl (by first | exact Nat.le_of_ble_eq_true rfl | simp [rf_cat, Value.category]) dX13_addsBuyer_13 ?_
  refine m_putsB hL hm (by omega) ?_
  refine R.aload_n dX13_addsBuyer_16 rfl (by first | rfl | exact rfv_rf _) ?_
  refine R.iload dX13_addsBuyer_17 rfl ?_
  refine R.bipush (v := nI 7) dX13_addsBuyer_19 (by decide) ?_
  refine R.iload_n dX13_addsBuyer_21 rfl ?_
  refine cl_X13_75 rfl rfl (by first | exact Nat.le_of_ble_eq_true rfl | simp [rf_cat, Value.category]) dX13_addsBuyer_22 ?_
  refine m_putsB hL hm (by omega) ?_
  refine R.aload_n dX13_addsBuyer_25 rfl (by first | rfl | exact rfv_rf _) ?_
  refine R.iload dX13_addsBuyer_26 rfl ?_
  refine R.bipush (v := nI 8) dX13_addsBuyer_28 (by decide) ?_
  refine R.iload_n dX13_addsBuyer_30 rfl ?_
  refine cl_X13_75 rfl rfl (by first | exact Nat.le_of_ble_eq_true rfl | simp [rf_cat, Value.category]) dX13_addsBuyer_31 ?_
  refine m_putsB hL hm (by omega) ?_
  refine R.aload_n dX13_addsBuyer_34 rfl (by first | rfl | exact rfv_rf _) ?_
  refine R.iload dX13_addsBuyer_35 rfl ?_
  refine R.bipush (v := nI 9) dX13_addsBuyer_37 (by decide) ?_
  refine R.iload dX13_addsBuyer_39 rfl ?_
  refine cl_X13_75 rfl rfl (by first | exact Nat.le_of_ble_eq_true rfl | simp [rf_cat, Value.category]) dX13_addsBuyer_41 ?_
  refine m_putsB hL hm (by omega) ?_
  refine R.aload_n dX13_addsBuyer_44 rfl (by first | rfl | exact rfv_rf _) ?_
  refine R.getS (hL.w) dX13_addsBuyer_45 fl_X13_7 (by decide) rfl ?_
  refine R.iconst (v := nI 1) dX13_addsBuyer_48 rfl ?_
  refine R.dup2 dX13_addsBuyer_49 rfl rfl ?_
  refine R.ialdN (k := 1) dX13_addsBuyer_50 (by omega) (by show _ < mN M 14 0; rw [hL.n]; omega) ?_
  rw [mI_sWc]
  rw [upW_n _ _ (by omega), upW_n _ _ (by omega), upW_n _ _ (by omega), upW_n _ _ (by omega), h0]
  refine R.iconst (v := 1) dX13_addsBuyer_51 rfl ?_
  refine R.iadd dX13_addsBuyer_52 ?_
  rw [nI_s1]
  refine R.iastN (k := 1) dX13_addsBuyer_53 (by omega) (by show _ < mN M 14 0; rw [hL.n]; omega) ?_
  rw [sI_sW]
  refine WP.ret (ov := none) dX13_addsBuyer_54 ⟨rfl, rfl⟩ ?_
  exact hq
set_option maxHeartbeats 4000000 in
set_option maxRecDepth 4000 in
theorem p_rdC {d n e : Nat} {b w N : Nat → Int32} {RR : OR9} {M0 M : Mem} {Q : Out → Mem → Prop} {Y : Yd} {m b9 : Nat} (h : PQ M0 M b n e w N RR) (hD : DR Y m b9 w) (hq : PRM Q M0 b n RR (crP0 b n (tS b n e) (tE b n e) m Y)) : WPc (d + 6) mX13_readCrate [.ref (rf 11 0)] M Q := by
  refine WPc.of (by decide +kernel) (Nat.le_of_ble_eq_true rfl) rfl ?_
  unfold crP0 at hq
  have hm16 := hD.v.m16
  by_cases hf : 16 ≤ m
  · rw [if_pos hf] at hq
    have hmn : nI m = nI 16 := by congr 1; omega
    refine R.aload_n dX13_readCrate_0 rfl (by first | rfl | exact rfv_rf _) ?_
    refine R.getS (h.l.w) dX13_readCrate_1 fl_X13_7 (by decide) rfl ?_
    refine R.iconst (v := nI 0) dX13_readCrate_4 rfl ?_
    refine R.ialdN (k := 0) dX13_readCrate_5 (by omega) (by show _ < mN M 14 0; rw [h.l.n]; omega) ?_
    rw [h.w, hD.r.t.z]
    refine R.bipush (v := nI 16) dX13_readCrate_6 (by decide) ?_
    refine R.icmp_ne (tgt := 18) dX13_readCrate_8 (by decide) (fun c9 => absurd (hmn) c9) (fun _ => ?_)
    refine R.aload_n dX13_readCrate_11 rfl (by first | rfl | exact rfv_rf _) ?_
    refine R.bipush (v := 6) dX13_readCrate_12 (by decide) ?_
    refine cl_X13_224 rfl rfl (by first | exact Nat.le_of_ble_eq_true rfl | simp [rf_cat, Value.category]) dX13_readCrate_14 ?_
    refine p_fail h (fun M1 h1 => ?_)
    refine WP.ret (ov := some (.int _)) dX13_readCrate_17 ⟨rfl, _, rfl, by first | rfl | assumption | exact nar_b01 (by assumption)⟩ ?_
    exact hq M1 h1
  rw [if_neg hf] at hq
  have hm : m < 16 := by omega
  have hmn : ¬ nI m = nI 16 := fun q => by have := (nI_inj (by omega) (by omega)).mp q; omega
  unfold crP1 at hq
  by_cases c1 : nnC b n (tE b n e) = 0
  case neg =>
    rw [if_neg c1] at hq
    refine R.aload_n dX13_readCrate_0 rfl (by first | rfl | exact rfv_rf _) ?_
    refine R.getS (h.l.w) dX13_readCrate_1 fl_X13_7 (by decide) rfl ?_
    refine R.iconst (v := nI 0) dX13_readCrate_4 rfl ?_
    refine R.ialdN (k := 0) dX13_readCrate_5 (by omega) (by show _ < mN M 14 0; rw [h.l.n]; omega) ?_
    rw [h.w, hD.r.t.z]
    refine R.bipush (v := nI 16) dX13_readCrate_6 (by decide) ?_
    refine R.icmp_ne (tgt := 18) dX13_readCrate_8 (by decide) (fun _ => ?_) (fun c9 => absurd c9 (hmn))
    refine R.aload_n dX13_readCrate_18 rfl (by first | rfl | exact rfv_rf _) ?_
    refine cl_X13_233 rfl rfl (by first | exact Nat.le_of_ble_eq_true rfl | simp [rf_cat, Value.category]) dX13_readCrate_19 ?_
    refine p_adv h (fun M1 h1 => ?_)
    refine R.aload_n dX13_readCrate_22 rfl (by first | rfl | exact rfv_rf _) ?_
    refine cl_X13_242 rfl rfl (by first | exact Nat.le_of_ble_eq_true rfl | simp [rf_cat, Value.category]) dX13_readCrate_23 ?_
    refine p_nmN h1 c1 (fun M2 h2 => ?_)
    refine R.if_eq (tgt := 61) dX13_readCrate_26 (by decide) (fun _ => ?_) (fun c9 => absurd (rfl) c9)
    refine R.iconst (v := 0) dX13_readCrate_61 rfl ?_
    refine WP.ret (ov := some (.int _)) dX13_readCrate_62 ⟨rfl, _, rfl, by first | rfl | assumption | exact nar_b01 (by assumption)⟩ ?_
    exact hq M2 h2
  rw [if_pos c1] at hq
  unfold crP2 at hq
  cases hcn : cnF Y (nmF b (tS b n (tE b n e)) (tE b n (tE b n e))) 16 0 with
  | some j =>
    rw [hcn, if_neg (fun z => nomatch z)] at hq
    have hj16 := cnF_lt 16 0 (by omega) hcn
    refine R.aload_n dX13_readCrate_0 rfl (by first | rfl | exact rfv_rf _) ?_
    refine R.getS (h.l.w) dX13_readCrate_1 fl_X13_7 (by decide) rfl ?_
    refine R.iconst (v := nI 0) dX13_readCrate_4 rfl ?_
    refine R.ialdN (k := 0) dX13_readCrate_5 (by omega) (by show _ < mN M 14 0; rw [h.l.n]; omega) ?_
    rw [h.w, hD.r.t.z]
    refine R.bipush (v := nI 16) dX13_readCrate_6 (by decide) ?_
    refine R.icmp_ne (tgt := 18) dX13_readCrate_8 (by decide) (fun _ => ?_) (fun c9 => absurd c9 (hmn))
    refine R.aload_n dX13_readCrate_18 rfl (by first | rfl | exact rfv_rf _) ?_
    refine cl_X13_233 rfl rfl (by first | exact Nat.le_of_ble_eq_true rfl | simp [rf_cat, Value.category]) dX13_readCrate_19 ?_
    refine p_adv h (fun M1 h1 => ?_)
    refine R.aload_n dX13_readCrate_22 rfl (by first | rfl | exact rfv_rf _) ?_
    refine cl_X13_242 rfl rfl (by first | exact Nat.le_of_ble_eq_true rfl | simp [rf_cat, Value.category]) dX13_readCrate_23 ?_
    refine p_nmS h1 c1 ?_
    refine R.if_eq (tgt := 61) dX13_readCrate_26 (by decide) (fun c9 => absurd c9 (by decide)) (fun _ => ?_)
    refine R.aload_n dX13_readCrate_29 rfl (by first | rfl | exact rfv_rf _) ?_
    refine R.bipush (v := 16) dX13_readCrate_30 (by decide) ?_
    refine R.bipush (v := 18) dX13_readCrate_32 (by decide) ?_
    refine R.aload_n dX13_readCrate_34 rfl (by first | rfl | exact rfv_rf _) ?_
    refine R.getS (h1.l.w) dX13_readCrate_35 fl_X13_7 (by decide) rfl ?_
    refine R.iconst (v := nI 0) dX13_readCrate_38 rfl ?_
    refine R.ialdN (k := 0) dX13_readCrate_39 (by omega) (by show _ < mN M1 14 0; rw [h1.l.n]; omega) ?_
    rw [h1.w, hD.r.t.z]
    refine R.imul dX13_readCrate_40 ?_
    refine R.iadd dX13_readCrate_41 ?_
    rw [wi_c0]
    refine R.aload_n dX13_readCrate_42 rfl (by first | rfl | exact rfv_rf _) ?_
    refine cl_X13_246 rfl rfl (by first | exact Nat.le_of_ble_eq_true rfl | simp [rf_cat, Value.category]) dX13_readCrate_43 ?_
    refine p_cH h1 hD.r (show CrB (uT Y 6 0) m b9 from hD.v.c) c1 ?_
    rw [cnF_T, hcn]
    change WP _ _ _ _ (.int (nI j) :: _) _ _
    refine R.iconst (v := -1) dX13_readCrate_46 rfl ?_
    refine R.icmp_eq (tgt := 54) dX13_readCrate_47 (by decide) (fun c9 => absurd c9 (nI_m1 (by omega))) (fun _ => ?_)
    refine R.iconst (v := 1) dX13_readCrate_50 rfl ?_
    refine R.goto (tgt := 55) dX13_readCrate_51 (by decide) ?_
    refine cl_X13_258 rfl rfl (by first | exact Nat.le_of_ble_eq_true rfl | simp [rf_cat, Value.category]) dX13_readCrate_55 ?_
    refine p_nnU h1 (fun M2 h2 => ?_)
    refine R.if_ne (tgt := 63) dX13_readCrate_58 (by decide) (fun c9 => absurd (rfl) c9) (fun _ => ?_)
    refine R.iconst (v := 0) dX13_readCrate_61 rfl ?_
    refine WP.ret (ov := some (.int _)) dX13_readCrate_62 ⟨rfl, _, rfl, by first | rfl | assumption | exact nar_b01 (by assumption)⟩ ?_
    exact hq M2 h2
  | none =>
  rw [if_pos hcn] at hq
  unfold crP3 at hq
  by_cases c2 : nbC b n (tE b n (tE b n e)) 1 50 = 0
  case neg =>
    rw [if_neg c2] at hq
    refine R.aload_n dX13_readCrate_0 rfl (by first | rfl | exact rfv_rf _) ?_
    refine R.getS (h.l.w) dX13_readCrate_1 fl_X13_7 (by decide) rfl ?_
    refine R.iconst (v := nI 0) dX13_readCrate_4 rfl ?_
    refine R.ialdN (k := 0) dX13_readCrate_5 (by omega) (by show _ < mN M 14 0; rw [h.l.n]; omega) ?_
    rw [h.w, hD.r.t.z]
    refine R.bipush (v := nI 16) dX13_readCrate_6 (by decide) ?_
    refine R.icmp_ne (tgt := 18) dX13_readCrate_8 (by decide) (fun _ => ?_) (fun c9 => absurd c9 (hmn))
    refine R.aload_n dX13_readCrate_18 rfl (by first | rfl | exact rfv_rf _) ?_
    refine cl_X13_233 rfl rfl (by first | exact Nat.le_of_ble_eq_true rfl | simp [rf_cat, Value.category]) dX13_readCrate_19 ?_
    refine p_adv h (fun M1 h1 => ?_)
    refine R.aload_n dX13_readCrate_22 rfl (by first | rfl | exact rfv_rf _) ?_
    refine cl_X13_242 rfl rfl (by first | exact Nat.le_of_ble_eq_true rfl | simp [rf_cat, Value.category]) dX13_readCrate_23 ?_
    refine p_nmS h1 c1 ?_
    refine R.if_eq (tgt := 61) dX13_readCrate_26 (by decide) (fun c9 => absurd c9 (by decide)) (fun _ => ?_)
    refine R.aload_n dX13_readCrate_29 rfl (by first | rfl | exact rfv_rf _) ?_
    refine R.bipush (v := 16) dX13_readCrate_30 (by decide) ?_
    refine R.bipush (v := 18) dX13_readCrate_32 (by decide) ?_
    refine R.aload_n dX13_readCrate_34 rfl (by first | rfl | exact rfv_rf _) ?_
    refine R.getS (h1.l.w) dX13_readCrate_35 fl_X13_7 (by decide) rfl ?_
    refine R.iconst (v := nI 0) dX13_readCrate_38 rfl ?_
    refine R.ialdN (k := 0) dX13_readCrate_39 (by omega) (by show _ < mN M1 14 0; rw [h1.l.n]; omega) ?_
    rw [h1.w, hD.r.t.z]
    refine R.imul dX13_readCrate_40 ?_
    refine R.iadd dX13_readCrate_41 ?_
    rw [wi_c0]
    refine R.aload_n dX13_readCrate_42 rfl (by first | rfl | exact rfv_rf _) ?_
    refine cl_X13_246 rfl rfl (by first | exact Nat.le_of_ble_eq_true rfl | simp [rf_cat, Value.category]) dX13_readCrate_43 ?_
    refine p_cH h1 hD.r (show CrB (uT Y 6 0) m b9 from hD.v.c) c1 ?_
    rw [cnF_T, hcn]
    change WP _ _ _ _ (.int (-1) :: _) _ _
    refine R.iconst (v := -1) dX13_readCrate_46 rfl ?_
    refine R.icmp_eq (tgt := 54) dX13_readCrate_47 (by decide) (fun _ => ?_) (fun c9 => absurd (rfl) c9)
    refine R.iconst (v := 0) dX13_readCrate_54 rfl ?_
    refine cl_X13_258 rfl rfl (by first | exact Nat.le_of_ble_eq_true rfl | simp [rf_cat, Value.category]) dX13_readCrate_55 ?_
    refine p_nnS h1 (by omega) c1 (fun M2 h2 => ?_)
    refine R.if_ne (tgt := 63) dX13_readCrate_58 (by decide) (fun _ => ?_) (fun c9 => absurd c9 (by decide))
    refine R.aload_n dX13_readCrate_63 rfl (by first | rfl | exact rfv_rf _) ?_
    refine R.iconst (v := nI 0) dX13_readCrate_64 rfl ?_
    refine R.iconst (v := 1) dX13_readCrate_65 rfl ?_
    refine R.bipush (v := 50) dX13_readCrate_66 (by decide) ?_
    refine cl_X13_262 rfl rfl (by first | exact Nat.le_of_ble_eq_true rfl | simp [rf_cat, Value.category]) dX13_readCrate_68 ?_
    refine p_tkN (k := 0) h2 c2 (fun M3 h3 => ?_)
    refine R.if_eq (tgt := 93) dX13_readCrate_71 (by decide) (fun _ => ?_) (fun c9 => absurd (rfl) c9)
    refine R.iconst (v := 0) dX13_readCrate_93 rfl ?_
    refine WP.ret (ov := some (.int _)) dX13_readCrate_94 ⟨rfl, _, rfl, by first | rfl | assumption | exact nar_b01 (by assumption)⟩ ?_
    exact hq M3 h3
  rw [if_pos c2] at hq
  unfold crP4 at hq
  by_cases c3 : nbC b n (tE b n (tE b n (tE b n e))) 0 500 = 0
  case neg =>
    rw [if_neg c3] at hq
    refine R.aload_n dX13_readCrate_0 rfl (by first | rfl | exact rfv_rf _) ?_
    refine R.getS (h.l.w) dX13_readCrate_1 fl_X13_7 (by decide) rfl ?_
    refine R.iconst (v := nI 0) dX13_readCrate_4 rfl ?_
    refine R.ialdN (k := 0) dX13_readCrate_5 (by omega) (by show _ < mN M 14 0; rw [h.l.n]; omega) ?_
    rw [h.w, hD.r.t.z]
    refine R.bipush (v := nI 16) dX13_readCrate_6 (by decide) ?_
    refine R.icmp_ne (tgt := 18) dX13_readCrate_8 (by decide) (fun _ => ?_) (fun c9 => absurd c9 (hmn))
    refine R.aload_n dX13_readCrate_18 rfl (by first | rfl | exact rfv_rf _) ?_
    refine cl_X13_233 rfl rfl (by first | exact Nat.le_of_ble_eq_true rfl | simp [rf_cat, Value.category]) dX13_readCrate_19 ?_
    refine p_adv h (fun M1 h1 => ?_)
    refine R.aload_n dX13_readCrate_22 rfl (by first | rfl | exact rfv_rf _) ?_
    refine cl_X13_242 rfl rfl (by first | exact Nat.le_of_ble_eq_true rfl | simp [rf_cat, Value.category]) dX13_readCrate_23 ?_
    refine p_nmS h1 c1 ?_
    refine R.if_eq (tgt := 61) dX13_readCrate_26 (by decide) (fun c9 => absurd c9 (by decide)) (fun _ => ?_)
    refine R.aload_n dX13_readCrate_29 rfl (by first | rfl | exact rfv_rf _) ?_
    refine R.bipush (v := 16) dX13_readCrate_30 (by decide) ?_
    refine R.bipush (v := 18) dX13_readCrate_32 (by decide) ?_
    refine R.aload_n dX13_readCrate_34 rfl (by first | rfl | exact rfv_rf _) ?_
    refine R.getS (h1.l.w) dX13_readCrate_35 fl_X13_7 (by decide) rfl ?_
    refine R.iconst (v := nI 0) dX13_readCrate_38 rfl ?_
    refine R.ialdN (k := 0) dX13_readCrate_39 (by omega) (by show _ < mN M1 14 0; rw [h1.l.n]; omega) ?_
    rw [h1.w, hD.r.t.z]
    refine R.imul dX13_readCrate_40 ?_
    refine R.iadd dX13_readCrate_41 ?_
    rw [wi_c0]
    refine R.aload_n dX13_readCrate_42 rfl (by first | rfl | exact rfv_rf _) ?_
    refine cl_X13_246 rfl rfl (by first | exact Nat.le_of_ble_eq_true rfl | simp [rf_cat, Value.category]) dX13_readCrate_43 ?_
    refine p_cH h1 hD.r (show CrB (uT Y 6 0) m b9 from hD.v.c) c1 ?_
    rw [cnF_T, hcn]
    change WP _ _ _ _ (.int (-1) :: _) _ _
    refine R.iconst (v := -1) dX13_readCrate_46 rfl ?_
    refine R.icmp_eq (tgt := 54) dX13_readCrate_47 (by decide) (fun _ => ?_) (fun c9 => absurd (rfl) c9)
    refine R.iconst (v := 0) dX13_readCrate_54 rfl ?_
    refine cl_X13_258 rfl rfl (by first | exact Nat.le_of_ble_eq_true rfl | simp [rf_cat, Value.category]) dX13_readCrate_55 ?_
    refine p_nnS h1 (by omega) c1 (fun M2 h2 => ?_)
    refine R.if_ne (tgt := 63) dX13_readCrate_58 (by decide) (fun _ => ?_) (fun c9 => absurd c9 (by decide))
    refine R.aload_n dX13_readCrate_63 rfl (by first | rfl | exact rfv_rf _) ?_
    refine R.iconst (v := nI 0) dX13_readCrate_64 rfl ?_
    refine R.iconst (v := 1) dX13_readCrate_65 rfl ?_
    refine R.bipush (v := 50) dX13_readCrate_66 (by decide) ?_
    refine cl_X13_262 rfl rfl (by first | exact Nat.le_of_ble_eq_true rfl | simp [rf_cat, Value.category]) dX13_readCrate_68 ?_
    refine p_tkS (k := 0) h2 (by omega) c2 (fun M3 h3 => ?_)
    refine R.if_eq (tgt := 93) dX13_readCrate_71 (by decide) (fun c9 => absurd c9 (by decide)) (fun _ => ?_)
    refine R.aload_n dX13_readCrate_74 rfl (by first | rfl | exact rfv_rf _) ?_
    refine R.iconst (v := nI 1) dX13_readCrate_75 rfl ?_
    refine R.iconst (v := 0) dX13_readCrate_76 rfl ?_
    refine R.sipush (v := 500) dX13_readCrate_77 (by decide) ?_
    refine cl_X13_262 rfl rfl (by first | exact Nat.le_of_ble_eq_true rfl | simp [rf_cat, Value.category]) dX13_readCrate_80 ?_
    refine p_tkN (k := 1) h3 c3 (fun M4 h4 => ?_)
    refine R.if_eq (tgt := 93) dX13_readCrate_83 (by decide) (fun _ => ?_) (fun c9 => absurd (rfl) c9)
    refine R.iconst (v := 0) dX13_readCrate_93 rfl ?_
    refine WP.ret (ov := some (.int _)) dX13_readCrate_94 ⟨rfl, _, rfl, by first | rfl | assumption | exact nar_b01 (by assumption)⟩ ?_
    exact hq M4 h4
  rw [if_pos c3] at hq
  unfold crP5 at hq
  have hR9 : RW (uT Y 6 0) m b9 m (nwF w b (16 + 18 * m) (tS b n (tE b n e)) (tE b n (tE b n e) - tS b n (tE b n e))) := hD.r.ltC (fun x hx => by
    show (if 16 + 18 * m + 1 ≤ x ∧ x < 16 + 18 * m + 7 then _ else w x) = w x
    rw [if_neg (by omega)]) hm
  by_cases hw13 : isW b (tS b n (tE b n (tE b n (tE b n (tE b n e))))) (tE b n (tE b n (tE b n (tE b n (tE b n e))))) (tK b n (tE b n (tE b n (tE b n (tE b n e))))) 13 = true
  case neg =>
    have hw30 : ¬ isW b (tS b n (tE b n (tE b n (tE b n (tE b n e))))) (tE b n (tE b n (tE b n (tE b n (tE b n e))))) (tK b n (tE b n (tE b n (tE b n (tE b n e))))) 30 = true := by rw [isW_e (v := 30) (v' := 13) rfl]; exact hw13
    rw [if_neg hw13] at hq
    unfold crP9 at hq
    by_cases c7 : scC (tK b n (tE b n (tE b n (tE b n (tE b n e))))) = 0
    · rw [if_pos c7] at hq
      obtain ⟨ta, eta, ta1, ta2⟩ := nbV_in (lo := 1) (hi := 50) c2 (by omega) (by omega)
      obtain ⟨go, ego, go1, go2⟩ := nbV_in (lo := 0) (hi := 500) c3 (by omega) (by omega)
      have hD8 : DR Y m b9 (nwF w b (16 + 18 * m) (tS b n (tE b n e)) (tE b n (tE b n e) - tS b n (tE b n e))) := ⟨hR9, hD.2⟩
      rw [eta, ego] at hq
      have hNW : NW (nmF b (tS b n (tE b n e)) (tE b n (tE b n e))) (acW (nwF w b (16 + 18 * m) (tS b n (tE b n e)) (tE b n (tE b n e) - tS b n (tE b n e))) m (nI (tE b n (tE b n e) - tS b n (tE b n e))) (nI ta) (nI go) (-1)) (16 + 18 * m) := NW.new c1 (acW_c.2.2.1) (fun j hj => by
        rw [acW_o (by omega)]
        show (if 16 + 18 * m + 1 ≤ 16 + 18 * m + 1 + j ∧ 16 + 18 * m + 1 + j < 16 + 18 * m + 7 then (if 16 + 18 * m + 1 + j - (16 + 18 * m + 1) < (tE b n (tE b n e) - tS b n (tE b n e)) then b (tS b n (tE b n e) + (16 + 18 * m + 1 + j - (16 + 18 * m + 1))) else 0) else w _) = _
        rw [if_pos (by omega), show 16 + 18 * m + 1 + j - (16 + 18 * m + 1) = j by omega])
      have hD9 := hD8.ac (nm := (nmF b (tS b n (tE b n e)) (tE b n (tE b n e)))) (L := (tE b n (tE b n e) - tS b n (tE b n e))) hm ta2 go2 hNW
      refine R.aload_n dX13_readCrate_0 rfl (by first | rfl | exact rfv_rf _) ?_
      refine R.getS (h.l.w) dX13_readCrate_1 fl_X13_7 (by decide) rfl ?_
      refine R.iconst (v := nI 0) dX13_readCrate_4 rfl ?_
      refine R.ialdN (k := 0) dX13_readCrate_5 (by omega) (by show _ < mN M 14 0; rw [h.l.n]; omega) ?_
      rw [h.w, hD.r.t.z]
      refine R.bipush (v := nI 16) dX13_readCrate_6 (by decide) ?_
      refine R.icmp_ne (tgt := 18) dX13_readCrate_8 (by decide) (fun _ => ?_) (fun c9 => absurd c9 (hmn))
      refine R.aload_n dX13_readCrate_18 rfl (by first | rfl | exact rfv_rf _) ?_
      refine cl_X13_233 rfl rfl (by first | exact Nat.le_of_ble_eq_true rfl | simp [rf_cat, Value.category]) dX13_readCrate_19 ?_
      refine p_adv h (fun M1 h1 => ?_)
      refine R.aload_n dX13_readCrate_22 rfl (by first | rfl | exact rfv_rf _) ?_
      refine cl_X13_242 rfl rfl (by first | exact Nat.le_of_ble_eq_true rfl | simp [rf_cat, Value.category]) dX13_readCrate_23 ?_
      refine p_nmS h1 c1 ?_
      refine R.if_eq (tgt := 61) dX13_readCrate_26 (by decide) (fun c9 => absurd c9 (by decide)) (fun _ => ?_)
      refine R.aload_n dX13_readCrate_29 rfl (by first | rfl | exact rfv_rf _) ?_
      refine R.bipush (v := 16) dX13_readCrate_30 (by decide) ?_
      refine R.bipush (v := 18) dX13_readCrate_32 (by decide) ?_
      refine R.aload_n dX13_readCrate_34 rfl (by first | rfl | exact rfv_rf _) ?_
      refine R.getS (h1.l.w) dX13_readCrate_35 fl_X13_7 (by decide) rfl ?_
      refine R.iconst (v := nI 0) dX13_readCrate_38 rfl ?_
      refine R.ialdN (k := 0) dX13_readCrate_39 (by omega) (by show _ < mN M1 14 0; rw [h1.l.n]; omega) ?_
      rw [h1.w, hD.r.t.z]
      refine R.imul dX13_readCrate_40 ?_
      refine R.iadd dX13_readCrate_41 ?_
      rw [wi_c0]
      refine R.aload_n dX13_readCrate_42 rfl (by first | rfl | exact rfv_rf _) ?_
      refine cl_X13_246 rfl rfl (by first | exact Nat.le_of_ble_eq_true rfl | simp [rf_cat, Value.category]) dX13_readCrate_43 ?_
      refine p_cH h1 hD.r (show CrB (uT Y 6 0) m b9 from hD.v.c) c1 ?_
      rw [cnF_T, hcn]
      change WP _ _ _ _ (.int (-1) :: _) _ _
      refine R.iconst (v := -1) dX13_readCrate_46 rfl ?_
      refine R.icmp_eq (tgt := 54) dX13_readCrate_47 (by decide) (fun _ => ?_) (fun c9 => absurd (rfl) c9)
      refine R.iconst (v := 0) dX13_readCrate_54 rfl ?_
      refine cl_X13_258 rfl rfl (by first | exact Nat.le_of_ble_eq_true rfl | simp [rf_cat, Value.category]) dX13_readCrate_55 ?_
      refine p_nnS h1 (by omega) c1 (fun M2 h2 => ?_)
      refine R.if_ne (tgt := 63) dX13_readCrate_58 (by decide) (fun _ => ?_) (fun c9 => absurd c9 (by decide))
      refine R.aload_n dX13_readCrate_63 rfl (by first | rfl | exact rfv_rf _) ?_
      refine R.iconst (v := nI 0) dX13_readCrate_64 rfl ?_
      refine R.iconst (v := 1) dX13_readCrate_65 rfl ?_
      refine R.bipush (v := 50) dX13_readCrate_66 (by decide) ?_
      refine cl_X13_262 rfl rfl (by first | exact Nat.le_of_ble_eq_true rfl | simp [rf_cat, Value.category]) dX13_readCrate_68 ?_
      refine p_tkS (k := 0) h2 (by omega) c2 (fun M3 h3 => ?_)
      refine R.if_eq (tgt := 93) dX13_readCrate_71 (by decide) (fun c9 => absurd c9 (by decide)) (fun _ => ?_)
      refine R.aload_n dX13_readCrate_74 rfl (by first | rfl | exact rfv_rf _) ?_
      refine R.iconst (v := nI 1) dX13_readCrate_75 rfl ?_
      refine R.iconst (v := 0) dX13_readCrate_76 rfl ?_
      refine R.sipush (v := 500) dX13_readCrate_77 (by decide) ?_
      refine cl_X13_262 rfl rfl (by first | exact Nat.le_of_ble_eq_true rfl | simp [rf_cat, Value.category]) dX13_readCrate_80 ?_
      refine p_tkS (k := 1) h3 (by omega) c3 (fun M4 h4 => ?_)
      refine R.if_eq (tgt := 93) dX13_readCrate_83 (by decide) (fun c9 => absurd c9 (by decide)) (fun _ => ?_)
      refine R.aload_n dX13_readCrate_86 rfl (by first | rfl | exact rfv_rf _) ?_
      refine cl_X13_265 rfl rfl (by first | exact Nat.le_of_ble_eq_true rfl | simp [rf_cat, Value.category]) dX13_readCrate_87 ?_
      refine p_paO h4 hw30 (fun M5 h5 => ?_)
      refine R.if_ne (tgt := 95) dX13_readCrate_90 (by decide) (fun _ => ?_) (fun c9 => absurd c9 (by decide))
      refine R.aload_n dX13_readCrate_95 rfl (by first | rfl | exact rfv_rf _) ?_
      refine R.aload_n dX13_readCrate_96 rfl (by first | rfl | exact rfv_rf _) ?_
      refine R.getS (h5.l.1.2.2.2.2.2.2.1) dX13_readCrate_97 fl_X13_32 (by decide) rfl ?_
      refine R.iconst (v := nI 3) dX13_readCrate_100 rfl ?_
      refine R.ialdN (k := 3) dX13_readCrate_101 (by omega) (by rw [h5.l.2.2.2.2.2.2.2.1]; omega) ?_
      rw [h5.N]
      change WP _ _ _ _ (.int (nI (tE b n (tE b n e) - tS b n (tE b n e))) :: _) _ _
      refine R.aload_n dX13_readCrate_102 rfl (by first | rfl | exact rfv_rf _) ?_
      refine R.getS (h5.l.1.2.2.2.2.2.2.1) dX13_readCrate_103 fl_X13_32 (by decide) rfl ?_
      refine R.iconst (v := nI 0) dX13_readCrate_106 rfl ?_
      refine R.ialdN (k := 0) dX13_readCrate_107 (by omega) (by rw [h5.l.2.2.2.2.2.2.2.1]; omega) ?_
      rw [h5.N]
      change WP _ _ _ _ (.int (nbV b n (tE b n (tE b n e))) :: _) _ _
      rw [eta]
      refine R.aload_n dX13_readCrate_108 rfl (by first | rfl | exact rfv_rf _) ?_
      refine R.getS (h5.l.1.2.2.2.2.2.2.1) dX13_readCrate_109 fl_X13_32 (by decide) rfl ?_
      refine R.iconst (v := nI 1) dX13_readCrate_112 rfl ?_
      refine R.ialdN (k := 1) dX13_readCrate_113 (by omega) (by rw [h5.l.2.2.2.2.2.2.2.1]; omega) ?_
      rw [h5.N]
      change WP _ _ _ _ (.int (nbV b n (tE b n (tE b n (tE b n e)))) :: _) _ _
      rw [ego]
      refine R.aload_n dX13_readCrate_114 rfl (by first | rfl | exact rfv_rf _) ?_
      refine R.getS (h5.l.1.2.2.2.2.2.2.1) dX13_readCrate_115 fl_X13_32 (by decide) rfl ?_
      refine R.iconst (v := nI 2) dX13_readCrate_118 rfl ?_
      refine R.ialdN (k := 2) dX13_readCrate_119 (by omega) (by rw [h5.l.2.2.2.2.2.2.2.1]; omega) ?_
      rw [h5.N]
      change WP _ _ _ _ (.int (-1) :: _) _ _
      refine cl_X13_54 rfl rfl (by first | exact Nat.le_of_ble_eq_true rfl | simp [rf_cat, Value.category]) dX13_readCrate_120 ?_
      refine atW h5.w ?_
      refine m_addC h5.l hm ((hR9.t.z)) ?_
      refine R.aload_n dX13_readCrate_123 rfl (by first | rfl | exact rfv_rf _) ?_
      refine cl_X13_268 rfl rfl (by first | exact Nat.le_of_ble_eq_true rfl | simp [rf_cat, Value.category]) dX13_readCrate_124 ?_
      refine p_semS (h5.sw _) c7 (fun M6 h6 => ?_)
      refine WP.ret (ov := some (.int _)) dX13_readCrate_127 ⟨rfl, _, rfl, by first | rfl | assumption | exact nar_b01 (by assumption)⟩ ?_
      exact hq M6 _ _ _ _ h6 hD9
    · rw [if_neg c7] at hq
      refine R.aload_n dX13_readCrate_0 rfl (by first | rfl | exact rfv_rf _) ?_
      refine R.getS (h.l.w) dX13_readCrate_1 fl_X13_7 (by decide) rfl ?_
      refine R.iconst (v := nI 0) dX13_readCrate_4 rfl ?_
      refine R.ialdN (k := 0) dX13_readCrate_5 (by omega) (by show _ < mN M 14 0; rw [h.l.n]; omega) ?_
      rw [h.w, hD.r.t.z]
      refine R.bipush (v := nI 16) dX13_readCrate_6 (by decide) ?_
      refine R.icmp_ne (tgt := 18) dX13_readCrate_8 (by decide) (fun _ => ?_) (fun c9 => absurd c9 (hmn))
      refine R.aload_n dX13_readCrate_18 rfl (by first | rfl | exact rfv_rf _) ?_
      refine cl_X13_233 rfl rfl (by first | exact Nat.le_of_ble_eq_true rfl | simp [rf_cat, Value.category]) dX13_readCrate_19 ?_
      refine p_adv h (fun M1 h1 => ?_)
      refine R.aload_n dX13_readCrate_22 rfl (by first | rfl | exact rfv_rf _) ?_
      refine cl_X13_242 rfl rfl (by first | exact Nat.le_of_ble_eq_true rfl | simp [rf_cat, Value.category]) dX13_readCrate_23 ?_
      refine p_nmS h1 c1 ?_
      refine R.if_eq (tgt := 61) dX13_readCrate_26 (by decide) (fun c9 => absurd c9 (by decide)) (fun _ => ?_)
      refine R.aload_n dX13_readCrate_29 rfl (by first | rfl | exact rfv_rf _) ?_
      refine R.bipush (v := 16) dX13_readCrate_30 (by decide) ?_
      refine R.bipush (v := 18) dX13_readCrate_32 (by decide) ?_
      refine R.aload_n dX13_readCrate_34 rfl (by first | rfl | exact rfv_rf _) ?_
      refine R.getS (h1.l.w) dX13_readCrate_35 fl_X13_7 (by decide) rfl ?_
      refine R.iconst (v := nI 0) dX13_readCrate_38 rfl ?_
      refine R.ialdN (k := 0) dX13_readCrate_39 (by omega) (by show _ < mN M1 14 0; rw [h1.l.n]; omega) ?_
      rw [h1.w, hD.r.t.z]
      refine R.imul dX13_readCrate_40 ?_
      refine R.iadd dX13_readCrate_41 ?_
      rw [wi_c0]
      refine R.aload_n dX13_readCrate_42 rfl (by first | rfl | exact rfv_rf _) ?_
      refine cl_X13_246 rfl rfl (by first | exact Nat.le_of_ble_eq_true rfl | simp [rf_cat, Value.category]) dX13_readCrate_43 ?_
      refine p_cH h1 hD.r (show CrB (uT Y 6 0) m b9 from hD.v.c) c1 ?_
      rw [cnF_T, hcn]
      change WP _ _ _ _ (.int (-1) :: _) _ _
      refine R.iconst (v := -1) dX13_readCrate_46 rfl ?_
      refine R.icmp_eq (tgt := 54) dX13_readCrate_47 (by decide) (fun _ => ?_) (fun c9 => absurd (rfl) c9)
      refine R.iconst (v := 0) dX13_readCrate_54 rfl ?_
      refine cl_X13_258 rfl rfl (by first | exact Nat.le_of_ble_eq_true rfl | simp [rf_cat, Value.category]) dX13_readCrate_55 ?_
      refine p_nnS h1 (by omega) c1 (fun M2 h2 => ?_)
      refine R.if_ne (tgt := 63) dX13_readCrate_58 (by decide) (fun _ => ?_) (fun c9 => absurd c9 (by decide))
      refine R.aload_n dX13_readCrate_63 rfl (by first | rfl | exact rfv_rf _) ?_
      refine R.iconst (v := nI 0) dX13_readCrate_64 rfl ?_
      refine R.iconst (v := 1) dX13_readCrate_65 rfl ?_
      refine R.bipush (v := 50) dX13_readCrate_66 (by decide) ?_
      refine cl_X13_262 rfl rfl (by first | exact Nat.le_of_ble_eq_true rfl | simp [rf_cat, Value.category]) dX13_readCrate_68 ?_
      refine p_tkS (k := 0) h2 (by omega) c2 (fun M3 h3 => ?_)
      refine R.if_eq (tgt := 93) dX13_readCrate_71 (by decide) (fun c9 => absurd c9 (by decide)) (fun _ => ?_)
      refine R.aload_n dX13_readCrate_74 rfl (by first | rfl | exact rfv_rf _) ?_
      refine R.iconst (v := nI 1) dX13_readCrate_75 rfl ?_
      refine R.iconst (v := 0) dX13_readCrate_76 rfl ?_
      refine R.sipush (v := 500) dX13_readCrate_77 (by decide) ?_
      refine cl_X13_262 rfl rfl (by first | exact Nat.le_of_ble_eq_true rfl | simp [rf_cat, Value.category]) dX13_readCrate_80 ?_
      refine p_tkS (k := 1) h3 (by omega) c3 (fun M4 h4 => ?_)
      refine R.if_eq (tgt := 93) dX13_readCrate_83 (by decide) (fun c9 => absurd c9 (by decide)) (fun _ => ?_)
      refine R.aload_n dX13_readCrate_86 rfl (by first | rfl | exact rfv_rf _) ?_
      refine cl_X13_265 rfl rfl (by first | exact Nat.le_of_ble_eq_true rfl | simp [rf_cat, Value.category]) dX13_readCrate_87 ?_
      refine p_paO h4 hw30 (fun M5 h5 => ?_)
      refine R.if_ne (tgt := 95) dX13_readCrate_90 (by decide) (fun _ => ?_) (fun c9 => absurd c9 (by decide))
      refine R.aload_n dX13_readCrate_95 rfl (by first | rfl | exact rfv_rf _) ?_
      refine R.aload_n dX13_readCrate_96 rfl (by first | rfl | exact rfv_rf _) ?_
      refine R.getS (h5.l.1.2.2.2.2.2.2.1) dX13_readCrate_97 fl_X13_32 (by decide) rfl ?_
      refine R.iconst (v := nI 3) dX13_readCrate_100 rfl ?_
      refine R.ialdN (k := 3) dX13_readCrate_101 (by omega) (by rw [h5.l.2.2.2.2.2.2.2.1]; omega) ?_
      rw [h5.N]
      change WP _ _ _ _ (.int (nI (tE b n (tE b n e) - tS b n (tE b n e))) :: _) _ _
      refine R.aload_n dX13_readCrate_102 rfl (by first | rfl | exact rfv_rf _) ?_
      refine R.getS (h5.l.1.2.2.2.2.2.2.1) dX13_readCrate_103 fl_X13_32 (by decide) rfl ?_
      refine R.iconst (v := nI 0) dX13_readCrate_106 rfl ?_
      refine R.ialdN (k := 0) dX13_readCrate_107 (by omega) (by rw [h5.l.2.2.2.2.2.2.2.1]; omega) ?_
      rw [h5.N]
      change WP _ _ _ _ (.int (nbV b n (tE b n (tE b n e))) :: _) _ _
      refine R.aload_n dX13_readCrate_108 rfl (by first | rfl | exact rfv_rf _) ?_
      refine R.getS (h5.l.1.2.2.2.2.2.2.1) dX13_readCrate_109 fl_X13_32 (by decide) rfl ?_
      refine R.iconst (v := nI 1) dX13_readCrate_112 rfl ?_
      refine R.ialdN (k := 1) dX13_readCrate_113 (by omega) (by rw [h5.l.2.2.2.2.2.2.2.1]; omega) ?_
      rw [h5.N]
      change WP _ _ _ _ (.int (nbV b n (tE b n (tE b n (tE b n e)))) :: _) _ _
      refine R.aload_n dX13_readCrate_114 rfl (by first | rfl | exact rfv_rf _) ?_
      refine R.getS (h5.l.1.2.2.2.2.2.2.1) dX13_readCrate_115 fl_X13_32 (by decide) rfl ?_
      refine R.iconst (v := nI 2) dX13_readCrate_118 rfl ?_
      refine R.ialdN (k := 2) dX13_readCrate_119 (by omega) (by rw [h5.l.2.2.2.2.2.2.2.1]; omega) ?_
      rw [h5.N]
      change WP _ _ _ _ (.int (-1) :: _) _ _
      refine cl_X13_54 rfl rfl (by first | exact Nat.le_of_ble_eq_true rfl | simp [rf_cat, Value.category]) dX13_readCrate_120 ?_
      refine atW h5.w ?_
      refine m_addC h5.l hm ((hR9.t.z)) ?_
      refine R.aload_n dX13_readCrate_123 rfl (by first | rfl | exact rfv_rf _) ?_
      refine cl_X13_268 rfl rfl (by first | exact Nat.le_of_ble_eq_true rfl | simp [rf_cat, Value.category]) dX13_readCrate_124 ?_
      refine p_semN (h5.sw _) c7 (fun M6 h6 => ?_)
      refine WP.ret (ov := some (.int _)) dX13_readCrate_127 ⟨rfl, _, rfl, by first | rfl | assumption | exact nar_b01 (by assumption)⟩ ?_
      exact hq M6 h6
  have hw30 : isW b (tS b n (tE b n (tE b n (tE b n (tE b n e))))) (tE b n (tE b n (tE b n (tE b n (tE b n e))))) (tK b n (tE b n (tE b n (tE b n (tE b n e))))) 30 = true := by rw [isW_e (v := 30) (v' := 13) rfl]; exact hw13
  rw [if_pos hw13] at hq
  unfold crP6 at hq
  by_cases c5 : nnC b n (tE b n (tE b n (tE b n (tE b n (tE b n e))))) = 0
  case neg =>
    rw [if_neg c5] at hq
    refine R.aload_n dX13_readCrate_0 rfl (by first | rfl | exact rfv_rf _) ?_
    refine R.getS (h.l.w) dX13_readCrate_1 fl_X13_7 (by decide) rfl ?_
    refine R.iconst (v := nI 0) dX13_readCrate_4 rfl ?_
    refine R.ialdN (k := 0) dX13_readCrate_5 (by omega) (by show _ < mN M 14 0; rw [h.l.n]; omega) ?_
    rw [h.w, hD.r.t.z]
    refine R.bipush (v := nI 16) dX13_readCrate_6 (by decide) ?_
    refine R.icmp_ne (tgt := 18) dX13_readCrate_8 (by decide) (fun _ => ?_) (fun c9 => absurd c9 (hmn))
    refine R.aload_n dX13_readCrate_18 rfl (by first | rfl | exact rfv_rf _) ?_
    refine cl_X13_233 rfl rfl (by first | exact Nat.le_of_ble_eq_true rfl | simp [rf_cat, Value.category]) dX13_readCrate_19 ?_
    refine p_adv h (fun M1 h1 => ?_)
    refine R.aload_n dX13_readCrate_22 rfl (by first | rfl | exact rfv_rf _) ?_
    refine cl_X13_242 rfl rfl (by first | exact Nat.le_of_ble_eq_true rfl | simp [rf_cat, Value.category]) dX13_readCrate_23 ?_
    refine p_nmS h1 c1 ?_
    refine R.if_eq (tgt := 61) dX13_readCrate_26 (by decide) (fun c9 => absurd c9 (by decide)) (fun _ => ?_)
    refine R.aload_n dX13_readCrate_29 rfl (by first | rfl | exact rfv_rf _) ?_
    refine R.bipush (v := 16) dX13_readCrate_30 (by decide) ?_
    refine R.bipush (v := 18) dX13_readCrate_32 (by decide) ?_
    refine R.aload_n dX13_readCrate_34 rfl (by first | rfl | exact rfv_rf _) ?_
    refine R.getS (h1.l.w) dX13_readCrate_35 fl_X13_7 (by decide) rfl ?_
    refine R.iconst (v := nI 0) dX13_readCrate_38 rfl ?_
    refine R.ialdN (k := 0) dX13_readCrate_39 (by omega) (by show _ < mN M1 14 0; rw [h1.l.n]; omega) ?_
    rw [h1.w, hD.r.t.z]
    refine R.imul dX13_readCrate_40 ?_
    refine R.iadd dX13_readCrate_41 ?_
    rw [wi_c0]
    refine R.aload_n dX13_readCrate_42 rfl (by first | rfl | exact rfv_rf _) ?_
    refine cl_X13_246 rfl rfl (by first | exact Nat.le_of_ble_eq_true rfl | simp [rf_cat, Value.category]) dX13_readCrate_43 ?_
    refine p_cH h1 hD.r (show CrB (uT Y 6 0) m b9 from hD.v.c) c1 ?_
    rw [cnF_T, hcn]
    change WP _ _ _ _ (.int (-1) :: _) _ _
    refine R.iconst (v := -1) dX13_readCrate_46 rfl ?_
    refine R.icmp_eq (tgt := 54) dX13_readCrate_47 (by decide) (fun _ => ?_) (fun c9 => absurd (rfl) c9)
    refine R.iconst (v := 0) dX13_readCrate_54 rfl ?_
    refine cl_X13_258 rfl rfl (by first | exact Nat.le_of_ble_eq_true rfl | simp [rf_cat, Value.category]) dX13_readCrate_55 ?_
    refine p_nnS h1 (by omega) c1 (fun M2 h2 => ?_)
    refine R.if_ne (tgt := 63) dX13_readCrate_58 (by decide) (fun _ => ?_) (fun c9 => absurd c9 (by decide))
    refine R.aload_n dX13_readCrate_63 rfl (by first | rfl | exact rfv_rf _) ?_
    refine R.iconst (v := nI 0) dX13_readCrate_64 rfl ?_
    refine R.iconst (v := 1) dX13_readCrate_65 rfl ?_
    refine R.bipush (v := 50) dX13_readCrate_66 (by decide) ?_
    refine cl_X13_262 rfl rfl (by first | exact Nat.le_of_ble_eq_true rfl | simp [rf_cat, Value.category]) dX13_readCrate_68 ?_
    refine p_tkS (k := 0) h2 (by omega) c2 (fun M3 h3 => ?_)
    refine R.if_eq (tgt := 93) dX13_readCrate_71 (by decide) (fun c9 => absurd c9 (by decide)) (fun _ => ?_)
    refine R.aload_n dX13_readCrate_74 rfl (by first | rfl | exact rfv_rf _) ?_
    refine R.iconst (v := nI 1) dX13_readCrate_75 rfl ?_
    refine R.iconst (v := 0) dX13_readCrate_76 rfl ?_
    refine R.sipush (v := 500) dX13_readCrate_77 (by decide) ?_
    refine cl_X13_262 rfl rfl (by first | exact Nat.le_of_ble_eq_true rfl | simp [rf_cat, Value.category]) dX13_readCrate_80 ?_
    refine p_tkS (k := 1) h3 (by omega) c3 (fun M4 h4 => ?_)
    refine R.if_eq (tgt := 93) dX13_readCrate_83 (by decide) (fun c9 => absurd c9 (by decide)) (fun _ => ?_)
    refine R.aload_n dX13_readCrate_86 rfl (by first | rfl | exact rfv_rf _) ?_
    refine cl_X13_265 rfl rfl (by first | exact Nat.le_of_ble_eq_true rfl | simp [rf_cat, Value.category]) dX13_readCrate_87 ?_
    refine p_paN h4 hR9 (show CrB (uT Y 6 0) m b9 from hD.v.c) (show Acy (uT Y 6 0) from hD.v.acy) hw30 c5 (fun M5 h5 => ?_)
    refine R.if_ne (tgt := 95) dX13_readCrate_90 (by decide) (fun c9 => absurd (rfl) c9) (fun _ => ?_)
    refine R.iconst (v := 0) dX13_readCrate_93 rfl ?_
    refine WP.ret (ov := some (.int _)) dX13_readCrate_94 ⟨rfl, _, rfl, by first | rfl | assumption | exact nar_b01 (by assumption)⟩ ?_
    exact hq M5 h5
  rw [if_pos c5] at hq
  unfold crP7 at hq
  by_cases c6 : rqC b (tS b n (tE b n (tE b n (tE b n (tE b n (tE b n e)))))) (tE b n (tE b n (tE b n (tE b n (tE b n (tE b n e)))))) Y = 0
  case neg =>
    rw [if_neg c6] at hq
    refine R.aload_n dX13_readCrate_0 rfl (by first | rfl | exact rfv_rf _) ?_
    refine R.getS (h.l.w) dX13_readCrate_1 fl_X13_7 (by decide) rfl ?_
    refine R.iconst (v := nI 0) dX13_readCrate_4 rfl ?_
    refine R.ialdN (k := 0) dX13_readCrate_5 (by omega) (by show _ < mN M 14 0; rw [h.l.n]; omega) ?_
    rw [h.w, hD.r.t.z]
    refine R.bipush (v := nI 16) dX13_readCrate_6 (by decide) ?_
    refine R.icmp_ne (tgt := 18) dX13_readCrate_8 (by decide) (fun _ => ?_) (fun c9 => absurd c9 (hmn))
    refine R.aload_n dX13_readCrate_18 rfl (by first | rfl | exact rfv_rf _) ?_
    refine cl_X13_233 rfl rfl (by first | exact Nat.le_of_ble_eq_true rfl | simp [rf_cat, Value.category]) dX13_readCrate_19 ?_
    refine p_adv h (fun M1 h1 => ?_)
    refine R.aload_n dX13_readCrate_22 rfl (by first | rfl | exact rfv_rf _) ?_
    refine cl_X13_242 rfl rfl (by first | exact Nat.le_of_ble_eq_true rfl | simp [rf_cat, Value.category]) dX13_readCrate_23 ?_
    refine p_nmS h1 c1 ?_
    refine R.if_eq (tgt := 61) dX13_readCrate_26 (by decide) (fun c9 => absurd c9 (by decide)) (fun _ => ?_)
    refine R.aload_n dX13_readCrate_29 rfl (by first | rfl | exact rfv_rf _) ?_
    refine R.bipush (v := 16) dX13_readCrate_30 (by decide) ?_
    refine R.bipush (v := 18) dX13_readCrate_32 (by decide) ?_
    refine R.aload_n dX13_readCrate_34 rfl (by first | rfl | exact rfv_rf _) ?_
    refine R.getS (h1.l.w) dX13_readCrate_35 fl_X13_7 (by decide) rfl ?_
    refine R.iconst (v := nI 0) dX13_readCrate_38 rfl ?_
    refine R.ialdN (k := 0) dX13_readCrate_39 (by omega) (by show _ < mN M1 14 0; rw [h1.l.n]; omega) ?_
    rw [h1.w, hD.r.t.z]
    refine R.imul dX13_readCrate_40 ?_
    refine R.iadd dX13_readCrate_41 ?_
    rw [wi_c0]
    refine R.aload_n dX13_readCrate_42 rfl (by first | rfl | exact rfv_rf _) ?_
    refine cl_X13_246 rfl rfl (by first | exact Nat.le_of_ble_eq_true rfl | simp [rf_cat, Value.category]) dX13_readCrate_43 ?_
    refine p_cH h1 hD.r (show CrB (uT Y 6 0) m b9 from hD.v.c) c1 ?_
    rw [cnF_T, hcn]
    change WP _ _ _ _ (.int (-1) :: _) _ _
    refine R.iconst (v := -1) dX13_readCrate_46 rfl ?_
    refine R.icmp_eq (tgt := 54) dX13_readCrate_47 (by decide) (fun _ => ?_) (fun c9 => absurd (rfl) c9)
    refine R.iconst (v := 0) dX13_readCrate_54 rfl ?_
    refine cl_X13_258 rfl rfl (by first | exact Nat.le_of_ble_eq_true rfl | simp [rf_cat, Value.category]) dX13_readCrate_55 ?_
    refine p_nnS h1 (by omega) c1 (fun M2 h2 => ?_)
    refine R.if_ne (tgt := 63) dX13_readCrate_58 (by decide) (fun _ => ?_) (fun c9 => absurd c9 (by decide))
    refine R.aload_n dX13_readCrate_63 rfl (by first | rfl | exact rfv_rf _) ?_
    refine R.iconst (v := nI 0) dX13_readCrate_64 rfl ?_
    refine R.iconst (v := 1) dX13_readCrate_65 rfl ?_
    refine R.bipush (v := 50) dX13_readCrate_66 (by decide) ?_
    refine cl_X13_262 rfl rfl (by first | exact Nat.le_of_ble_eq_true rfl | simp [rf_cat, Value.category]) dX13_readCrate_68 ?_
    refine p_tkS (k := 0) h2 (by omega) c2 (fun M3 h3 => ?_)
    refine R.if_eq (tgt := 93) dX13_readCrate_71 (by decide) (fun c9 => absurd c9 (by decide)) (fun _ => ?_)
    refine R.aload_n dX13_readCrate_74 rfl (by first | rfl | exact rfv_rf _) ?_
    refine R.iconst (v := nI 1) dX13_readCrate_75 rfl ?_
    refine R.iconst (v := 0) dX13_readCrate_76 rfl ?_
    refine R.sipush (v := 500) dX13_readCrate_77 (by decide) ?_
    refine cl_X13_262 rfl rfl (by first | exact Nat.le_of_ble_eq_true rfl | simp [rf_cat, Value.category]) dX13_readCrate_80 ?_
    refine p_tkS (k := 1) h3 (by omega) c3 (fun M4 h4 => ?_)
    refine R.if_eq (tgt := 93) dX13_readCrate_83 (by decide) (fun c9 => absurd c9 (by decide)) (fun _ => ?_)
    refine R.aload_n dX13_readCrate_86 rfl (by first | rfl | exact rfv_rf _) ?_
    refine cl_X13_265 rfl rfl (by first | exact Nat.le_of_ble_eq_true rfl | simp [rf_cat, Value.category]) dX13_readCrate_87 ?_
    refine p_paR h4 hR9 (show CrB (uT Y 6 0) m b9 from hD.v.c) (show Acy (uT Y 6 0) from hD.v.acy) hw30 c5 (by rw [rqC_T]; exact c6) (fun M5 h5 => ?_)
    rw [rqC_T] at h5
    refine R.if_ne (tgt := 95) dX13_readCrate_90 (by decide) (fun c9 => absurd (rfl) c9) (fun _ => ?_)
    refine R.iconst (v := 0) dX13_readCrate_93 rfl ?_
    refine WP.ret (ov := some (.int _)) dX13_readCrate_94 ⟨rfl, _, rfl, by first | rfl | assumption | exact nar_b01 (by assumption)⟩ ?_
    exact hq M5 h5
  rw [if_pos c6] at hq
  cases hcj : cnF Y (nmF b (tS b n (tE b n (tE b n (tE b n (tE b n (tE b n e)))))) (tE b n (tE b n (tE b n (tE b n (tE b n (tE b n e))))))) 16 0 with
  | none => exact absurd c6 (by unfold rqC; rw [hcj]; exact (by decide : ¬ (4 : Int32) = 0))
  | some j =>
  simp only [hcj] at hq
  have hjm := cn_lt hD.v.c c5 hcj
  unfold crP9 at hq
  by_cases c7 : scC (tK b n (tE b n (tE b n (tE b n (tE b n (tE b n (tE b n e))))))) = 0
  · rw [if_pos c7] at hq
    have hDY : DY Y m b9 := ⟨hm16, hD.v.b6, hD.v.f4, hD.v.f5, fun i k hi e => hD.v.p hi e, hD.v.acy, hD.v.c.2.2.2.2.1⟩
    obtain ⟨ta, eta, ta1, ta2⟩ := nbV_in (lo := 1) (hi := 50) c2 (by omega) (by omega)
    obtain ⟨go, ego, go1, go2⟩ := nbV_in (lo := 0) (hi := 500) c3 (by omega) (by omega)
    have hD8 : DR Y m b9 (nwF w b (16 + 18 * m) (tS b n (tE b n e)) (tE b n (tE b n e) - tS b n (tE b n e))) := ⟨hR9, hD.2⟩
    rw [eta, ego] at hq
    have hNW : NW (nmF b (tS b n (tE b n e)) (tE b n (tE b n e))) (acW (nwF w b (16 + 18 * m) (tS b n (tE b n e)) (tE b n (tE b n e) - tS b n (tE b n e))) m (nI (tE b n (tE b n e) - tS b n (tE b n e))) (nI ta) (nI go) (nI j)) (16 + 18 * m) := NW.new c1 (acW_c.2.2.1) (fun j hj => by
      rw [acW_o (by omega)]
      show (if 16 + 18 * m + 1 ≤ 16 + 18 * m + 1 + j ∧ 16 + 18 * m + 1 + j < 16 + 18 * m + 7 then (if 16 + 18 * m + 1 + j - (16 + 18 * m + 1) < (tE b n (tE b n e) - tS b n (tE b n e)) then b (tS b n (tE b n e) + (16 + 18 * m + 1 + j - (16 + 18 * m + 1))) else 0) else w _) = _
      rw [if_pos (by omega), show 16 + 18 * m + 1 + j - (16 + 18 * m + 1) = j by omega])
    have hD9 := hD8.ne (nm := (nmF b (tS b n (tE b n e)) (tE b n (tE b n e)))) (L := (tE b n (tE b n e) - tS b n (tE b n e))) hm hjm ta2 go2 (hDY.ne (nm := (nmF b (tS b n (tE b n e)) (tE b n (tE b n e)))) (ta := nI ta) (go := nI go) hm hjm (rq_lt c6 hcj)).2.2.2.2.2.1 hNW
    refine R.aload_n dX13_readCrate_0 rfl (by first | rfl | exact rfv_rf _) ?_
    refine R.getS (h.l.w) dX13_readCrate_1 fl_X13_7 (by decide) rfl ?_
    refine R.iconst (v := nI 0) dX13_readCrate_4 rfl ?_
    refine R.ialdN (k := 0) dX13_readCrate_5 (by omega) (by show _ < mN M 14 0; rw [h.l.n]; omega) ?_
    rw [h.w, hD.r.t.z]
    refine R.bipush (v := nI 16) dX13_readCrate_6 (by decide) ?_
    refine R.icmp_ne (tgt := 18) dX13_readCrate_8 (by decide) (fun _ => ?_) (fun c9 => absurd c9 (hmn))
    refine R.aload_n dX13_readCrate_18 rfl (by first | rfl | exact rfv_rf _) ?_
    refine cl_X13_233 rfl rfl (by first | exact Nat.le_of_ble_eq_true rfl | simp [rf_cat, Value.category]) dX13_readCrate_19 ?_
    refine p_adv h (fun M1 h1 => ?_)
    refine R.aload_n dX13_readCrate_22 rfl (by first | rfl | exact rfv_rf _) ?_
    refine cl_X13_242 rfl rfl (by first | exact Nat.le_of_ble_eq_true rfl | simp [rf_cat, Value.category]) dX13_readCrate_23 ?_
    refine p_nmS h1 c1 ?_
    refine R.if_eq (tgt := 61) dX13_readCrate_26 (by decide) (fun c9 => absurd c9 (by decide)) (fun _ => ?_)
    refine R.aload_n dX13_readCrate_29 rfl (by first | rfl | exact rfv_rf _) ?_
    refine R.bipush (v := 16) dX13_readCrate_30 (by decide) ?_
    refine R.bipush (v := 18) dX13_readCrate_32 (by decide) ?_
    refine R.aload_n dX13_readCrate_34 rfl (by first | rfl | exact rfv_rf _) ?_
    refine R.getS (h1.l.w) dX13_readCrate_35 fl_X13_7 (by decide) rfl ?_
    refine R.iconst (v := nI 0) dX13_readCrate_38 rfl ?_
    refine R.ialdN (k := 0) dX13_readCrate_39 (by omega) (by show _ < mN M1 14 0; rw [h1.l.n]; omega) ?_
    rw [h1.w, hD.r.t.z]
    refine R.imul dX13_readCrate_40 ?_
    refine R.iadd dX13_readCrate_41 ?_
    rw [wi_c0]
    refine R.aload_n dX13_readCrate_42 rfl (by first | rfl | exact rfv_rf _) ?_
    refine cl_X13_246 rfl rfl (by first | exact Nat.le_of_ble_eq_true rfl | simp [rf_cat, Value.category]) dX13_readCrate_43 ?_
    refine p_cH h1 hD.r (show CrB (uT Y 6 0) m b9 from hD.v.c) c1 ?_
    rw [cnF_T, hcn]
    change WP _ _ _ _ (.int (-1) :: _) _ _
    refine R.iconst (v := -1) dX13_readCrate_46 rfl ?_
    refine R.icmp_eq (tgt := 54) dX13_readCrate_47 (by decide) (fun _ => ?_) (fun c9 => absurd (rfl) c9)
    refine R.iconst (v := 0) dX13_readCrate_54 rfl ?_
    refine cl_X13_258 rfl rfl (by first | exact Nat.le_of_ble_eq_true rfl | simp [rf_cat, Value.category]) dX13_readCrate_55 ?_
    refine p_nnS h1 (by omega) c1 (fun M2 h2 => ?_)
    refine R.if_ne (tgt := 63) dX13_readCrate_58 (by decide) (fun _ => ?_) (fun c9 => absurd c9 (by decide))
    refine R.aload_n dX13_readCrate_63 rfl (by first | rfl | exact rfv_rf _) ?_
    refine R.iconst (v := nI 0) dX13_readCrate_64 rfl ?_
    refine R.iconst (v := 1) dX13_readCrate_65 rfl ?_
    refine R.bipush (v := 50) dX13_readCrate_66 (by decide) ?_
    refine cl_X13_262 rfl rfl (by first | exact Nat.le_of_ble_eq_true rfl | simp [rf_cat, Value.category]) dX13_readCrate_68 ?_
    refine p_tkS (k := 0) h2 (by omega) c2 (fun M3 h3 => ?_)
    refine R.if_eq (tgt := 93) dX13_readCrate_71 (by decide) (fun c9 => absurd c9 (by decide)) (fun _ => ?_)
    refine R.aload_n dX13_readCrate_74 rfl (by first | rfl | exact rfv_rf _) ?_
    refine R.iconst (v := nI 1) dX13_readCrate_75 rfl ?_
    refine R.iconst (v := 0) dX13_readCrate_76 rfl ?_
    refine R.sipush (v := 500) dX13_readCrate_77 (by decide) ?_
    refine cl_X13_262 rfl rfl (by first | exact Nat.le_of_ble_eq_true rfl | simp [rf_cat, Value.category]) dX13_readCrate_80 ?_
    refine p_tkS (k := 1) h3 (by omega) c3 (fun M4 h4 => ?_)
    refine R.if_eq (tgt := 93) dX13_readCrate_83 (by decide) (fun c9 => absurd c9 (by decide)) (fun _ => ?_)
    refine R.aload_n dX13_readCrate_86 rfl (by first | rfl | exact rfv_rf _) ?_
    refine cl_X13_265 rfl rfl (by first | exact Nat.le_of_ble_eq_true rfl | simp [rf_cat, Value.category]) dX13_readCrate_87 ?_
    refine p_paS h4 hR9 (show CrB (uT Y 6 0) m b9 from hD.v.c) (show Acy (uT Y 6 0) from hD.v.acy) hw30 c5 (by rw [rqC_T]; exact c6) (by rw [cnF_T]; exact hcj) (fun M5 h5 => ?_)
    refine R.if_ne (tgt := 95) dX13_readCrate_90 (by decide) (fun _ => ?_) (fun c9 => absurd c9 (by decide))
    refine R.aload_n dX13_readCrate_95 rfl (by first | rfl | exact rfv_rf _) ?_
    refine R.aload_n dX13_readCrate_96 rfl (by first | rfl | exact rfv_rf _) ?_
    refine R.getS (h5.l.1.2.2.2.2.2.2.1) dX13_readCrate_97 fl_X13_32 (by decide) rfl ?_
    refine R.iconst (v := nI 3) dX13_readCrate_100 rfl ?_
    refine R.ialdN (k := 3) dX13_readCrate_101 (by omega) (by rw [h5.l.2.2.2.2.2.2.2.1]; omega) ?_
    rw [h5.N]
    change WP _ _ _ _ (.int (nI (tE b n (tE b n e) - tS b n (tE b n e))) :: _) _ _
    refine R.aload_n dX13_readCrate_102 rfl (by first | rfl | exact rfv_rf _) ?_
    refine R.getS (h5.l.1.2.2.2.2.2.2.1) dX13_readCrate_103 fl_X13_32 (by decide) rfl ?_
    refine R.iconst (v := nI 0) dX13_readCrate_106 rfl ?_
    refine R.ialdN (k := 0) dX13_readCrate_107 (by omega) (by rw [h5.l.2.2.2.2.2.2.2.1]; omega) ?_
    rw [h5.N]
    change WP _ _ _ _ (.int (nbV b n (tE b n (tE b n e))) :: _) _ _
    rw [eta]
    refine R.aload_n dX13_readCrate_108 rfl (by first | rfl | exact rfv_rf _) ?_
    refine R.getS (h5.l.1.2.2.2.2.2.2.1) dX13_readCrate_109 fl_X13_32 (by decide) rfl ?_
    refine R.iconst (v := nI 1) dX13_readCrate_112 rfl ?_
    refine R.ialdN (k := 1) dX13_readCrate_113 (by omega) (by rw [h5.l.2.2.2.2.2.2.2.1]; omega) ?_
    rw [h5.N]
    change WP _ _ _ _ (.int (nbV b n (tE b n (tE b n (tE b n e)))) :: _) _ _
    rw [ego]
    refine R.aload_n dX13_readCrate_114 rfl (by first | rfl | exact rfv_rf _) ?_
    refine R.getS (h5.l.1.2.2.2.2.2.2.1) dX13_readCrate_115 fl_X13_32 (by decide) rfl ?_
    refine R.iconst (v := nI 2) dX13_readCrate_118 rfl ?_
    refine R.ialdN (k := 2) dX13_readCrate_119 (by omega) (by rw [h5.l.2.2.2.2.2.2.2.1]; omega) ?_
    rw [h5.N]
    change WP _ _ _ _ (.int (nI j) :: _) _ _
    refine cl_X13_54 rfl rfl (by first | exact Nat.le_of_ble_eq_true rfl | simp [rf_cat, Value.category]) dX13_readCrate_120 ?_
    refine atW h5.w ?_
    refine m_addC h5.l hm ((hR9.t.z)) ?_
    refine R.aload_n dX13_readCrate_123 rfl (by first | rfl | exact rfv_rf _) ?_
    refine cl_X13_268 rfl rfl (by first | exact Nat.le_of_ble_eq_true rfl | simp [rf_cat, Value.category]) dX13_readCrate_124 ?_
    refine p_semS (h5.sw _) c7 (fun M6 h6 => ?_)
    refine WP.ret (ov := some (.int _)) dX13_readCrate_127 ⟨rfl, _, rfl, by first | rfl | assumption | exact nar_b01 (by assumption)⟩ ?_
    exact hq M6 _ _ _ _ h6 hD9
  · rw [if_neg c7] at hq
    refine R.aload_n dX13_readCrate_0 rfl (by first | rfl | exact rfv_rf _) ?_
    refine R.getS (h.l.w) dX13_readCrate_1 fl_X13_7 (by decide) rfl ?_
    refine R.iconst (v := nI 0) dX13_readCrate_4 rfl ?_
    refine R.ialdN (k := 0) dX13_readCrate_5 (by omega) (by show _ < mN M 14 0; rw [h.l.n]; omega) ?_
    rw [h.w, hD.r.t.z]
    refine R.bipush (v := nI 16) dX13_readCrate_6 (by decide) ?_
    refine R.icmp_ne (tgt := 18) dX13_readCrate_8 (by decide) (fun _ => ?_) (fun c9 => absurd c9 (hmn))
    refine R.aload_n dX13_readCrate_18 rfl (by first | rfl | exact rfv_rf _) ?_
    refine cl_X13_233 rfl rfl (by first | exact Nat.le_of_ble_eq_true rfl | simp [rf_cat, Value.category]) dX13_readCrate_19 ?_
    refine p_adv h (fun M1 h1 => ?_)
    refine R.aload_n dX13_readCrate_22 rfl (by first | rfl | exact rfv_rf _) ?_
    refine cl_X13_242 rfl rfl (by first | exact Nat.le_of_ble_eq_true rfl | simp [rf_cat, Value.category]) dX13_readCrate_23 ?_
    refine p_nmS h1 c1 ?_
    refine R.if_eq (tgt := 61) dX13_readCrate_26 (by decide) (fun c9 => absurd c9 (by decide)) (fun _ => ?_)
    refine R.aload_n dX13_readCrate_29 rfl (by first | rfl | exact rfv_rf _) ?_
    refine R.bipush (v := 16) dX13_readCrate_30 (by decide) ?_
    refine R.bipush (v := 18) dX13_readCrate_32 (by decide) ?_
    refine R.aload_n dX13_readCrate_34 rfl (by first | rfl | exact rfv_rf _) ?_
    refine R.getS (h1.l.w) dX13_readCrate_35 fl_X13_7 (by decide) rfl ?_
    refine R.iconst (v := nI 0) dX13_readCrate_38 rfl ?_
    refine R.ialdN (k := 0) dX13_readCrate_39 (by omega) (by show _ < mN M1 14 0; rw [h1.l.n]; omega) ?_
    rw [h1.w, hD.r.t.z]
    refine R.imul dX13_readCrate_40 ?_
    refine R.iadd dX13_readCrate_41 ?_
    rw [wi_c0]
    refine R.aload_n dX13_readCrate_42 rfl (by first | rfl | exact rfv_rf _) ?_
    refine cl_X13_246 rfl rfl (by first | exact Nat.le_of_ble_eq_true rfl | simp [rf_cat, Value.category]) dX13_readCrate_43 ?_
    refine p_cH h1 hD.r (show CrB (uT Y 6 0) m b9 from hD.v.c) c1 ?_
    rw [cnF_T, hcn]
    change WP _ _ _ _ (.int (-1) :: _) _ _
    refine R.iconst (v := -1) dX13_readCrate_46 rfl ?_
    refine R.icmp_eq (tgt := 54) dX13_readCrate_47 (by decide) (fun _ => ?_) (fun c9 => absurd (rfl) c9)
    refine R.iconst (v := 0) dX13_readCrate_54 rfl ?_
    refine cl_X13_258 rfl rfl (by first | exact Nat.le_of_ble_eq_true rfl | simp [rf_cat, Value.category]) dX13_readCrate_55 ?_
    refine p_nnS h1 (by omega) c1 (fun M2 h2 => ?_)
    refine R.if_ne (tgt := 63) dX13_readCrate_58 (by decide) (fun _ => ?_) (fun c9 => absurd c9 (by decide))
    refine R.aload_n dX13_readCrate_63 rfl (by first | rfl | exact rfv_rf _) ?_
    refine R.iconst (v := nI 0) dX13_readCrate_64 rfl ?_
    refine R.iconst (v := 1) dX13_readCrate_65 rfl ?_
    refine R.bipush (v := 50) dX13_readCrate_66 (by decide) ?_
    refine cl_X13_262 rfl rfl (by first | exact Nat.le_of_ble_eq_true rfl | simp [rf_cat, Value.category]) dX13_readCrate_68 ?_
    refine p_tkS (k := 0) h2 (by omega) c2 (fun M3 h3 => ?_)
    refine R.if_eq (tgt := 93) dX13_readCrate_71 (by decide) (fun c9 => absurd c9 (by decide)) (fun _ => ?_)
    refine R.aload_n dX13_readCrate_74 rfl (by first | rfl | exact rfv_rf _) ?_
    refine R.iconst (v := nI 1) dX13_readCrate_75 rfl ?_
    refine R.iconst (v := 0) dX13_readCrate_76 rfl ?_
    refine R.sipush (v := 500) dX13_readCrate_77 (by decide) ?_
    refine cl_X13_262 rfl rfl (by first | exact Nat.le_of_ble_eq_true rfl | simp [rf_cat, Value.category]) dX13_readCrate_80 ?_
    refine p_tkS (k := 1) h3 (by omega) c3 (fun M4 h4 => ?_)
    refine R.if_eq (tgt := 93) dX13_readCrate_83 (by decide) (fun c9 => absurd c9 (by decide)) (fun _ => ?_)
    refine R.aload_n dX13_readCrate_86 rfl (by first | rfl | exact rfv_rf _) ?_
    refine cl_X13_265 rfl rfl (by first | exact Nat.le_of_ble_eq_true rfl | simp [rf_cat, Value.category]) dX13_readCrate_87 ?_
    refine p_paS h4 hR9 (show CrB (uT Y 6 0) m b9 from hD.v.c) (show Acy (uT Y 6 0) from hD.v.acy) hw30 c5 (by rw [rqC_T]; exact c6) (by rw [cnF_T]; exact hcj) (fun M5 h5 => ?_)
    refine R.if_ne (tgt := 95) dX13_readCrate_90 (by decide) (fun _ => ?_) (fun c9 => absurd c9 (by decide))
    refine R.aload_n dX13_readCrate_95 rfl (by first | rfl | exact rfv_rf _) ?_
    refine R.aload_n dX13_readCrate_96 rfl (by first | rfl | exact rfv_rf _) ?_
    refine R.getS (h5.l.1.2.2.2.2.2.2.1) dX13_readCrate_97 fl_X13_32 (by decide) rfl ?_
    refine R.iconst (v := nI 3) dX13_readCrate_100 rfl ?_
    refine R.ialdN (k := 3) dX13_readCrate_101 (by omega) (by rw [h5.l.2.2.2.2.2.2.2.1]; omega) ?_
    rw [h5.N]
    change WP _ _ _ _ (.int (nI (tE b n (tE b n e) - tS b n (tE b n e))) :: _) _ _
    refine R.aload_n dX13_readCrate_102 rfl (by first | rfl | exact rfv_rf _) ?_
    refine R.getS (h5.l.1.2.2.2.2.2.2.1) dX13_readCrate_103 fl_X13_32 (by decide) rfl ?_
    refine R.iconst (v := nI 0) dX13_readCrate_106 rfl ?_
    refine R.ialdN (k := 0) dX13_readCrate_107 (by omega) (by rw [h5.l.2.2.2.2.2.2.2.1]; omega) ?_
    rw [h5.N]
    change WP _ _ _ _ (.int (nbV b n (tE b n (tE b n e))) :: _) _ _
    refine R.aload_n dX13_readCrate_108 rfl (by first | rfl | exact rfv_rf _) ?_
    refine R.getS (h5.l.1.2.2.2.2.2.2.1) dX13_readCrate_109 fl_X13_32 (by decide) rfl ?_
    refine R.iconst (v := nI 1) dX13_readCrate_112 rfl ?_
    refine R.ialdN (k := 1) dX13_readCrate_113 (by omega) (by rw [h5.l.2.2.2.2.2.2.2.1]; omega) ?_
    rw [h5.N]
    change WP _ _ _ _ (.int (nbV b n (tE b n (tE b n (tE b n e)))) :: _) _ _
    refine R.aload_n dX13_readCrate_114 rfl (by first | rfl | exact rfv_rf _) ?_
    refine R.getS (h5.l.1.2.2.2.2.2.2.1) dX13_readCrate_115 fl_X13_32 (by decide) rfl ?_
    refine R.iconst (v := nI 2) dX13_readCrate_118 rfl ?_
    refine R.ialdN (k := 2) dX13_readCrate_119 (by omega) (by rw [h5.l.2.2.2.2.2.2.2.1]; omega) ?_
    rw [h5.N]
    change WP _ _ _ _ (.int (nI j) :: _) _ _
    refine cl_X13_54 rfl rfl (by first | exact Nat.le_of_ble_eq_true rfl | simp [rf_cat, Value.category]) dX13_readCrate_120 ?_
    refine atW h5.w ?_
    refine m_addC h5.l hm ((hR9.t.z)) ?_
    refine R.aload_n dX13_readCrate_123 rfl (by first | rfl | exact rfv_rf _) ?_
    refine cl_X13_268 rfl rfl (by first | exact Nat.le_of_ble_eq_true rfl | simp [rf_cat, Value.category]) dX13_readCrate_124 ?_
    refine p_semN (h5.sw _) c7 (fun M6 h6 => ?_)
    refine WP.ret (ov := some (.int _)) dX13_readCrate_127 ⟨rfl, _, rfl, by first | rfl | assumption | exact nar_b01 (by assumption)⟩ ?_
    exact hq M6 h6
