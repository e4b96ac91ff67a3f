/-! a whole script, read and run -/
def SLay (M : Mem) : Prop := mR M 4 0 0 = some (rf 7 0) ∧ mR M 4 0 1 = some (rf 9 0) ∧ mR M 4 0 2 = some (rf 19 0) ∧ mN M 19 0 = 30 ∧ ∀ j, j < 30 → mR M 19 0 j = some (rf 6 j)
def inX (k i : Nat) : Prop := inT k i ∨ k = 6 ∨ (k = 4 ∧ i = 0)
theorem SLay.fr {S : Nat → Nat → Prop} {M M' : Mem} (h : SLay M) (hF : Fr S M M') (h4 : ¬ S 4 0) (h19 : ¬ S 19 0) : SLay M' := by
  obtain ⟨a1, a2, a3, a4, a5⟩ := h
  have e4 := (hF.2.2.2.2 4 0 h4).2.2.1
  have e19 := (hF.2.2.2.2 19 0 h19).2.2.1
  exact ⟨by rw [e4]; exact a1, by rw [e4]; exact a2, by rw [e4]; exact a3, by rw [hF.2.1]; exact a4, fun j hj => by rw [e19]; exact a5 j hj⟩
theorem SLay.put {M : Mem} {v : Int32} (h : SLay M) : SLay (sI M 4 0 3 v) := h
theorem nT4 : ¬ inT 4 0 := by unfold inT; omega
theorem nT19 : ¬ inT 19 0 := by unfold inT; omega
theorem nJ4 {j : Nat} : ¬ inJ j 4 0 := by unfold inJ inT; omega
theorem nJ19 {j : Nat} : ¬ inJ j 19 0 := by unfold inJ inT; omega
theorem T_X : ∀ k i, inT k i → inX k i := fun _ _ h => Or.inl h
theorem J_X {j : Nat} : ∀ k i, inJ j k i → inX k i := fun _ _ h => h.elim Or.inl fun z => Or.inr (Or.inl z.1)
theorem X_4 : inX 4 0 := Or.inr (Or.inr ⟨rfl, rfl⟩)
theorem nXY {y : Nat} : ∀ k i, inY y k i → ¬ inX k i := by intro k i h; unfold inY at h; unfold inX inT; omega
theorem Sv.fr {S : Nat → Nat → Prop} {M M' : Mem} {j : Nat} {t : St} (h : Sv M j t) (hF : Fr S M M') (hn : ¬ S 6 j) : Sv M' j t := by
  have e := hF.2.2.2.2 6 j hn
  obtain ⟨a1, a2, a3, a4, a5, a6⟩ := h
  exact ⟨by rw [e.2.2.1]; exact a1, a2, fun z => by rw [e.1]; exact a3 z, fun z => by rw [e.1]; exact a4 z, fun z => by rw [e.1]; exact a5 z, fun z => by rw [e.1]; exact a6 z⟩
theorem Tx.p4 {b : Nat → Int32} {n : Nat} {v : Int32} {a : Ta} {M : Mem} (h : Tx M b n a) : Tx (sI M 4 0 3 v) b n a :=
  h.fr (S := fun k i => k = 4 ∧ i = 0) (Fr.sI (Fr.rf _ _) ⟨rfl, rfl⟩) (fun z => absurd z.1 (by decide)) (fun z => absurd z.1 (by decide))
theorem Tz.p4 {b : Nat → Int32} {n : Nat} {v c q : Int32} {M : Mem} (h : Tz M b n c q) : Tz (sI M 4 0 3 v) b n c q :=
  h.fr (S := fun k i => k = 4 ∧ i = 0) (Fr.sI (Fr.rf _ _) ⟨rfl, rfl⟩) (fun z => absurd z.1 (by decide)) (fun z => absurd z.1 (by decide))
theorem Yv.p4 {y : Nat} {v : Int32} {Y : Yd} {M : Mem} (h : Yv M y Y) : Yv (sI M 4 0 3 v) y Y :=
  h.fr (S := fun k i => k = 4 ∧ i = 0) (Fr.sI (Fr.rf _ _) ⟨rfl, rfl⟩) (fun k i h z => by unfold inY at h; omega)
theorem Sv.p4 {j : Nat} {v : Int32} {t : St} {M : Mem} (h : Sv M j t) : Sv (sI M 4 0 3 v) j t :=
  h.fr (S := fun k i => k = 4 ∧ i = 0) (Fr.sI (Fr.rf _ _) ⟨rfl, rfl⟩) (fun z => absurd z.1 (by decide))
abbrev CR : Type := (Int32 × Nat) ⊕ List St
def okC (r : CR) : Int32 := match r with
  | .inl _ => 0
  | .inr _ => 1
def scQ (b : Nat → Int32) (n : Nat) (Y : Yd) : Nat → Nat → List St → CR
  | 0, _, ac => .inr ac
  | f + 1, e, ac => if tK b n e = 0 then .inr ac else match vbF b (tS b n e) (tE b n e) (tK b n e) 9 0 with
    | none => .inl (1, tS b n e)
    | some v => if 30 ≤ ac.length then .inl (6, tS b n e) else match sqP b n (tE b n e) v Y with
      | .inl x => .inl x
      | .inr (e', t) => if scC (tK b n e') = 0 then scQ b n Y f (tE b n e') (ac ++ [t]) else .inl (scC (tK b n e'), tS b n e')
def SAll (M : Mem) (ac : List St) : Prop := ac.length ≤ 30 ∧ ∀ j t, ac[j]? = some t → Sv M j t
def PoC (b : Nat → Int32) (n : Nat) (r : CR) (M M' : Mem) : Prop := Fr inX M M' ∧ SLay M' ∧ match r with
  | .inl (cd, f) => ∃ e k, Tx M' b n (f, e, k, cd, nI f)
  | .inr ts => (∃ s e k, Tx M' b n (s, e, k, 0, -1)) ∧ mI M' 4 0 3 = nI ts.length ∧ SAll M' ts
theorem vbF_lt {b : Nat → Int32} {s e : Nat} {k : Int32} {v : Nat} : ∀ f i, i + f = 9 → vbF b s e k f i = some v → v < 9 := by
  intro f
  induction f with
  | zero => intro i _ h; cases h
  | succ f ih =>
    intro i hi h
    rw [vbF] at h
    split at h
    · cases h; omega
    · exact ih (i + 1) (by omega) h
theorem SAll.fr {S : Nat → Nat → Prop} {M M' : Mem} {ac : List St} (h : SAll M ac) (hF : Fr S M M') (hn : ∀ j, j < ac.length → ¬ S 6 j) : SAll M' ac :=
  ⟨h.1, fun j t e => (h.2 j t e).fr hF (hn j (List.getElem?_eq_some_iff.mp e).1)⟩
theorem SAll.p4 {M : Mem} {v : Int32} {ac : List St} (h : SAll M ac) : SAll (sI M 4 0 3 v) ac := ⟨h.1, fun j t e => (h.2 j t e).p4⟩
theorem SAll.snoc {M : Mem} {ac : List St} {t : St} (h : SAll M ac) (hl : ac.length < 30) (ht : Sv M ac.length t) : SAll M (ac ++ [t]) := by
  refine ⟨by simp; omega, fun j u e => ?_⟩
  rw [List.getElem?_append] at e
  split at e
  · exact h.2 j u e
  next hj =>
    have hj2 : j = ac.length := by
      by_cases z : j - ac.length = 0
      · omega
      · obtain ⟨k, hk⟩ : ∃ k, j - ac.length = k + 1 := ⟨j - ac.length - 1, by omega⟩
        rw [hk] at e; simp at e
    rw [hj2] at e ⊢
    simp at e
    rw [← e]; exact ht
theorem tE_gtC {b : Nat → Int32} {n e : Nat} (h : scC (tK b n e) = 0) : e < tE b n e := sc_gt h
theorem qC_gt {b : Nat → Int32} {n e e0 e' : Nat} {Y : Yd} {t : St} {K : Nat → Nat → QR} (he : e0 ≤ e) (hK : ∀ j e1, e0 ≤ e1 → K j e1 = .inr (e', t) → e0 ≤ e') (h : qC b n e Y K = .inr (e', t)) : e0 ≤ e' := by
  unfold qC at h
  split at h
  · split at h
    · cases h
    · exact hK _ _ (Nat.le_trans he tE_ge) h
  · cases h
theorem qB_gt {b : Nat → Int32} {n e e0 e' : Nat} {Y : Yd} {t : St} {K : Nat → Nat → QR} (he : e0 ≤ e) (hK : ∀ j e1, e0 ≤ e1 → K j e1 = .inr (e', t) → e0 ≤ e') (h : qB b n e Y K = .inr (e', t)) : e0 ≤ e' := by
  unfold qB at h
  split at h
  · split at h
    · cases h
    · exact hK _ _ (Nat.le_trans he tE_ge) h
  · cases h
theorem qN_gt {b : Nat → Int32} {n e e0 e' : Nat} {lo hi : Int32} {t : St} {K : Int32 → St} (he : e0 ≤ e) (h : qN b n e lo hi K = .inr (e', t)) : e0 ≤ e' := by
  unfold qN at h
  split at h
  · cases h; exact Nat.le_trans he tE_ge
  · cases h
theorem qW_gt {b : Nat → Int32} {n e e0 e' v : Nat} {t : St} {K : Nat → QR} (he : e0 ≤ e) (hK : ∀ e1, e0 ≤ e1 → K e1 = .inr (e', t) → e0 ≤ e') (h : qW b n e v K = .inr (e', t)) : e0 ≤ e' := by
  unfold qW at h
  split at h
  · exact hK _ (Nat.le_trans he tE_ge) h
  · cases h
theorem sqP_ge {b : Nat → Int32} {n e v e' : Nat} {Y : Yd} {t : St} (h : sqP b n e v Y = .inr (e', t)) : e ≤ e' := by
  have r := Nat.le_refl e
  unfold sqP at h
  split at h
  · exact qC_gt r (fun _ _ h1 h2 => qN_gt h1 h2) h
  · split at h
    · exact qC_gt r (fun _ _ h1 h2 => qN_gt h1 h2) h
    · split at h
      · exact qC_gt r (fun _ _ h1 h2 => qN_gt h1 h2) h
      · split at h
        · exact qC_gt r (fun _ _ h1 h2 => qW_gt h1 (fun _ h3 h4 => qC_gt h3 (fun _ _ h5 h6 => by cases h6; exact h5) h4) h2) h
        · split at h
          · exact qC_gt r (fun _ _ h1 h2 => by cases h2; exact h1) h
          · split at h
            · cases h; exact r
            · split at h
              · exact qC_gt r (fun _ _ h1 h2 => qW_gt h1 (fun _ h3 h4 => qB_gt h3 (fun _ _ h5 h6 => by cases h6; exact h5) h4) h2) h
              · split at h
                · exact qN_gt r h
                · exact qN_gt r h
theorem okQ_1 {x : Nat × St} : ¬ okQ (.inr x) = 0 := by show ¬ (1 : Int32) = 0; decide
set_option maxHeartbeats 1000000 in
set_option maxRecDepth 4000 in
theorem s_scPar {d : Nat} {b : Nat → Int32} {n : Nat} {c q : Int32} {Y : Yd} {M : Mem} {Q : Out → Mem → Prop} (h : Tz M b n c q) (g : Yv M 0 Y) (l : SLay M) (hq : ∀ M', PoC b n (scQ b n Y 600 0 []) M M' → Q (.inl (some (.int (okC (scQ b n Y 600 0 []))))) M') : WPc (d + 8) mX5_parse [.ref (rf 4 0)] M Q := by
  refine WPc.of (by decide +kernel) (Nat.le_of_ble_eq_true rfl) rfl ?_
  have key : ∀ (f : Nat) (ac : List St) (v : Value) (e s : Nat) (k : Int32) (M1 : Mem), ac.length + f = 600 → 2 * ac.length ≤ e → Tx M1 b n (s, e, k, 0, -1) → Yv M1 0 Y → SLay M1 → Fr inX M M1 → mI M1 4 0 3 = nI ac.length → SAll M1 ac → (∀ M', PoC b n (scQ b n Y f e ac) M M' → Q (.inl (some (.int (okC (scQ b n Y f e ac))))) M') → WP mX5_parse (d + 8) 14 [.ref (rf 4 0), .int (nI ac.length), v] [] M1 Q := by
    intro f
    induction f with
    | zero =>
      intro ac v e s k M1 hi he h1 g1 l1 G1 hN hA hq
      have := hA.1
      omega
    | succ f ih =>
      intro ac v e s k M1 hi he h1 g1 l1 G1 hN hA hq
      have hen9 := h1.hen
      have hn69 := h1.hn
      have hl9 := hA.1
      refine R.iload_n dX5_parse_14 rfl ?_
      refine R.sipush (v := nI 600) dX5_parse_15 (by decide) ?_
      refine R.geF (tgt := 123) (nI_ge (show ac.length < 600 by omega) (by decide)) dX5_parse_18 (by decide) ?_
      refine R.aload_n dX5_parse_21 rfl (by first | rfl | exact rfv_rf _) ?_
      refine R.getS (l1.1) dX5_parse_22 fl_X5_17 (by decide) rfl ?_
      refine cl_X5_35 rfl rfl (by first | exact Nat.le_of_ble_eq_true rfl | simp [rf_cat, Value.category]) dX5_parse_25 ?_
      refine s_tHas h1 (fun M25 h25 F25 => ?_)
      have g25 := g1.fr F25 nTY
      have l25 := l1.fr F25 nT4 nT19
      have G25 := G1.tr (F25.mo T_X)
      have a25 := hA.fr F25 (fun j _ => nT6)
      have n25 : mI M25 4 0 3 = nI ac.length := by rw [(F25.2.2.2.2 4 0 nT4).1]; exact hN
      refine R.if_eq (tgt := 123) dX5_parse_28 (by decide) (fun c28 => ?_) (fun c28 => ?_)
      · have k0 : tK b n e = 0 := by apply Decidable.byContradiction; intro z; rw [if_neg z] at c28; exact absurd c28 (by decide)
        rw [scQ, if_pos k0] at hq
        refine R.iconst (v := 1) dX5_parse_123 rfl ?_
        refine WP.ret (ov := some (.int _)) dX5_parse_124 ⟨rfl, _, rfl, by first | rfl | assumption | exact nar_b01 (by assumption)⟩ ?_
        exact hq _ ⟨G25, l25, ⟨_, _, _, h25⟩, n25, a25⟩
      · have k0 : ¬ tK b n e = 0 := by intro z; rw [if_pos z] at c28; exact absurd rfl c28
        rw [scQ, if_neg k0] at hq
        have hgt := tE_gt k0
        cases hv : vbF b (tS b n e) (tE b n e) (tK b n e) 9 0 with
        | none =>
          rw [hv] at hq
          dsimp only at hq
          refine R.aload_n dX5_parse_31 rfl (by first | rfl | exact rfv_rf _) ?_
          refine R.getS (l25.1) dX5_parse_32 fl_X5_17 (by decide) rfl ?_
          refine cl_X5_39 rfl rfl (by first | exact Nat.le_of_ble_eq_true rfl | simp [rf_cat, Value.category]) dX5_parse_35 ?_
          refine s_vbAt h25 tS_tE ?_
          rw [hv]
          refine R.astore_n dX5_parse_38 (by first | rfl | exact rfv_rf _) (Nat.le_of_ble_eq_true rfl) (by decide) (by first | rfl | simp [lft, rf_cat]) rfl ?_
          refine R.aload_n dX5_parse_39 rfl (by first | rfl | exact rfv_rf _) ?_
          refine R.ifnonnullN (tgt := 52) dX5_parse_40 (by decide) ?_
          refine R.aload_n dX5_parse_43 rfl (by first | rfl | exact rfv_rf _) ?_
          refine R.getS (l25.1) dX5_parse_44 fl_X5_17 (by decide) rfl ?_
          refine R.iconst (v := 1) dX5_parse_47 rfl ?_
          refine cl_X5_45 rfl rfl (by first | exact Nat.le_of_ble_eq_true rfl | simp [rf_cat, Value.category]) dX5_parse_48 ?_
          refine s_tFail h25 (fun M48 h48 F48 => ?_)
          refine WP.ret (ov := some (.int _)) dX5_parse_51 ⟨rfl, _, rfl, by first | rfl | assumption | exact nar_b01 (by assumption)⟩ ?_
          exact hq _ ⟨G25.tr (F48.mo T_X), l25.fr F48 nT4 nT19, _, _, h48⟩
        | some v =>
          rw [hv] at hq
          dsimp only at hq
          have hv9 := vbF_lt 9 0 (by omega) hv
          by_cases hl : 30 ≤ ac.length
          · rw [if_pos hl] at hq
            refine R.aload_n dX5_parse_31 rfl (by first | rfl | exact rfv_rf _) ?_
            refine R.getS (l25.1) dX5_parse_32 fl_X5_17 (by decide) rfl ?_
            refine cl_X5_39 rfl rfl (by first | exact Nat.le_of_ble_eq_true rfl | simp [rf_cat, Value.category]) dX5_parse_35 ?_
            refine s_vbAt h25 tS_tE ?_
            rw [hv]
            refine R.astore_n dX5_parse_38 (by first | rfl | exact rfv_rf _) (Nat.le_of_ble_eq_true rfl) (by decide) (by first | rfl | simp [lft, rf_cat]) rfl ?_
            refine R.aload_n dX5_parse_39 rfl (by first | rfl | exact rfv_rf _) ?_
            refine R.ifnonnullS (tgt := 52) (by first | decide | exact Nat.lt_of_le_of_lt (Nat.le_of_eq (kd_rf _ _ (by decide))) (by decide)) dX5_parse_40 (by decide) ?_
            refine R.aload_n dX5_parse_52 rfl (by first | rfl | exact rfv_rf _) ?_
            refine R.getI dX5_parse_53 fl_X5_26 (by decide) rfl ?_
            rw [n25]
            refine R.bipush (v := 30) dX5_parse_56 (by decide) ?_
            refine R.icmp_lt (tgt := 71) dX5_parse_58 (by decide) (fun c => absurd c (nI_nlt (b := 30) (by omega) (by omega))) (fun _ => ?_)
            refine R.aload_n dX5_parse_61 rfl (by first | rfl | exact rfv_rf _) ?_
            refine R.getS (l25.1) dX5_parse_62 fl_X5_17 (by decide) rfl ?_
            refine R.bipush (v := 6) dX5_parse_65 (by decide) ?_
            refine cl_X5_45 rfl rfl (by first | exact Nat.le_of_ble_eq_true rfl | simp [rf_cat, Value.category]) dX5_parse_67 ?_
            refine s_tFail h25 (fun M67 h67 F67 => ?_)
            refine WP.ret (ov := some (.int _)) dX5_parse_70 ⟨rfl, _, rfl, by first | rfl | assumption | exact nar_b01 (by assumption)⟩ ?_
            exact hq _ ⟨G25.tr (F67.mo T_X), l25.fr F67 nT4 nT19, _, _, h67⟩
          · rw [if_neg hl] at hq
            have hl30 : ac.length < 30 := by omega
            refine R.aload_n dX5_parse_31 rfl (by first | rfl | exact rfv_rf _) ?_
            refine R.getS (l25.1) dX5_parse_32 fl_X5_17 (by decide) rfl ?_
            refine cl_X5_39 rfl rfl (by first | exact Nat.le_of_ble_eq_true rfl | simp [rf_cat, Value.category]) dX5_parse_35 ?_
            refine s_vbAt h25 tS_tE ?_
            rw [hv]
            refine R.astore_n dX5_parse_38 (by first | rfl | exact rfv_rf _) (Nat.le_of_ble_eq_true rfl) (by decide) (by first | rfl | simp [lft, rf_cat]) rfl ?_
            refine R.aload_n dX5_parse_39 rfl (by first | rfl | exact rfv_rf _) ?_
            refine R.ifnonnullS (tgt := 52) (by first | decide | exact Nat.lt_of_le_of_lt (Nat.le_of_eq (kd_rf _ _ (by decide))) (by decide)) dX5_parse_40 (by decide) ?_
            refine R.aload_n dX5_parse_52 rfl (by first | rfl | exact rfv_rf _) ?_
            refine R.getI dX5_parse_53 fl_X5_26 (by decide) rfl ?_
            rw [n25]
            refine R.bipush (v := 30) dX5_parse_56 (by decide) ?_
            refine R.icmp_lt (tgt := 71) dX5_parse_58 (by decide) (fun _ => ?_) (fun c => absurd (nI_lt (b := 30) hl30 (by decide)) c)
            refine R.aload_n dX5_parse_71 rfl (by first | rfl | exact rfv_rf _) ?_
            refine R.getS (l25.2.2.1) dX5_parse_72 fl_X5_11 (by decide) rfl ?_
            refine R.aload_n dX5_parse_75 rfl (by first | rfl | exact rfv_rf _) ?_
            refine R.getI dX5_parse_76 fl_X5_26 (by decide) rfl ?_
            rw [n25]
            refine R.aalS (by rw [nI_clamp (by omega)]; exact l25.2.2.2.2 _ hl30) (by decide) (by decide) dX5_parse_79 (nI_pos (by omega)) (by rw [nI_clamp (by omega), l25.2.2.2.1]; exact hl30) ?_
            refine R.aload_n dX5_parse_80 rfl (by first | rfl | exact rfv_rf _) ?_
            refine R.aload_n dX5_parse_81 rfl (by first | rfl | exact rfv_rf _) ?_
            refine R.getS (l25.1) dX5_parse_82 fl_X5_17 (by decide) rfl ?_
            refine R.aload_n dX5_parse_85 rfl (by first | rfl | exact rfv_rf _) ?_
            refine R.getS (l25.2.1) dX5_parse_86 fl_X5_21 (by decide) rfl ?_
            refine cl_X5_49 rfl rfl (by first | exact Nat.le_of_ble_eq_true rfl | simp [rf_cat, Value.category]) dX5_parse_89 ?_
            refine s_stPar h25 g25 hv9 (fun M89 P89 => ?_)
            cases hr : sqP b n (tE b n e) v Y with
            | inl x =>
              rw [hr] at hq P89
              dsimp only at hq
              refine R.if_eq (tgt := 105) dX5_parse_92 (by decide) (fun _ => ?_) (fun c => absurd rfl c)
              refine R.iconst (v := 0) dX5_parse_105 rfl ?_
              refine WP.ret (ov := some (.int _)) dX5_parse_106 ⟨rfl, _, rfl, by first | rfl | assumption | exact nar_b01 (by assumption)⟩ ?_
              obtain ⟨cd, f9⟩ := x
              obtain ⟨PF, e9, k9, hT⟩ := P89
              exact hq _ ⟨G25.tr (PF.mo J_X), l25.fr PF nJ4 nJ19, _, _, hT⟩
            | inr x =>
              obtain ⟨e', t⟩ := x
              rw [hr] at hq P89
              dsimp only at hq
              obtain ⟨PF, ⟨s9, k9, hT⟩, hSv⟩ := P89
              have l89 := l25.fr PF nJ4 nJ19
              refine R.if_eq (tgt := 105) dX5_parse_92 (by decide) (fun c => absurd c okQ_1) (fun _ => ?_)
              refine R.aload_n dX5_parse_95 rfl (by first | rfl | exact rfv_rf _) ?_
              refine R.getS (l89.1) dX5_parse_96 fl_X5_17 (by decide) rfl ?_
              refine cl_X5_53 rfl rfl (by first | exact Nat.le_of_ble_eq_true rfl | simp [rf_cat, Value.category]) dX5_parse_99 ?_
              refine s_tSemi hT (fun M99 h99 F99 => ?_)
              have G99 := (G25.tr (PF.mo J_X)).tr (F99.mo T_X)
              have l99 := l89.fr F99 nT4 nT19
              have n99 : mI M99 4 0 3 = nI ac.length := by rw [(F99.2.2.2.2 4 0 nT4).1, (PF.2.2.2.2 4 0 nJ4).1]; exact n25
              have a99 := (a25.fr PF (fun j hj => by unfold inJ inT; omega)).fr F99 (fun j _ => nT6)
              have v99 := hSv.fr F99 nT6
              have g99 := (g25.fr PF nJY).fr F99 nTY
              refine R.if_ne (tgt := 107) dX5_parse_102 (by decide) (fun c102 => ?_) (fun c102 => ?_)
              · have z99 := er_0 c102
                rw [if_pos z99] at hq
                have hge := sqP_ge hr
                have hgt2 := sc_gt z99
                refine R.aload_n dX5_parse_107 rfl (by first | rfl | exact rfv_rf _) ?_
                refine R.dup dX5_parse_108 (by first | rfl | exact rf_cat _) ?_
                refine R.getI dX5_parse_109 fl_X5_26 (by decide) rfl ?_
                rw [n99]
                refine R.iconst (v := 1) dX5_parse_112 rfl ?_
                refine R.iadd dX5_parse_113 ?_
                rw [show nI ac.length + (1 : Int32) = nI (ac ++ [t]).length by rw [List.length_append]; exact (nI_succ _).symm]
                refine R.putI dX5_parse_114 fl_X5_26 (fun q hq => by cases hq; exact Or.inl rfl) (by decide) rfl rfl rfl ?_
                refine R.iinc dX5_parse_117 (Nat.le_of_ble_eq_true rfl) (by decide) (by first | rfl | simp [lft, rf_cat]) rfl (inc_nI _) rfl ?_
                refine R.goto (tgt := 14) dX5_parse_120 (by decide) ?_
                rw [show nI (ac.length + 1) = nI (ac ++ [t]).length by rw [List.length_append]; rfl]
                exact ih (ac ++ [t]) _ _ _ _ _ (by rw [List.length_append]; show ac.length + 1 + f = 600; omega) (by rw [List.length_append]; show 2 * (ac.length + 1) ≤ _; omega) (h99.ok z99).p4 (g99.p4) l99.put (Fr.sI G99 X_4) (by rw [mI_sI, if_pos ⟨rfl, rfl, rfl⟩]) (a99.snoc hl30 v99).p4 hq
              · have w99 := er_1 c102
                rw [if_neg w99] at hq
                refine R.iconst (v := 0) dX5_parse_105 rfl ?_
                refine WP.ret (ov := some (.int _)) dX5_parse_106 ⟨rfl, _, rfl, by first | rfl | assumption | exact nar_b01 (by assumption)⟩ ?_
                exact hq _ ⟨G99, l99, _, _, h99.no w99⟩
  refine R.aload_n dX5_parse_0 rfl (by first | rfl | exact rfv_rf _) ?_
  refine R.iconst (v := 0) dX5_parse_1 rfl ?_
  refine R.putI dX5_parse_2 fl_X5_26 (fun q hq => by cases hq; exact Or.inl rfl) (by decide) rfl rfl rfl ?_
  refine R.aload_n dX5_parse_5 rfl (by first | rfl | exact rfv_rf _) ?_
  refine R.getS (l.put.1) dX5_parse_6 fl_X5_17 (by decide) rfl ?_
  refine cl_X5_30 rfl rfl (by first | exact Nat.le_of_ble_eq_true rfl | simp [rf_cat, Value.category]) dX5_parse_9 ?_
  refine s_tRew h.p4 (fun M9 s9 k9 h9 F9 => ?_)
  refine R.iconst (v := 0) dX5_parse_12 rfl ?_
  refine R.istore_n dX5_parse_13 (Nat.le_of_ble_eq_true rfl) (by decide) (by first | rfl | simp [lft, rf_cat]) rfl ?_
  exact key 600 [] _ 0 _ _ _ rfl (Nat.le_refl _) h9 (g.p4.fr F9 nTY) (l.put.fr F9 nT4 nT19) ((Fr.sI (Fr.rf _ _) X_4).tr (F9.mo T_X)) (by rw [(F9.2.2.2.2 4 0 nT4).1, mI_sI, if_pos ⟨rfl, rfl, rfl⟩]; rfl) ⟨Nat.zero_le _, fun j t e => by cases e⟩ hq
