/-! the model reads a whole setup, and loads it -/
def bgW (w : Nat → Int32) : Nat → Int32 := upW (upW (upW (upW (fun x => if x < 370 then 0 else w x) 2 5) 3 1) 4 50) 5 2
def zrW (w : Nat → Int32) (k : Nat) : Nat → Int32 := fun x => if x < k then 0 else w x
theorem zrW_s (w : Nat → Int32) (k : Nat) : upW (zrW w k) k 0 = zrW w (k + 1) := by
  funext x
  show (if x = k then 0 else if x < k then 0 else w x) = if x < k + 1 then 0 else w x
  by_cases z : x = k
  · rw [if_pos z, if_pos (by omega)]
  · rw [if_neg z]
    by_cases y : x < k
    · rw [if_pos y, if_pos (by omega)]
    · rw [if_neg y, if_neg (by omega)]
set_option maxHeartbeats 1000000 in
set_option maxRecDepth 4000 in
theorem m_begins {d : Nat} {w : Nat → Int32} {M : Mem} {Q : Out → Mem → Prop} (hL : ML M) (hq : Q (.inl none) (sW M (bgW w))) : WPc d mX13_begins [.ref (rf 11 0)] (sW M w) Q := by
  refine WPc.of (by decide +kernel) (Nat.le_of_ble_eq_true rfl) rfl ?_
  have key : ∀ (f k : Nat), k + f = 370 → WP mX13_begins d 2 [.ref (rf 11 0), .int (nI k)] [] (sW M (zrW w k)) Q := by
    intro f
    induction f with
    | zero =>
      intro k hk
      have ek : k = 370 := by omega
      subst ek
      refine R.iload_n dX13_begins_2 rfl ?_
      refine R.sipush (v := nI 370) dX13_begins_3 (by decide) ?_
      refine R.geT (tgt := 22) (Int32.le_refl _) dX13_begins_6 (by decide) ?_
      refine R.aload_n dX13_begins_22 rfl (by first | rfl | exact rfv_rf _) ?_
      refine R.getS (hL.w) dX13_begins_23 fl_X13_7 (by decide) rfl ?_
      refine R.iconst (v := nI 2) dX13_begins_26 rfl ?_
      refine R.iconst (v := 5) dX13_begins_27 rfl ?_
      refine R.iastN (k := 2) dX13_begins_28 (by omega) (by show _ < mN M 14 0; rw [hL.n]; omega) ?_
      rw [sI_sW]
      refine R.aload_n dX13_begins_29 rfl (by first | rfl | exact rfv_rf _) ?_
      refine R.getS (hL.w) dX13_begins_30 fl_X13_7 (by decide) rfl ?_
      refine R.iconst (v := nI 3) dX13_begins_33 rfl ?_
      refine R.iconst (v := 1) dX13_begins_34 rfl ?_
      refine R.iastN (k := 3) dX13_begins_35 (by omega) (by show _ < mN M 14 0; rw [hL.n]; omega) ?_
      rw [sI_sW]
      refine R.aload_n dX13_begins_36 rfl (by first | rfl | exact rfv_rf _) ?_
      refine R.getS (hL.w) dX13_begins_37 fl_X13_7 (by decide) rfl ?_
      refine R.iconst (v := nI 4) dX13_begins_40 rfl ?_
      refine R.bipush (v := 50) dX13_begins_41 (by decide) ?_
      refine R.iastN (k := 4) dX13_begins_43 (by omega) (by show _ < mN M 14 0; rw [hL.n]; omega) ?_
      rw [sI_sW]
      refine R.aload_n dX13_begins_44 rfl (by first | rfl | exact rfv_rf _) ?_
      refine R.getS (hL.w) dX13_begins_45 fl_X13_7 (by decide) rfl ?_
      refine R.iconst (v := nI 5) dX13_begins_48 rfl ?_
      refine R.iconst (v := 2) dX13_begins_49 rfl ?_
      refine R.iastN (k := 5) dX13_begins_50 (by omega) (by show _ < mN M 14 0; rw [hL.n]; omega) ?_
      rw [sI_sW]
      refine WP.ret (ov := none) dX13_begins_51 ⟨rfl, rfl⟩ ?_
      exact hq
    | succ f ih =>
      intro k hf
      have hk : k < 370 := by omega
      refine R.iload_n dX13_begins_2 rfl ?_
      refine R.sipush (v := nI 370) dX13_begins_3 (by decide) ?_
      refine R.geF (tgt := 22) (nI_ge (show k < 370 by omega) (by omega)) dX13_begins_6 (by decide) ?_
      refine R.aload_n dX13_begins_9 rfl (by first | rfl | exact rfv_rf _) ?_
      refine R.getS (hL.w) dX13_begins_10 fl_X13_7 (by decide) rfl ?_
      refine R.iload_n dX13_begins_13 rfl ?_
      refine R.iconst (v := 0) dX13_begins_14 rfl ?_
      refine R.iastN (k := k) dX13_begins_15 (by omega) (by show _ < mN M 14 0; rw [hL.n]; omega) ?_
      rw [sI_sW, zrW_s]
      refine R.iinc dX13_begins_16 (Nat.le_of_ble_eq_true rfl) (by decide) (by first | rfl | simp [lft, rf_cat]) rfl (inc_nI _) rfl ?_
      refine R.goto (tgt := 2) dX13_begins_19 (by decide) ?_
      exact ih (k + 1) (by omega)
  have k0 := key 370 0 (by omega)
  rw [show zrW w 0 = w from funext fun x => if_neg (Nat.not_lt_zero x)] at k0
  refine R.iconst (v := nI 0) dX13_begins_0 rfl ?_
  refine R.istore_n dX13_begins_1 (Nat.le_of_ble_eq_true rfl) (by decide) (by first | rfl | simp [lft, rf_cat]) rfl ?_
  exact k0
theorem bg_z {w : Nat → Int32} {x : Nat} (h : x < 370) (h2 : x ≠ 2 ∧ x ≠ 3 ∧ x ≠ 4 ∧ x ≠ 5) : bgW w x = 0 := by
  unfold bgW
  rw [upW_n _ _ (by omega), upW_n _ _ (by omega), upW_n _ _ (by omega), upW_n _ _ (by omega)]
  exact if_pos h
theorem DR_bl (w : Nat → Int32) : DR blY 0 0 (bgW w) := by
  have e2 : bgW w 2 = 5 := by unfold bgW; rw [upW_n _ _ (by decide), upW_n _ _ (by decide), upW_n _ _ (by decide), upW_s]
  have e3 : bgW w 3 = 1 := by unfold bgW; rw [upW_n _ _ (by decide), upW_n _ _ (by decide), upW_s]
  have e4 : bgW w 4 = 50 := by unfold bgW; rw [upW_n _ _ (by decide), upW_s]
  have e5 : bgW w 5 = 2 := by unfold bgW; rw [upW_s]
  have cz : ∀ i f, f ≠ 0 → yC blY i f = 0 := fun i f hf => if_neg hf
  have bz : ∀ i f, f ≠ 0 → yB blY i f = 0 := fun i f hf => if_neg hf
  refine ⟨⟨⟨by omega, bg_z (by omega) (by omega), fun k hk => by omega, fun i j hi e => by cases e⟩, ⟨bg_z (by omega) (by omega), e2, e3, e4, e5, bg_z (by omega) (by omega), bg_z (by omega) (by omega), bg_z (by omega) (by omega), bg_z (by omega) (by omega), bg_z (by omega) (by omega), bg_z (by omega) (by omega), bg_z (by omega) (by omega), bg_z (by omega) (by omega), bg_z (by omega) (by omega)⟩, fun i hi => ⟨?_, ?_, ?_, ?_, ?_, ?_⟩, fun i hi => ⟨?_, ?_, ?_⟩, fun j hj => ⟨?_, ?_, ?_, ?_⟩, ⟨fun i hi => by omega, fun j hj => by omega⟩, fun i j hi => by omega, ⟨0, bg_z (by omega) (by omega), by omega, fun i hi => by omega⟩, by omega⟩, ?_, fun i hi => ⟨cz _ _ (by decide), rfl, rfl, cz _ _ (by decide), cz _ _ (by decide)⟩, fun f hf => rfl, rfl⟩
  · rw [bg_z (by omega) (by omega)]; rfl
  · rw [bg_z (by omega) (by omega)]; rfl
  · rw [bg_z (by omega) (by omega)]; rfl
  · rw [bg_z (by omega) (by omega)]; rfl
  · rw [bg_z (by omega) (by omega), show yC (uT blY 6 0) i 8 = 0 from cz i 8 (by decide)]; decide
  · rw [bg_z (by omega) (by omega)]; rfl
  · rw [bg_z (by omega) (by omega)]; rfl
  · rw [bg_z (by omega) (by omega)]; rfl
  · rw [bg_z (by omega) (by omega), if_neg (by omega)]
  · rw [bg_z (by omega) (by omega)]; rfl
  · rw [bg_z (by omega) (by omega)]; rfl
  · rw [bg_z (by omega) (by omega)]; rfl
  · rw [bg_z (by omega) (by omega)]; rfl
  · refine ⟨⟨fun i hi => Or.inl rfl, fun i hi => trivial, by omega, by omega, rfl, rfl, fun i hi _ => rfl, fun j hj _ => rfl, fun i j hi e => by cases e⟩, fun i hi => ?_, ⟨0, by omega, rfl, fun i hi => ⟨0, by omega, rfl, Or.inl rfl⟩, fun i hi j hj => Or.inl rfl⟩, fun i hi => ⟨0, 0, rfl, by omega, rfl, by omega⟩, fun i hi => ⟨0, 0, rfl, by omega, rfl, by omega, ?_, ?_, ?_⟩, ⟨⟨1, rfl, by omega⟩, ⟨5, rfl, by omega⟩, ⟨50, rfl, by omega, by omega⟩, 0, rfl, by omega⟩, ⟨fun i hi _ => rfl, fun j hj _ => ⟨rfl, rfl⟩⟩, 2, rfl, by omega, by omega⟩
    · rw [sm_z fun c hc => if_neg fun e => by cases e]; rfl
    · rw [cz i 12 (by decide)]; decide
    · rw [cz i 12 (by decide)]; decide
    · rfl
set_option maxHeartbeats 1000000 in
theorem p_start {d n : Nat} {b : Nat → Int32} {M : Mem} {Q : Out → Mem → Prop} (hL : ML M) (hI : MI M b n) (hq : ∀ M', PQ M M' b n 0 (mI M 14 0) (mI M 14 6) (0, mI M 14 7, mI M 14 8) → Q (.inl none) M') : WPc (d + 3) mX13_startsText [.ref (rf 11 0)] M Q := by
  refine WPc.of (by decide +kernel) (Nat.le_of_ble_eq_true rfl) rfl ?_
  have F : FQ pA pP M (sI (sI (sI (sI M 11 0 12 0) 11 0 13 (-1)) 11 0 22 0) 11 0 14 (nI 0)) := ((((FQ.rf _ _ M).f _ (Or.inl (by omega))).f _ (Or.inl (by omega))).f _ (Or.inr rfl)).f _ (Or.inl (by omega))
  refine R.aload_n dX13_startsText_0 rfl (by first | rfl | exact rfv_rf _) ?_
  refine R.iconst (v := 0) dX13_startsText_1 rfl ?_
  refine R.putI dX13_startsText_2 fl_X13_209 (fun q hq => by cases hq; exact Or.inl rfl) (by decide) rfl rfl rfl ?_
  refine R.aload_n dX13_startsText_5 rfl (by first | rfl | exact rfv_rf _) ?_
  refine R.iconst (v := (-1)) dX13_startsText_6 rfl ?_
  refine R.putI dX13_startsText_7 fl_X13_212 (fun q hq => by cases hq; exact Or.inl rfl) (by decide) rfl rfl rfl ?_
  refine R.aload_n dX13_startsText_10 rfl (by first | rfl | exact rfv_rf _) ?_
  refine R.iconst (v := 0) dX13_startsText_11 rfl ?_
  refine R.putI dX13_startsText_12 fl_X13_296 (fun q hq => by cases hq; exact Or.inl rfl) (by decide) rfl rfl rfl ?_
  refine R.aload_n dX13_startsText_15 rfl (by first | rfl | exact rfv_rf _) ?_
  refine R.iconst (v := nI 0) dX13_startsText_16 rfl ?_
  refine R.putI dX13_startsText_17 fl_X13_194 (fun q hq => by cases hq; exact Or.inl rfl) (by decide) rfl rfl rfl ?_
  refine R.aload_n dX13_startsText_20 rfl (by first | rfl | exact rfv_rf _) ?_
  refine cl_X13_233 rfl rfl (by first | exact Nat.le_of_ble_eq_true rfl | simp [rf_cat, Value.category]) dX13_startsText_21 ?_
  refine m_adv (e := 0) (F.l hL) (hI.fq F (by unfold pA; omega) (by unfold pP; omega)) (by rw [mI_sI, if_pos ⟨rfl, rfl, rfl⟩]) (Nat.zero_le _) (fun M2 t2 F2 => ?_)
  refine WP.ret (ov := none) dX13_startsText_24 ⟨rfl, rfl⟩ ?_
  have e14 : ∀ i, mI M2 14 i = mI M 14 i := fun i => (F2.2.1 i (by simp)).trans (by rw [mI_sI9, mI_sI9, mI_sI9, mI_sI9])
  refine hq M2 ⟨F.tr (F2.mo (fun i z => z.elim) tk_pP), t2, ⟨e14 0, e14 6, e14 7, e14 8⟩, ⟨?_, ?_, ?_⟩, F2.l (F.l hL), (hI.fq F (by unfold pA; omega) (by unfold pP; omega)).fq F2 (by simp) (by unfold tkP; omega), Nat.zero_le _⟩
  · rw [F2.2.2.1 12 (by unfold tkP; omega), mI_sI, if_neg (by omega), mI_sI, if_neg (by omega), mI_sI, if_neg (by omega), mI_sI, if_pos ⟨rfl, rfl, rfl⟩]
  · rw [F2.2.2.1 13 (by unfold tkP; omega), mI_sI, if_neg (by omega), mI_sI, if_neg (by omega), mI_sI, if_pos ⟨rfl, rfl, rfl⟩]
  · rw [F2.2.2.1 22 (by unfold tkP; omega), mI_sI, if_neg (by omega), mI_sI, if_pos ⟨rfl, rfl, rfl⟩]
def enM (M : Mem) (cd q : Int32) : Mem := sI (sI (sI M 11 0 9 0) 11 0 10 cd) 11 0 11 q
theorem p_end {d : Nat} {cd q : Int32} {M : Mem} {Q : Out → Mem → Prop} (h12 : mI M 11 0 12 = cd) (h13 : mI M 11 0 13 = q) (hq : Q (.inl none) (enM M cd q)) : WPc d mX13_endsText [.ref (rf 11 0)] M Q := by
  refine WPc.of (by decide +kernel) (Nat.le_of_ble_eq_true rfl) rfl ?_
  refine R.aload_n dX13_endsText_0 rfl (by first | rfl | exact rfv_rf _) ?_
  refine R.iconst (v := 0) dX13_endsText_1 rfl ?_
  refine R.putI dX13_endsText_2 fl_X13_185 (fun q hq => by cases hq; exact Or.inl rfl) (by decide) rfl rfl rfl ?_
  refine R.aload_n dX13_endsText_5 rfl (by first | rfl | exact rfv_rf _) ?_
  refine R.aload_n dX13_endsText_6 rfl (by first | rfl | exact rfv_rf _) ?_
  refine R.getI dX13_endsText_7 fl_X13_209 (by decide) rfl ?_
  rw [mI_sI, if_neg (by omega), h12]
  refine R.putI dX13_endsText_10 fl_X13_299 (fun q hq => by cases hq; exact Or.inl rfl) (by decide) rfl rfl rfl ?_
  refine R.aload_n dX13_endsText_13 rfl (by first | rfl | exact rfv_rf _) ?_
  refine R.aload_n dX13_endsText_14 rfl (by first | rfl | exact rfv_rf _) ?_
  refine R.getI dX13_endsText_15 fl_X13_212 (by decide) rfl ?_
  rw [mI_sI, if_neg (by omega), mI_sI, if_neg (by omega), h13]
  refine R.putI dX13_endsText_18 fl_X13_28 (fun q hq => by cases hq; exact Or.inl rfl) (by decide) rfl rfl rfl ?_
  refine WP.ret (ov := none) dX13_endsText_21 ⟨rfl, rfl⟩ ?_
  exact hq
/-- what a setup answers -/
def PRT (Q : Out → Mem → Prop) (M0 : Mem) (b : Nat → Int32) (n : Nat) (RR : OR9) (r : PR) : Prop := match r with
  | .inl (cd, s) => ∀ M' {w' : Nat → Int32}, PX M0 M' cd s w' → Q (.inl (some (.int 0))) M'
  | .inr (_, Y') => ∀ M' e' w' N' m' b', PQ M0 M' b n e' w' N' RR → DR Y' m' b' w' → Q (.inl (some (.int 1))) M'
theorem kp_end {b : Nat → Int32} {n : Nat} : kp b n n = 0 := if_pos (Nat.le_refl n)
theorem tS_end {b : Nat → Int32} {n : Nat} : tS b n n = n := by
  show (if kp b n n = 1 then runF (kp b n) 1 600 (n + 1) else n) = n
  rw [kp_end, if_neg (by decide)]
theorem tK_end {b : Nat → Int32} {n : Nat} : tK b n n = 0 := by
  unfold tK
  rw [tS_end, kp_end]
  rw [if_neg (fun q => q.elim (fun q => absurd q.1 (by decide)) (fun q => absurd q.1 (by decide)))]
set_option maxHeartbeats 2000000 in
set_option maxRecDepth 4000 in
theorem p_rdT1 {d n : Nat} {b : Nat → Int32} {RR : OR9} {M0 : Mem} {Q : Out → Mem → Prop} : ∀ (f e : Nat) (Y : Yd) (m b9 : Nat) (w N : Nat → Int32) (M1 : Mem), n ≤ e + f → PQ M0 M1 b n e w N RR → DR Y m b9 w → PRT Q M0 b n RR (suP b n f e Y) → WP mX13_readText (d + 8) 4 [.ref (rf 11 0)] [] M1 Q := by
  have fin : ∀ (e : Nat) (Y : Yd) (m b9 : Nat) (w N : Nat → Int32) (M1 : Mem), PQ M0 M1 b n e w N RR → DR Y m b9 w → tK b n e = 0 → PRT Q M0 b n RR (finS (tS b n e) Y) → WP mX13_readText (d + 8) 4 [.ref (rf 11 0)] [] M1 Q := by
    intro e Y m b9 w N M1 h hD k0 hq
    unfold finS at hq
    by_cases hm0 : 0 < nI m
    · rw [if_pos (by rw [hD.v.f4]; exact hm0)] at hq
      refine R.aload_n dX13_readText_4 rfl (by first | rfl | exact rfv_rf _) ?_
      refine R.getI dX13_readText_5 fl_X13_203 (by decide) rfl ?_
      rw [h.t.2.2.1]
      refine R.if_eq (tgt := 20) dX13_readText_8 (by decide) (fun _ => ?_) (fun c9 => absurd ((tkM_c _).1.mpr k0) c9)
      refine R.aload_n dX13_readText_20 rfl (by first | rfl | exact rfv_rf _) ?_
      refine R.getS (h.l.w) dX13_readText_21 fl_X13_7 (by decide) rfl ?_
      refine R.iconst (v := nI 0) dX13_readText_24 rfl ?_
      refine R.ialdN (k := 0) dX13_readText_25 (by omega) (by show _ < mN M1 14 0; rw [h.l.n]; omega) ?_
      rw [h.w, hD.r.t.z]
      refine R.if_gt (tgt := 38) dX13_readText_26 (by decide) (fun _ => ?_) (fun c9 => absurd (hm0) c9)
      refine R.iconst (v := 1) dX13_readText_38 rfl ?_
      refine R.goto (tgt := 43) dX13_readText_39 (by decide) ?_
      refine WP.ret (ov := some (.int _)) dX13_readText_43 ⟨rfl, _, rfl, by first | rfl | assumption | exact nar_b01 (by assumption)⟩ ?_
      exact hq M1 _ _ _ _ _ h hD
    · rw [if_neg (by rw [hD.v.f4]; exact hm0)] at hq
      refine R.aload_n dX13_readText_4 rfl (by first | rfl | exact rfv_rf _) ?_
      refine R.getI dX13_readText_5 fl_X13_203 (by decide) rfl ?_
      rw [h.t.2.2.1]
      refine R.if_eq (tgt := 20) dX13_readText_8 (by decide) (fun _ => ?_) (fun c9 => absurd ((tkM_c _).1.mpr k0) c9)
      refine R.aload_n dX13_readText_20 rfl (by first | rfl | exact rfv_rf _) ?_
      refine R.getS (h.l.w) dX13_readText_21 fl_X13_7 (by decide) rfl ?_
      refine R.iconst (v := nI 0) dX13_readText_24 rfl ?_
      refine R.ialdN (k := 0) dX13_readText_25 (by omega) (by show _ < mN M1 14 0; rw [h.l.n]; omega) ?_
      rw [h.w, hD.r.t.z]
      refine R.if_gt (tgt := 38) dX13_readText_26 (by decide) (fun c9 => absurd c9 (hm0)) (fun _ => ?_)
      refine R.aload_n dX13_readText_29 rfl (by first | rfl | exact rfv_rf _) ?_
      refine R.bipush (v := 7) dX13_readText_30 (by decide) ?_
      refine cl_X13_224 rfl rfl (by first | exact Nat.le_of_ble_eq_true rfl | simp [rf_cat, Value.category]) dX13_readText_32 ?_
      refine p_fail h (fun M2 h2 => ?_)
      refine R.if_eq (tgt := 42) dX13_readText_35 (by decide) (fun _ => ?_) (fun c9 => absurd (rfl) c9)
      refine R.iconst (v := 0) dX13_readText_42 rfl ?_
      refine WP.ret (ov := some (.int _)) dX13_readText_43 ⟨rfl, _, rfl, by first | rfl | assumption | exact nar_b01 (by assumption)⟩ ?_
      exact hq M2 h2
  intro f
  induction f with
  | zero =>
    intro e Y m b9 w N M1 hf h hD hq
    have he : e = n := by have := h.en; omega
    subst he
    rw [suP] at hq
    exact fin e Y m b9 w N M1 h hD tK_end (by rw [tS_end]; exact hq)
  | succ f ih =>
    intro e Y m b9 w N M1 hf h hD hq
    rw [suP] at hq
    by_cases k0 : tK b n e = 0
    · rw [if_pos k0] at hq
      exact fin e Y m b9 w N M1 h hD k0 hq
    · rw [if_neg k0] at hq
      cases es : stmP b n (tS b n e) (tE b n e) (tK b n e) Y with
      | inl x =>
        obtain ⟨cd, s9⟩ := x
        simp only [es] at hq
        refine R.aload_n dX13_readText_4 rfl (by first | rfl | exact rfv_rf _) ?_
        refine R.getI dX13_readText_5 fl_X13_203 (by decide) rfl ?_
        rw [h.t.2.2.1]
        refine R.if_eq (tgt := 20) dX13_readText_8 (by decide) (fun c9 => absurd c9 (fun q => k0 ((tkM_c _).1.mp q))) (fun _ => ?_)
        refine R.aload_n dX13_readText_11 rfl (by first | rfl | exact rfv_rf _) ?_
        refine cl_X13_293 rfl rfl (by first | exact Nat.le_of_ble_eq_true rfl | simp [rf_cat, Value.category]) dX13_readText_12 ?_
        refine p_rdS h hD ?_
        rw [es]
        intro M2 w9 h2
        refine R.if_ne (tgt := 4) dX13_readText_15 (by decide) (fun c9 => absurd (rfl) c9) (fun _ => ?_)
        refine R.iconst (v := 0) dX13_readText_18 rfl ?_
        refine WP.ret (ov := some (.int _)) dX13_readText_19 ⟨rfl, _, rfl, by first | rfl | assumption | exact nar_b01 (by assumption)⟩ ?_
        exact hq M2 h2
      | inr x =>
        obtain ⟨e2, Y2⟩ := x
        simp only [es] at hq
        have hDY : DY Y m b9 := ⟨hD.v.m16, hD.v.b6, hD.v.f4, hD.v.f5, fun i k hi e => hD.v.p hi e, hD.v.acy, hD.v.c.2.2.2.2.1⟩
        have ho := okStm (b := b) (n := n) (s := tS b n e) (e := tE b n e) (k := tK b n e) hDY
        rw [es] at ho
        have g1 := tE_gt k0
        have g2 : tE b n e ≤ e2 := Nat.le_of_lt ho.1
        refine R.aload_n dX13_readText_4 rfl (by first | rfl | exact rfv_rf _) ?_
        refine R.getI dX13_readText_5 fl_X13_203 (by decide) rfl ?_
        rw [h.t.2.2.1]
        refine R.if_eq (tgt := 20) dX13_readText_8 (by decide) (fun c9 => absurd c9 (fun q => k0 ((tkM_c _).1.mp q))) (fun _ => ?_)
        refine R.aload_n dX13_readText_11 rfl (by first | rfl | exact rfv_rf _) ?_
        refine cl_X13_293 rfl rfl (by first | exact Nat.le_of_ble_eq_true rfl | simp [rf_cat, Value.category]) dX13_readText_12 ?_
        refine p_rdS h hD ?_
        rw [es]
        intro M2 w2 N2 m2 b2 h2 hD2
        refine R.if_ne (tgt := 4) dX13_readText_15 (by decide) (fun _ => ?_) (fun c9 => absurd c9 (by decide))
        exact ih e2 Y2 m2 b2 w2 N2 M2 (by omega) h2 hD2 hq
theorem p_rdT {d n : Nat} {b w N : Nat → Int32} {RR : OR9} {M0 M : Mem} {Q : Out → Mem → Prop} (h : PQ M0 M b n 0 w N RR) (hq : PRT Q M0 b n RR (suP b n 600 0 blY)) : WPc (d + 8) mX13_readText [.ref (rf 11 0)] M Q := by
  refine WPc.of (by decide +kernel) (Nat.le_of_ble_eq_true rfl) rfl ?_
  refine R.aload_n dX13_readText_0 rfl (by first | rfl | exact rfv_rf _) ?_
  refine cl_X13_47 rfl rfl (by first | exact Nat.le_of_ble_eq_true rfl | simp [rf_cat, Value.category]) dX13_readText_1 ?_
  refine atW h.w ?_
  refine m_begins h.l ?_
  exact p_rdT1 600 0 blY 0 0 _ _ _ (by have := h.n6; omega) (h.sw _) (DR_bl w) hq
