/-! the law's crate: what it holds, its depth, its mean; readings forgotten, crates gone -/
set_option maxHeartbeats 1000000 in
set_option maxRecDepth 8000 in
theorem ho_loop {W : LW} {f k t d t0 : Nat} (hch : ∀ c, c ∈ wC W k → ∀ {M : Mem} {Q : Out → Mem → Prop}, LM M W → (∀ M', LM M' W → Fx Sz (nsF W f c) (4 * nsF W f c) M M' → Q (.inl (some (.int (if hoF W t0 f c = true then 1 else 0)))) M') → WPc d mX13_holds [.ref (rf 11 c), .ref (rf 11 t0)] M Q) (hk : k < wN W) (hd3 : ∃ d', d = d' + 3) : ∀ (ys : List Nat) (c0 b : Nat) (v : Value) (M0 M1 : Mem) {Q : Out → Mem → Prop}, (wC W k).drop c0 = ys → c0 ≤ (wC W k).length → LM M1 W → It M1 t (1 + 2 * k) c0 → mC M0 34 ≤ t → Fx Sz b (4 * b) M0 M1 → (∀ M', LM M' W → Fx Sz (ys.foldl (fun a c => a + nsF W f c) b) (4 * ys.foldl (fun a c => a + nsF W f c) b) M0 M' → Q (.inl (some (.int (if ys.any (fun c => hoF W t0 f c) = true then 1 else 0)))) M') → WP mX13_holds (d + 1) 17 [.ref (rf 11 k), .ref (rf 11 t0), .ref (rf 34 t), v] [] M1 Q := by
  obtain ⟨d', rfl⟩ := hd3
  intro ys
  induction ys with
  | nil =>
    intro c0 b v M0 M1 Q hd hc0 hW hI ht hF hq
    have hL := (hW.c hk).ch
    have e9 := drop_n hd hc0
    refine R.aload_n dX13_holds_17 rfl (by first | rfl | exact rfv_rf _) ?_
    refine ic_X13_35 rfl (by first | exact Nat.le_of_ble_eq_true rfl | simp [rf_cat, Value.category]) dX13_holds_18 ?_
    refine s_itHas hI hL (by rw [List.length_map]; omega) ?_
    rw [if_pos (by rw [List.length_map]; omega)]
    refine ⟨_, rfl, ?_⟩
    refine R.if_eq (tgt := 49) dX13_holds_23 (by decide) (fun _ => ?_) (fun z => absurd rfl z)
    refine R.iconst (v := 0) dX13_holds_49 rfl ?_
    refine WP.ret (ov := some (.int _)) dX13_holds_50 ⟨rfl, _, rfl, rfl⟩ ?_
    exact hq _ hW hF
  | cons c ys ih =>
    intro c0 b v M0 M1 Q hd hc0 hW hI ht hF hq
    have hL := (hW.c hk).ch
    obtain ⟨h1, h2, h3, h4⟩ := drop_c hd
    have hx := map_at (g := rf 11) h1
    refine R.aload_n dX13_holds_17 rfl (by first | rfl | exact rfv_rf _) ?_
    refine ic_X13_35 rfl (by first | exact Nat.le_of_ble_eq_true rfl | simp [rf_cat, Value.category]) dX13_holds_18 ?_
    refine s_itHas hI hL (by rw [List.length_map]; omega) ?_
    rw [if_neg (by rw [List.length_map]; omega)]
    refine ⟨_, rfl, ?_⟩
    refine R.if_eq (tgt := 49) dX13_holds_23 (by decide) (fun z => absurd z (by decide)) (fun _ => ?_)
    refine R.aload_n dX13_holds_26 rfl (by first | rfl | exact rfv_rf _) ?_
    refine ic_X13_41 rfl (by first | exact Nat.le_of_ble_eq_true rfl | simp [rf_cat, Value.category]) dX13_holds_27 ?_
    refine s_itNext hI hL hx (fun M2 hI2 F2 hC2 => ?_)
    refine ⟨_, rfl, ?_⟩
    refine R.cast (k0 := 11) rfl (rcv_own (k := 11) rfl) cw_X13_11 dX13_holds_32 ?_
    refine R.astore_n dX13_holds_35 rfl (Nat.le_of_ble_eq_true rfl) (by decide) rfl rfl ?_
    refine R.aload_n dX13_holds_36 rfl rfl ?_
    refine R.aload_n dX13_holds_37 rfl rfl ?_
    refine cl_X13_59 rfl rfl (by first | exact Nat.le_of_ble_eq_true rfl | simp [rf_cat, Value.category]) dX13_holds_38 ?_
    refine hch c h3 (hW.fy F2 (fun k j z => z.1)) (fun M3 hW3 F3 => ?_)
    have G3 := (((hF.tr F2 (fun k j z => Or.inr ⟨by unfold inG; omega, by rw [z.1]; omega⟩)).tr F3 (fun _ _ z => z.elim)).le (n' := b + nsF W f c) (s' := 4 * (b + nsF W f c)) (by omega) (by omega))
    by_cases hb : hoF W t0 f c = true
    · rw [if_pos hb]
      refine R.if_eq (tgt := 46) dX13_holds_41 (by decide) (fun z => absurd z (by decide)) (fun _ => ?_)
      refine R.iconst (v := 1) dX13_holds_44 rfl ?_
      refine WP.ret (ov := some (.int _)) dX13_holds_45 ⟨rfl, _, rfl, rfl⟩ ?_
      have := hq M3 hW3 (G3.le (fold_le ys _) (Nat.mul_le_mul_left 4 (fold_le ys _)))
      rw [List.any_cons, hb, Bool.true_or, if_pos rfl] at this
      exact this
    · rw [if_neg hb]
      refine R.if_eq (tgt := 46) dX13_holds_41 (by decide) (fun _ => ?_) (fun z => absurd rfl z)
      refine R.goto (tgt := 17) dX13_holds_46 (by decide) ?_
      refine ih (c0 + 1) (b + nsF W f c) _ M0 M3 h2 (by omega) hW3 (hI2.fx F3 (fun z => z) (fun z => z)) ht G3 (fun M' hM' hF' => ?_)
      have := hq M' hM' hF'
      rw [List.any_cons, Bool.eq_false_iff.mpr hb, Bool.false_or] at this
      exact this
set_option maxHeartbeats 1000000 in
set_option maxRecDepth 8000 in
theorem ho_one {W : LW} {f k d t0 : Nat} (hch : ∀ c, c ∈ wC W k → ∀ {M : Mem} {Q : Out → Mem → Prop}, LM M W → (∀ M', LM M' W → Fx Sz (nsF W f c) (4 * nsF W f c) M M' → Q (.inl (some (.int (if hoF W t0 f c = true then 1 else 0)))) M') → WPc d mX13_holds [.ref (rf 11 c), .ref (rf 11 t0)] M Q) (hk : k < wN W) {M : Mem} {Q : Out → Mem → Prop} (hW : LM M W) (hq : ∀ M', LM M' W → Fx Sz ((wC W k).foldl (fun a c => a + nsF W f c) 1) (4 * (wC W k).foldl (fun a c => a + nsF W f c) 1) M M' → Q (.inl (some (.int (if (decide (t0 = k) || (wC W k).any (fun c => hoF W t0 f c)) = true then 1 else 0)))) M') (hd3 : ∃ d', d = d' + 3) : WPc (d + 1) mX13_holds [.ref (rf 11 k), .ref (rf 11 t0)] M Q := by
  refine WPc.of (by decide +kernel) (Nat.le_of_ble_eq_true rfl) rfl ?_
  obtain ⟨d', rfl⟩ := hd3
  have c := hW.c hk
  have h1 := fold_le (g := nsF W f) (wC W k) 1
  refine R.aload_n dX13_holds_0 rfl rfl ?_
  refine R.aload_n dX13_holds_1 rfl rfl ?_
  refine R.acmpRR (tgt := 7) (by decide) dX13_holds_2 (by decide) (fun hne => ?_) (fun he => ?_)
  · skip
    refine R.aload_n dX13_holds_7 rfl (by first | rfl | exact rfv_rf _) ?_
    refine R.getS (c.r7) dX13_holds_8 fl_X13_10 (by decide) rfl ?_
    refine ic_X13_29 rfl (by first | exact Nat.le_of_ble_eq_true rfl | simp [rf_cat, Value.category]) dX13_holds_11 ?_
    refine s_alIter c.ch (fun M1 t ht hI F1 hC => ?_)
    refine ⟨_, rfl, ?_⟩
    refine R.astore_n dX13_holds_16 (by first | rfl | exact rfv_rf _) (Nat.le_of_ble_eq_true rfl) (by decide) (by first | rfl | simp [lft, rf_cat]) rfl ?_
    refine ho_loop hch hk ⟨_, rfl⟩ (wC W k) 0 1 _ M M1 (List.drop_zero) (Nat.zero_le _) (hW.fx F1) hI (by omega) F1 (fun M' hM' hF' => ?_)
    have := hq M' hM' hF'
    rw [decide_eq_false hne, Bool.false_or] at this
    exact this
  · refine R.iconst (v := 1) dX13_holds_5 rfl ?_
    refine WP.ret (ov := some (.int _)) dX13_holds_6 ⟨rfl, _, rfl, rfl⟩ ?_
    have := hq M hW (Fx.rf Sz _ _ M)
    rw [decide_eq_true he, Bool.true_or, if_pos rfl] at this
    exact this
theorem s_holds {W : LW} {t0 : Nat} : ∀ (f k d : Nat) {M : Mem} {Q : Out → Mem → Prop}, k < wN W → hgK W f k → LM M W → (∀ M', LM M' W → Fx Sz (nsF W f k) (4 * nsF W f k) M M' → Q (.inl (some (.int (if hoF W t0 f k = true then 1 else 0)))) M') → WPc (d + f + 4) mX13_holds [.ref (rf 11 k), .ref (rf 11 t0)] M Q := by
  intro f
  induction f with
  | zero =>
    intro k d M Q hk hh hW hq
    have e : wC W k = [] := hh
    refine ho_one (f := 0) (d := d + 3) (fun c hc => ?_) hk hW (fun M' h1 h2 => ?_) ⟨_, rfl⟩
    · rw [e] at hc; cases hc
    · rw [e] at h2 ⊢
      have := hq M' h1 h2
      rw [List.any_nil, Bool.or_false]
      exact this
  | succ f ih =>
    intro k d M Q hk hh hW hq
    exact ho_one (f := f) (d := d + f + 4) (fun c hc => fun hW2 hq2 => ih c d ((hW.c hk).cn c hc) (hh c hc) hW2 hq2) hk hW hq ⟨d + f + 1, rfl⟩
theorem kd11 (p : Option Nat) : ∀ a, p.map (rf 11) = some a → kd a < 29 := by
  intro a h
  cases p with
  | none => cases h
  | some j => cases h; rw [kd_rf _ _ (by decide)]; decide
theorem s_ldep {W : LW} : ∀ (f k d : Nat) {M : Mem} {Q : Out → Mem → Prop}, f ≤ 100 → k < wN W → acyO f (wP W) (wP W k) → LM M W → Q (.inl (some (.int (nI (depO f (wP W) (wP W k)))))) M → WPc (d + f) mX13_depth [.ref (rf 11 k)] M Q := by
  intro f
  induction f with
  | zero =>
    intro k d M Q hf hk ha hW hq
    refine WPc.of (by decide +kernel) (Nat.le_of_ble_eq_true rfl) rfl ?_
    have c := hW.c hk
    have e : wP W k = none := ha
    have e6 := c.p
    rw [e] at e6
    refine R.aload_n dX13_depth_0 rfl rfl ?_
    refine R.getN e6 dX13_depth_1 fl_X13_49 (by decide) rfl ?_
    refine R.ifnonnullN (tgt := 11) dX13_depth_4 (by decide) ?_
    refine R.iconst (v := 0) dX13_depth_7 rfl ?_
    refine R.goto (tgt := 20) dX13_depth_8 (by decide) ?_
    refine WP.ret (ov := some (.int _)) dX13_depth_20 ⟨rfl, _, rfl, rfl⟩ ?_
    exact hq
  | succ f ih =>
    intro k d M Q hf hk ha hW hq
    refine WPc.of (by decide +kernel) (Nat.le_of_ble_eq_true rfl) rfl ?_
    have c := hW.c hk
    have e6 := c.p
    cases e : wP W k with
    | none =>
      rw [e] at e6 hq
      refine R.aload_n dX13_depth_0 rfl rfl ?_
      refine R.getN e6 dX13_depth_1 fl_X13_49 (by decide) rfl ?_
      refine R.ifnonnullN (tgt := 11) dX13_depth_4 (by decide) ?_
      refine R.iconst (v := 0) dX13_depth_7 rfl ?_
      refine R.goto (tgt := 20) dX13_depth_8 (by decide) ?_
      refine WP.ret (ov := some (.int _)) dX13_depth_20 ⟨rfl, _, rfl, rfl⟩ ?_
      exact hq
    | some j =>
      rw [e] at e6 hq ha
      have hj := c.pn j e
      refine R.aload_n dX13_depth_0 rfl rfl ?_
      refine R.getS e6 dX13_depth_1 fl_X13_49 (by decide) rfl ?_
      refine R.ifnonnullS (tgt := 11) (by rw [kd_rf _ _ (by decide)]; decide) dX13_depth_4 (by decide) ?_
      refine R.iconst (v := nI 1) dX13_depth_11 rfl ?_
      refine R.aload_n dX13_depth_12 rfl rfl ?_
      refine R.getS e6 dX13_depth_13 fl_X13_49 (by decide) rfl ?_
      refine cl_X13_53 (d := d + f) rfl rfl (by first | exact Nat.le_of_ble_eq_true rfl | simp [rf_cat, Value.category]) dX13_depth_16 ?_
      refine ih j d (by omega) hj ha hW ?_
      refine R.iadd dX13_depth_19 ?_
      rw [show nI 1 + nI (depO f (wP W) (wP W j)) = nI (depO f (wP W) (wP W j) + 1) by rw [nI_add, Nat.add_comm]]
      refine WP.ret (ov := some (.int _)) dX13_depth_20 ⟨rfl, _, rfl, rfl⟩ ?_
      exact hq
/-- readings forgotten, from crate k upwards: how many, and what is left -/
def fgF : Nat → LW → Nat → Int32 × LW
  | 0, W, k => (nI (wR W k).length, vI (vR W k [] (wE W (2 + 2 * k))) k 5 0)
  | n + 1, W, k => match wP W k with
    | none => (nI (wR W k).length, vI (vR W k [] (wE W (2 + 2 * k))) k 5 0)
    | some j => (nI (wR W k).length + (fgF n (vI (vR W k [] (wE W (2 + 2 * k))) k 5 0) j).1, (fgF n (vI (vR W k [] (wE W (2 + 2 * k))) k 5 0) j).2)
/-- the law's own cells -/
def SWl (k _i : Nat) : Prop := k = 11 ∨ k = 16 ∨ k = 32 ∨ k = 33
theorem SL_SWl {i : Nat} {E : Option Nat} (k j : Nat) (h : SL i E k j) : SWl k j := by unfold SL at h; unfold SWl; omega
set_option maxHeartbeats 2000000 in
set_option maxRecDepth 8000 in
theorem s_forg : ∀ (f k d : Nat) {W : LW} {M : Mem} {Q : Out → Mem → Prop}, k < wN W → acyO f (wP W) (wP W k) → LM M W → (∀ M', LM M' (fgF f W k).2 → Fx SWl 0 0 M M' → Q (.inl (some (.int (fgF f W k).1))) M') → WPc (d + f + 1) mX13_forgets [.ref (rf 11 k)] M Q := by
  intro f
  induction f with
  | zero =>
    intro k d W M Q hk ha hW hq
    refine WPc.of (by decide +kernel) (Nat.le_of_ble_eq_true rfl) rfl ?_
    have c := hW.c hk
    have e : wP W k = none := ha
    refine R.aload_n dX13_forgets_0 rfl (by first | rfl | exact rfv_rf _) ?_
    refine R.getS (c.r8) dX13_forgets_1 fl_X13_16 (by decide) rfl ?_
    refine ic_X13_68 rfl (by first | exact Nat.le_of_ble_eq_true rfl | simp [rf_cat, Value.category]) dX13_forgets_4 ?_
    refine s_alSize c.rd ?_
    rw [List.length_map]
    refine ⟨_, rfl, ?_⟩
    refine R.istore_n dX13_forgets_9 (Nat.le_of_ble_eq_true rfl) (by decide) (by first | rfl | simp [lft, rf_cat]) rfl ?_
    refine R.aload_n dX13_forgets_10 rfl (by first | rfl | exact rfv_rf _) ?_
    refine R.getS (c.r8) dX13_forgets_11 fl_X13_16 (by decide) rfl ?_
    refine ic_X13_71 rfl (by first | exact Nat.le_of_ble_eq_true rfl | simp [rf_cat, Value.category]) dX13_forgets_14 ?_
    refine s_alClr c.rd (fun M1 hL1 F1 hC1 => ?_)
    refine ⟨_, rfl, ?_⟩
    obtain ⟨W1, hW1⟩ : ∃ W1, W1 = vR W k [] (wE W (2 + 2 * k)) := ⟨_, rfl⟩
    have hM1 : LM M1 W1 := by rw [hW1]; exact hW.uR hk F1 hL1 (Or.inl rfl) (fun q hq => by cases hq)
    refine R.aload_n dX13_forgets_19 rfl (by first | rfl | exact rfv_rf _) ?_
    refine R.iconst (v := 0) dX13_forgets_20 rfl ?_
    refine R.putI dX13_forgets_21 fl_X13_74 (fun q hq => by cases hq; exact Or.inl rfl) (by decide) rfl rfl rfl ?_
    refine R.iload_n dX13_forgets_24 rfl ?_
    have hM2 : LM (sI M1 11 k 5 0) (vI W1 k 5 0) := hM1.uI
    have F2 : Fx SWl 0 0 M (sI M1 11 k 5 0) := (F1.mono (fun k j z => Or.inl (SL_SWl k j z)) (Nat.le_refl _) (Nat.le_refl _)).sI (Or.inl (Or.inl rfl))
    have eP : wP (vI W1 k 5 0) = wP W := by rw [hW1]; rfl
    have c2 := hM2.c (k := k) (by rw [hW1]; exact hk)
    have e6 := c2.p
    rw [eP] at e6
    rw [e] at e6
    refine R.aload_n dX13_forgets_25 rfl rfl ?_
    refine R.getN e6 dX13_forgets_26 fl_X13_49 (by decide) rfl ?_
    refine R.ifnonnullN (tgt := 36) dX13_forgets_29 (by decide) ?_
    refine R.iconst (v := 0) dX13_forgets_32 rfl ?_
    refine R.goto (tgt := 43) dX13_forgets_33 (by decide) ?_
    refine R.iadd dX13_forgets_43 ?_
    rw [Int32.add_zero]
    refine WP.ret (ov := some (.int _)) dX13_forgets_44 ⟨rfl, _, rfl, rfl⟩ ?_
    rw [hW1] at hM2
    exact hq _ hM2 F2
  | succ f ih =>
    intro k d W M Q hk ha hW hq
    refine WPc.of (by decide +kernel) (Nat.le_of_ble_eq_true rfl) rfl ?_
    have c := hW.c hk
    cases e : wP W k with
    | none =>
      simp only [fgF, e] at hq
      refine R.aload_n dX13_forgets_0 rfl (by first | rfl | exact rfv_rf _) ?_
      refine R.getS (c.r8) dX13_forgets_1 fl_X13_16 (by decide) rfl ?_
      refine ic_X13_68 rfl (by first | exact Nat.le_of_ble_eq_true rfl | simp [rf_cat, Value.category]) dX13_forgets_4 ?_
      refine s_alSize c.rd ?_
      rw [List.length_map]
      refine ⟨_, rfl, ?_⟩
      refine R.istore_n dX13_forgets_9 (Nat.le_of_ble_eq_true rfl) (by decide) (by first | rfl | simp [lft, rf_cat]) rfl ?_
      refine R.aload_n dX13_forgets_10 rfl (by first | rfl | exact rfv_rf _) ?_
      refine R.getS (c.r8) dX13_forgets_11 fl_X13_16 (by decide) rfl ?_
      refine ic_X13_71 rfl (by first | exact Nat.le_of_ble_eq_true rfl | simp [rf_cat, Value.category]) dX13_forgets_14 ?_
      refine s_alClr c.rd (fun M1 hL1 F1 hC1 => ?_)
      refine ⟨_, rfl, ?_⟩
      obtain ⟨W1, hW1⟩ : ∃ W1, W1 = vR W k [] (wE W (2 + 2 * k)) := ⟨_, rfl⟩
      have hM1 : LM M1 W1 := by rw [hW1]; exact hW.uR hk F1 hL1 (Or.inl rfl) (fun q hq => by cases hq)
      refine R.aload_n dX13_forgets_19 rfl (by first | rfl | exact rfv_rf _) ?_
      refine R.iconst (v := 0) dX13_forgets_20 rfl ?_
      refine R.putI dX13_forgets_21 fl_X13_74 (fun q hq => by cases hq; exact Or.inl rfl) (by decide) rfl rfl rfl ?_
      refine R.iload_n dX13_forgets_24 rfl ?_
      have hM2 : LM (sI M1 11 k 5 0) (vI W1 k 5 0) := hM1.uI
      have F2 : Fx SWl 0 0 M (sI M1 11 k 5 0) := (F1.mono (fun k j z => Or.inl (SL_SWl k j z)) (Nat.le_refl _) (Nat.le_refl _)).sI (Or.inl (Or.inl rfl))
      have eP : wP (vI W1 k 5 0) = wP W := by rw [hW1]; rfl
      have c2 := hM2.c (k := k) (by rw [hW1]; exact hk)
      have e6 := c2.p
      rw [eP] at e6
      rw [e] at e6
      refine R.aload_n dX13_forgets_25 rfl rfl ?_
      refine R.getN e6 dX13_forgets_26 fl_X13_49 (by decide) rfl ?_
      refine R.ifnonnullN (tgt := 36) dX13_forgets_29 (by decide) ?_
      refine R.iconst (v := 0) dX13_forgets_32 rfl ?_
      refine R.goto (tgt := 43) dX13_forgets_33 (by decide) ?_
      refine R.iadd dX13_forgets_43 ?_
      rw [Int32.add_zero]
      refine WP.ret (ov := some (.int _)) dX13_forgets_44 ⟨rfl, _, rfl, rfl⟩ ?_
      rw [hW1] at hM2
      exact hq _ hM2 F2
    | some j =>
      simp only [fgF, e] at hq
      rw [e] at ha
      have hj := c.pn j e
      refine R.aload_n dX13_forgets_0 rfl (by first | rfl | exact rfv_rf _) ?_
      refine R.getS (c.r8) dX13_forgets_1 fl_X13_16 (by decide) rfl ?_
      refine ic_X13_68 rfl (by first | exact Nat.le_of_ble_eq_true rfl | simp [rf_cat, Value.category]) dX13_forgets_4 ?_
      refine s_alSize c.rd ?_
      rw [List.length_map]
      refine ⟨_, rfl, ?_⟩
      refine R.istore_n dX13_forgets_9 (Nat.le_of_ble_eq_true rfl) (by decide) (by first | rfl | simp [lft, rf_cat]) rfl ?_
      refine R.aload_n dX13_forgets_10 rfl (by first | rfl | exact rfv_rf _) ?_
      refine R.getS (c.r8) dX13_forgets_11 fl_X13_16 (by decide) rfl ?_
      refine ic_X13_71 rfl (by first | exact Nat.le_of_ble_eq_true rfl | simp [rf_cat, Value.category]) dX13_forgets_14 ?_
      refine s_alClr c.rd (fun M1 hL1 F1 hC1 => ?_)
      refine ⟨_, rfl, ?_⟩
      obtain ⟨W1, hW1⟩ : ∃ W1, W1 = vR W k [] (wE W (2 + 2 * k)) := ⟨_, rfl⟩
      have hM1 : LM M1 W1 := by rw [hW1]; exact hW.uR hk F1 hL1 (Or.inl rfl) (fun q hq => by cases hq)
      refine R.aload_n dX13_forgets_19 rfl (by first | rfl | exact rfv_rf _) ?_
      refine R.iconst (v := 0) dX13_forgets_20 rfl ?_
      refine R.putI dX13_forgets_21 fl_X13_74 (fun q hq => by cases hq; exact Or.inl rfl) (by decide) rfl rfl rfl ?_
      refine R.iload_n dX13_forgets_24 rfl ?_
      have hM2 : LM (sI M1 11 k 5 0) (vI W1 k 5 0) := hM1.uI
      have F2 : Fx SWl 0 0 M (sI M1 11 k 5 0) := (F1.mono (fun k j z => Or.inl (SL_SWl k j z)) (Nat.le_refl _) (Nat.le_refl _)).sI (Or.inl (Or.inl rfl))
      have eP : wP (vI W1 k 5 0) = wP W := by rw [hW1]; rfl
      have c2 := hM2.c (k := k) (by rw [hW1]; exact hk)
      have e6 := c2.p
      rw [eP] at e6
      rw [e] at e6
      refine R.aload_n dX13_forgets_25 rfl rfl ?_
      refine R.getS e6 dX13_forgets_26 fl_X13_49 (by decide) rfl ?_
      refine R.ifnonnullS (tgt := 36) (by rw [kd_rf _ _ (by decide)]; decide) dX13_forgets_29 (by decide) ?_
      refine R.aload_n dX13_forgets_36 rfl rfl ?_
      refine R.getS e6 dX13_forgets_37 fl_X13_49 (by decide) rfl ?_
      refine cl_X13_78 (d := d + f + 1) rfl rfl (by first | exact Nat.le_of_ble_eq_true rfl | simp [rf_cat, Value.category]) dX13_forgets_40 ?_
      refine ih j d (W := vI W1 k 5 0) (by rw [hW1]; exact hj) (by rw [eP]; exact ha) hM2 (fun M3 hM3 F3 => ?_)
      refine R.iadd dX13_forgets_43 ?_
      refine WP.ret (ov := some (.int _)) dX13_forgets_44 ⟨rfl, _, rfl, rfl⟩ ?_
      rw [hW1] at hM3 ⊢
      exact hq _ hM3 ((F2.tr F3 (fun _ _ z => Or.inl z)).le (by omega) (by omega))
def S11 (k _i : Nat) : Prop := k = 11
/-- crate k and all within are gone -/
def goF : Nat → LW → Nat → LW
  | 0, W, k => vI W k 4 1
  | f + 1, W, k => (wC W k).foldl (fun V c => goF f V c) (vI W k 4 1)
/-- what going leaves alone -/
def Gs (W V : LW) : Prop := wN V = wN W ∧ wP V = wP W ∧ wC V = wC W ∧ wR V = wR W ∧ wE V = wE W ∧ wYs V = wYs W ∧ ∀ k f, f ≠ 4 → wI V k f = wI W k f
theorem Gs.rf (W : LW) : Gs W W := ⟨rfl, rfl, rfl, rfl, rfl, rfl, fun _ _ _ => rfl⟩
theorem Gs.tr {W V U : LW} (h : Gs W V) (g : Gs V U) : Gs W U := ⟨g.1.trans h.1, g.2.1.trans h.2.1, g.2.2.1.trans h.2.2.1, g.2.2.2.1.trans h.2.2.2.1, g.2.2.2.2.1.trans h.2.2.2.2.1, g.2.2.2.2.2.1.trans h.2.2.2.2.2.1, fun k f hf => (g.2.2.2.2.2.2 k f hf).trans (h.2.2.2.2.2.2 k f hf)⟩
theorem Gs.uI (W : LW) (k : Nat) (v : Int32) : Gs W (vI W k 4 v) := ⟨rfl, rfl, rfl, rfl, rfl, rfl, fun k' f hf => if_neg (fun z => hf z.2)⟩
theorem Gs.fold {f : Nat} (h : ∀ W k, Gs W (goF f W k)) : ∀ (ys : List Nat) (W : LW), Gs W (ys.foldl (fun V c => goF f V c) W) := by
  intro ys
  induction ys with
  | nil => intro W; exact Gs.rf W
  | cons c ys ih => intro W; exact (h W c).tr (ih _)
theorem goF_s : ∀ f W k, Gs W (goF f W k) := by
  intro f
  induction f with
  | zero => intro W k; exact Gs.uI W k 1
  | succ f ih => intro W k; exact (Gs.uI W k 1).tr (Gs.fold ih _ _)
theorem hgK_g {W V : LW} (h : wC V = wC W) : ∀ f k, hgK W f k → hgK V f k := by
  intro f
  induction f with
  | zero => intro k hk; show wC V k = []; rw [h]; exact hk
  | succ f ih => intro k hk c hc; rw [h] at hc; exact ih c (hk c hc)
theorem nsF_g {W V : LW} (h : wC V = wC W) : ∀ f k, nsF V f k = nsF W f k := by
  intro f
  induction f with
  | zero => intro k; rfl
  | succ f ih =>
    intro k
    show (wC V k).foldl (fun a c => a + nsF V f c) 1 = (wC W k).foldl (fun a c => a + nsF W f c) 1
    rw [h]
    congr 1
    funext a c
    rw [ih c]
set_option maxHeartbeats 1000000 in
set_option maxRecDepth 8000 in
theorem go_loop {W : LW} {f k t d : Nat} (hch : ∀ c, c ∈ wC W k → ∀ {V : LW} {M : Mem} {Q : Out → Mem → Prop}, Gs W V → LM M V → (∀ M', LM M' (goF f V c) → Fx S11 (nsF W f c) (4 * nsF W f c) M M' → Q (.inl none) M') → WPc d mX13_goes [.ref (rf 11 c)] M Q) (hk : k < wN W) (hd3 : ∃ d', d = d' + 3) : ∀ (ys : List Nat) (V : LW) (c0 b : Nat) (v : Value) (M0 M1 : Mem) {Q : Out → Mem → Prop}, Gs W V → (wC W k).drop c0 = ys → c0 ≤ (wC W k).length → LM M1 V → It M1 t (1 + 2 * k) c0 → mC M0 34 ≤ t → Fx S11 b (4 * b) M0 M1 → (∀ M', LM M' (ys.foldl (fun V c => goF f V c) V) → Fx S11 (ys.foldl (fun a c => a + nsF W f c) b) (4 * ys.foldl (fun a c => a + nsF W f c) b) M0 M' → Q (.inl none) M') → WP mX13_goes (d + 1) 15 [.ref (rf 11 k), .ref (rf 34 t), v] [] M1 Q := by
  obtain ⟨d', rfl⟩ := hd3
  intro ys
  induction ys with
  | nil =>
    intro V c0 b v M0 M1 Q hG hd hc0 hW hI ht hF hq
    have hL := (hW.c (by rw [hG.1]; exact hk)).ch
    rw [hG.2.2.1] at hL
    have e9 := drop_n hd hc0
    refine R.aload_n dX13_goes_15 rfl (by first | rfl | exact rfv_rf _) ?_
    refine ic_X13_35 rfl (by first | exact Nat.le_of_ble_eq_true rfl | simp [rf_cat, Value.category]) dX13_goes_16 ?_
    refine s_itHas hI hL (by rw [List.length_map]; omega) ?_
    rw [if_pos (by rw [List.length_map]; omega)]
    refine ⟨_, rfl, ?_⟩
    refine R.if_eq (tgt := 41) dX13_goes_21 (by decide) (fun _ => ?_) (fun z => absurd rfl z)
    refine WP.ret (ov := none) dX13_goes_41 ⟨rfl, rfl⟩ ?_
    exact hq _ hW hF
  | cons c ys ih =>
    intro V c0 b v M0 M1 Q hG hd hc0 hW hI ht hF hq
    have hL := (hW.c (by rw [hG.1]; exact hk)).ch
    rw [hG.2.2.1] at hL
    obtain ⟨h1, h2, h3, h4⟩ := drop_c hd
    have hx := map_at (g := rf 11) h1
    refine R.aload_n dX13_goes_15 rfl (by first | rfl | exact rfv_rf _) ?_
    refine ic_X13_35 rfl (by first | exact Nat.le_of_ble_eq_true rfl | simp [rf_cat, Value.category]) dX13_goes_16 ?_
    refine s_itHas hI hL (by rw [List.length_map]; omega) ?_
    rw [if_neg (by rw [List.length_map]; omega)]
    refine ⟨_, rfl, ?_⟩
    refine R.if_eq (tgt := 41) dX13_goes_21 (by decide) (fun z => absurd z (by decide)) (fun _ => ?_)
    refine R.aload_n dX13_goes_24 rfl (by first | rfl | exact rfv_rf _) ?_
    refine ic_X13_41 rfl (by first | exact Nat.le_of_ble_eq_true rfl | simp [rf_cat, Value.category]) dX13_goes_25 ?_
    refine s_itNext hI hL hx (fun M2 hI2 F2 hC2 => ?_)
    refine ⟨_, rfl, ?_⟩
    refine R.cast (k0 := 11) rfl (rcv_own (k := 11) rfl) cw_X13_11 dX13_goes_30 ?_
    refine R.astore_n dX13_goes_33 rfl (Nat.le_of_ble_eq_true rfl) (by decide) rfl rfl ?_
    refine R.aload_n dX13_goes_34 rfl rfl ?_
    refine cl_X13_84 rfl rfl (by first | exact Nat.le_of_ble_eq_true rfl | simp [rf_cat, Value.category]) dX13_goes_35 ?_
    refine hch c h3 hG (hW.fy F2 (fun k j z => z.1)) (fun M3 hW3 F3 => ?_)
    refine R.goto (tgt := 15) dX13_goes_38 (by decide) ?_
    refine ih (goF f V c) (c0 + 1) (b + nsF W f c) _ M0 M3 (hG.tr (goF_s f V c)) h2 (by omega) hW3 (hI2.fx F3 (by unfold S11; omega) (by unfold S11; omega)) ht (((hF.tr F2 (fun k j z => Or.inr ⟨by unfold inG; omega, by rw [z.1]; omega⟩)).tr F3 (fun _ _ z => Or.inl z)).le (by omega) (by omega)) hq
set_option maxHeartbeats 1000000 in
set_option maxRecDepth 8000 in
theorem go_one {W : LW} {f k d : Nat} (hch : ∀ c, c ∈ wC W k → ∀ {V : LW} {M : Mem} {Q : Out → Mem → Prop}, Gs W V → LM M V → (∀ M', LM M' (goF f V c) → Fx S11 (nsF W f c) (4 * nsF W f c) M M' → Q (.inl none) M') → WPc d mX13_goes [.ref (rf 11 c)] M Q) (hk : k < wN W) {V : LW} (hG : Gs W V) {M : Mem} {Q : Out → Mem → Prop} (hW : LM M V) (hq : ∀ M', LM M' ((wC W k).foldl (fun V c => goF f V c) (vI V k 4 1)) → Fx S11 ((wC W k).foldl (fun a c => a + nsF W f c) 1) (4 * (wC W k).foldl (fun a c => a + nsF W f c) 1) M M' → Q (.inl none) M') (hd3 : ∃ d', d = d' + 3) : WPc (d + 1) mX13_goes [.ref (rf 11 k)] M Q := by
  refine WPc.of (by decide +kernel) (Nat.le_of_ble_eq_true rfl) rfl ?_
  obtain ⟨d', rfl⟩ := hd3
  refine R.aload_n dX13_goes_0 rfl rfl ?_
  refine R.iconst (v := 1) dX13_goes_1 rfl ?_
  refine R.putI dX13_goes_2 fl_X13_81 (fun q hq => by cases hq; exact Or.inl rfl) (by decide) rfl rfl rfl ?_
  have hW0 : LM (sI M 11 k 4 1) (vI V k 4 1) := hW.uI
  have F0 : Fx S11 0 0 M (sI M 11 k 4 1) := (Fx.rf _ 0 0 M).sI (Or.inl rfl)
  have hG0 : Gs W (vI V k 4 1) := hG.tr (Gs.uI V k 1)
  obtain ⟨V0, hV0⟩ : ∃ V0, V0 = vI V k 4 1 := ⟨_, rfl⟩
  obtain ⟨M9, hM9⟩ : ∃ M9, M9 = sI M 11 k 4 1 := ⟨_, rfl⟩
  rw [← hV0] at hW0 hG0 hq
  rw [← hM9] at hW0 F0
  rw [← hM9]
  have c := hW0.c (k := k) (by rw [hG0.1]; exact hk)
  have hch9 := c.ch
  rw [hG0.2.2.1] at hch9
  refine R.aload_n dX13_goes_5 rfl (by first | rfl | exact rfv_rf _) ?_
  refine R.getS (c.r7) dX13_goes_6 fl_X13_10 (by decide) rfl ?_
  refine ic_X13_29 rfl (by first | exact Nat.le_of_ble_eq_true rfl | simp [rf_cat, Value.category]) dX13_goes_9 ?_
  refine s_alIter hch9 (fun M1 t ht hI F1 hC => ?_)
  refine ⟨_, rfl, ?_⟩
  refine R.astore_n dX13_goes_14 (by first | rfl | exact rfv_rf _) (Nat.le_of_ble_eq_true rfl) (by decide) (by first | rfl | simp [lft, rf_cat]) rfl ?_
  exact go_loop hch hk ⟨_, rfl⟩ (wC W k) V0 0 1 _ M M1 hG0 (List.drop_zero) (Nat.zero_le _) (hW0.fx F1) hI (by have := F0.2.2.1 34; omega) ((F0.tr F1 (fun _ _ z => z.elim)).le (by omega) (by omega)) hq
theorem s_goes {W : LW} : ∀ (f k d : Nat) {V : LW} {M : Mem} {Q : Out → Mem → Prop}, k < wN W → hgK W f k → Gs W V → (∀ k c, k < wN W → c ∈ wC W k → c < wN W) → LM M V → (∀ M', LM M' (goF f V k) → Fx S11 (nsF W f k) (4 * nsF W f k) M M' → Q (.inl none) M') → WPc (d + f + 4) mX13_goes [.ref (rf 11 k)] M Q := by
  intro f
  induction f with
  | zero =>
    intro k d V M Q hk hh hG hcn hW hq
    have e : wC W k = [] := hh
    refine go_one (f := 0) (d := d + 3) (fun c hc => ?_) hk hG hW (fun M' h1 h2 => ?_) ⟨_, rfl⟩
    · rw [e] at hc; cases hc
    · rw [e] at h1 h2
      exact hq M' h1 h2
  | succ f ih =>
    intro k d V M Q hk hh hG hcn hW hq
    refine go_one (f := f) (d := d + f + 4) (fun c hc => fun hG2 hW2 hq2 => ih c d (hcn k c hk hc) (hh c hc) hG2 hcn hW2 hq2) hk hG hW (fun M' h1 h2 => ?_) ⟨d + f + 1, rfl⟩
    refine hq M' ?_ h2
    show LM M' ((wC V k).foldl (fun V c => goF f V c) (vI V k 4 1))
    rw [hG.2.2.1]
    exact h1
