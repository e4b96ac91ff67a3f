/-! elements taken out of lists -/
theorem erase_at {α : Type} (l : List α) (i j : Nat) : (l.eraseIdx i)[j]? = if j < i then l[j]? else l[j + 1]? := List.getElem?_eraseIdx
set_option maxHeartbeats 1000000 in
set_option maxRecDepth 4000 in
theorem s_alFast {d : Nat} {i e j : Nat} {xs : List Nat} {M : Mem} {Q : Out → Mem → Prop} (h : Ls M i xs (some e)) (hj : j < xs.length) (hel : ∀ x, x ∈ xs → ∀ M2, ElOk M2 x) (hq : ∀ M', Ls M' i (xs.eraseIdx j) (some e) → Fx (SL i (some e)) 0 0 M M' → (∀ k, mC M' k = mC M k) → Q (.inl none) M') : WPc (d + 1) mJx4a65c_fastRemove_b59b0 [.ref (rf 33 i), .ref (rf 16 e), .int (nI j)] M Q := by
  refine WPc.of (by decide +kernel) (Nat.le_of_ble_eq_true rfl) rfl ?_
  have hl := h.len
  obtain ⟨h0, h1, b, c, c1, hpos, c3, g⟩ := h
  obtain ⟨M0, hM0⟩ : ∃ M0, M0 = sI M 33 i 0 (mI M 33 i 0 + 1) := ⟨_, rfl⟩
  have F0 : Fx (SL i (some e)) 0 0 M M0 := by rw [hM0]; exact (Fx.rf _ 0 0 M).sI (Or.inl (Or.inl ⟨rfl, rfl⟩))
  have s0 : mI M0 33 i 2 = nI xs.length := by rw [hM0, mI_sI, if_neg (by omega)]; exact h1
  have r0 : mR M0 = mR M := by rw [hM0]; rfl
  have n0 : mN M0 16 e = mN M 16 e := by rw [hM0]; rfl
  have e2 : ∀ k, mC M0 k = mC M k := fun k => by rw [hM0]; rfl
  rw [← e2] at h0 c
  rw [← n0] at hpos c3
  by_cases last : j = xs.length - 1
  · skip
    refine R.aload_n dJx4a65c_fastRemove_b59b0_0 rfl (by first | rfl | exact rfv_rf _) ?_
    refine R.dup dJx4a65c_fastRemove_b59b0_1 (by first | rfl | exact rf_cat _) ?_
    refine R.getI dJx4a65c_fastRemove_b59b0_2 fl_Jx4a65c_63 (by decide) rfl ?_
    refine R.iconst (v := 1) dJx4a65c_fastRemove_b59b0_5 rfl ?_
    refine R.iadd dJx4a65c_fastRemove_b59b0_6 ?_
    refine R.putI dJx4a65c_fastRemove_b59b0_7 fl_Jx4a65c_63 (fun q hq => by cases hq; exact Or.inl rfl) (by decide) rfl rfl rfl ?_
    rw [← hM0]
    refine R.aload_n dJx4a65c_fastRemove_b59b0_10 rfl (by first | rfl | exact rfv_rf _) ?_
    refine R.getI dJx4a65c_fastRemove_b59b0_11 fl_Jx4a65c_48 (by decide) rfl ?_
    rw [s0]
    refine R.iconst (v := 1) dJx4a65c_fastRemove_b59b0_14 rfl ?_
    refine R.isub dJx4a65c_fastRemove_b59b0_15 ?_
    rw [show nI xs.length - 1 = nI (xs.length - 1) from nI_m1s (by omega)]
    refine R.dup dJx4a65c_fastRemove_b59b0_16 (by first | rfl | exact rf_cat _) ?_
    refine R.istore_n dJx4a65c_fastRemove_b59b0_17 (Nat.le_of_ble_eq_true rfl) (by decide) (by first | rfl | simp [lft, rf_cat]) rfl ?_
    refine R.iload_n dJx4a65c_fastRemove_b59b0_18 rfl ?_
    refine R.icmp_le (tgt := 34) dJx4a65c_fastRemove_b59b0_19 (by decide) (fun _ => ?_) (fun c => absurd (nI_le (by omega) (by omega)) c)
    refine R.aload_n dJx4a65c_fastRemove_b59b0_34 rfl (by first | rfl | exact rfv_rf _) ?_
    refine R.aload_n dJx4a65c_fastRemove_b59b0_35 rfl (by first | rfl | exact rfv_rf _) ?_
    refine R.iload_n dJx4a65c_fastRemove_b59b0_36 rfl ?_
    refine R.dup_x1 dJx4a65c_fastRemove_b59b0_37 rfl rfl ?_
    refine R.putI dJx4a65c_fastRemove_b59b0_38 fl_Jx4a65c_48 (fun q hq => by cases hq; exact Or.inl rfl) (by decide) rfl rfl rfl ?_
    refine R.null dJx4a65c_fastRemove_b59b0_41 ?_
    refine R.aastN dJx4a65c_fastRemove_b59b0_42 (nI_pos (by omega)) (by rw [nI_clamp (by omega)]; show _ < mN M0 16 e; rw [n0]; omega) ?_
    rw [nI_clamp (by omega)]
    refine WP.ret (ov := none) dJx4a65c_fastRemove_b59b0_43 ⟨rfl, rfl⟩ ?_
    refine hq _ ⟨h0, ?_, ?_, c, ?_, hpos, c3, fun q x hx => ?_⟩ ((F0.sI (Or.inl (Or.inl ⟨rfl, rfl⟩))).sR (Or.inl (Or.inr ⟨rfl, rfl⟩))) (fun k => e2 k)
    · rw [mI_sR, mI_sI, if_pos ⟨rfl, rfl, rfl⟩, List.length_eraseIdx_of_lt hj]
    · rw [mR_sR, if_neg (by omega), mR_sI, r0]; exact b
    · rw [List.length_eraseIdx_of_lt hj]; show xs.length - 1 ≤ mN M0 16 e; rw [n0]; omega
    · have hl9 := (List.getElem?_eq_some_iff.mp hx).1
      rw [List.length_eraseIdx_of_lt hj] at hl9
      rw [mR_sR, if_neg (by omega), mR_sI, r0]
      rw [erase_at, if_pos (by omega)] at hx
      exact g q x hx
  · skip
    refine R.aload_n dJx4a65c_fastRemove_b59b0_0 rfl (by first | rfl | exact rfv_rf _) ?_
    refine R.dup dJx4a65c_fastRemove_b59b0_1 (by first | rfl | exact rf_cat _) ?_
    refine R.getI dJx4a65c_fastRemove_b59b0_2 fl_Jx4a65c_63 (by decide) rfl ?_
    refine R.iconst (v := 1) dJx4a65c_fastRemove_b59b0_5 rfl ?_
    refine R.iadd dJx4a65c_fastRemove_b59b0_6 ?_
    refine R.putI dJx4a65c_fastRemove_b59b0_7 fl_Jx4a65c_63 (fun q hq => by cases hq; exact Or.inl rfl) (by decide) rfl rfl rfl ?_
    rw [← hM0]
    refine R.aload_n dJx4a65c_fastRemove_b59b0_10 rfl (by first | rfl | exact rfv_rf _) ?_
    refine R.getI dJx4a65c_fastRemove_b59b0_11 fl_Jx4a65c_48 (by decide) rfl ?_
    rw [s0]
    refine R.iconst (v := 1) dJx4a65c_fastRemove_b59b0_14 rfl ?_
    refine R.isub dJx4a65c_fastRemove_b59b0_15 ?_
    rw [show nI xs.length - 1 = nI (xs.length - 1) from nI_m1s (by omega)]
    refine R.dup dJx4a65c_fastRemove_b59b0_16 (by first | rfl | exact rf_cat _) ?_
    refine R.istore_n dJx4a65c_fastRemove_b59b0_17 (Nat.le_of_ble_eq_true rfl) (by decide) (by first | rfl | simp [lft, rf_cat]) rfl ?_
    refine R.iload_n dJx4a65c_fastRemove_b59b0_18 rfl ?_
    refine R.icmp_le (tgt := 34) dJx4a65c_fastRemove_b59b0_19 (by decide) (fun c => absurd (nI_lt (by omega) (by omega)) (Int32.not_lt.mpr c)) (fun _ => ?_)
    refine R.aload_n dJx4a65c_fastRemove_b59b0_22 rfl (by first | rfl | exact rfv_rf _) ?_
    refine R.iload_n dJx4a65c_fastRemove_b59b0_23 rfl ?_
    refine R.iconst (v := 1) dJx4a65c_fastRemove_b59b0_24 rfl ?_
    refine R.iadd dJx4a65c_fastRemove_b59b0_25 ?_
    rw [show nI j + 1 = nI (j + 1) from inc_nI _]
    refine R.aload_n dJx4a65c_fastRemove_b59b0_26 rfl (by first | rfl | exact rfv_rf _) ?_
    refine R.iload_n dJx4a65c_fastRemove_b59b0_27 rfl ?_
    refine R.iload_n dJx4a65c_fastRemove_b59b0_28 rfl ?_
    refine R.iload_n dJx4a65c_fastRemove_b59b0_29 rfl ?_
    refine R.isub dJx4a65c_fastRemove_b59b0_30 ?_
    rw [nI_sub (by omega)]
    refine R.rcopy (v := e) (w := e) (a := j + 1) (b := j) (N := xs.length - 1 - j) dJx4a65c_fastRemove_b59b0_31 (gt_i 1296 (by decide +kernel) rfl) (by omega) (by omega) (by omega) (by rw [n0]; omega) (by rw [n0]; omega) ?_ (by omega) (by first | exact Nat.le_of_ble_eq_true rfl | simp [rf_cat, Value.category]) ?_
    · intro q hq9 y hy
      rw [r0, g (j + 1 + q) (xs[j + 1 + q]'(by omega)) (List.getElem?_eq_getElem (by omega))] at hy
      cases hy
      exact hel _ (List.getElem_mem _) _
    refine R.aload_n dJx4a65c_fastRemove_b59b0_34 rfl (by first | rfl | exact rfv_rf _) ?_
    refine R.aload_n dJx4a65c_fastRemove_b59b0_35 rfl (by first | rfl | exact rfv_rf _) ?_
    refine R.iload_n dJx4a65c_fastRemove_b59b0_36 rfl ?_
    refine R.dup_x1 dJx4a65c_fastRemove_b59b0_37 rfl rfl ?_
    refine R.putI dJx4a65c_fastRemove_b59b0_38 fl_Jx4a65c_48 (fun q hq => by cases hq; exact Or.inl rfl) (by decide) rfl rfl rfl ?_
    refine R.null dJx4a65c_fastRemove_b59b0_41 ?_
    refine R.aastN dJx4a65c_fastRemove_b59b0_42 (nI_pos (by omega)) (by rw [nI_clamp (by omega)]; show _ < mN M0 16 e; rw [n0]; omega) ?_
    rw [nI_clamp (by omega)]
    refine WP.ret (ov := none) dJx4a65c_fastRemove_b59b0_43 ⟨rfl, rfl⟩ ?_
    refine hq _ ⟨h0, ?_, ?_, c, ?_, hpos, c3, fun q x hx => ?_⟩ (((F0.cpR (Or.inl (Or.inr ⟨rfl, rfl⟩))).sI (Or.inl (Or.inl ⟨rfl, rfl⟩))).sR (Or.inl (Or.inr ⟨rfl, rfl⟩))) (fun k => e2 k)
    · rw [mI_sR, mI_sI, if_pos ⟨rfl, rfl, rfl⟩, List.length_eraseIdx_of_lt hj]
    · rw [mR_sR, if_neg (by omega), mR_sI, mR_cpR, if_neg (by omega), r0]; exact b
    · rw [List.length_eraseIdx_of_lt hj]; show xs.length - 1 ≤ mN M0 16 e; rw [n0]; omega
    · have hl9 := (List.getElem?_eq_some_iff.mp hx).1
      rw [List.length_eraseIdx_of_lt hj] at hl9
      rw [mR_sR, if_neg (by omega), mR_sI, mR_cpR]
      rw [erase_at] at hx
      by_cases z : q < j
      · rw [if_neg (by omega), r0]
        rw [if_pos z] at hx
        exact g q x hx
      · rw [if_pos ⟨rfl, rfl, by omega, by omega⟩, r0, show j + 1 + (q - j) = q + 1 by omega]
        rw [if_neg z] at hx
        exact g (q + 1) x hx
set_option maxHeartbeats 1000000 in
set_option maxRecDepth 4000 in
theorem s_alRem {d : Nat} {i j a : Nat} {xs : List Nat} {E : Option Nat} {M : Mem} {Q : Out → Mem → Prop} (h : Ls M i xs E) (hx : xs[j]? = some a) (hel : ∀ x, x ∈ xs → ∀ M2, ElOk M2 x) (hq : ∀ M', Ls M' i (xs.eraseIdx j) E → Fx (SL i E) 0 0 M M' → (∀ k, mC M' k = mC M k) → Q (.inl (some (.ref a))) M') : WPc (d + 3) mJx4a65c_remove_915e3 [.ref (rf 33 i), .int (nI j)] M Q := by
  refine WPc.of (by decide +kernel) (Nat.le_of_ble_eq_true rfl) rfl ?_
  have hl := h.len
  obtain ⟨e, rfl, e1, e2, e3, e4, e5⟩ := h.at hx
  refine R.iload_n dJx4a65c_remove_915e3_0 rfl ?_
  refine R.aload_n dJx4a65c_remove_915e3_1 rfl (by first | rfl | exact rfv_rf _) ?_
  refine R.getI dJx4a65c_remove_915e3_2 fl_Jx4a65c_48 (by decide) rfl ?_
  refine cl_Jx4a65c_118 rfl rfl (by first | exact Nat.le_of_ble_eq_true rfl | simp [rf_cat, Value.category]) dJx4a65c_remove_915e3_5 ?_
  refine s_oCk (nI_pos (by omega)) (by rw [h.2.1]; exact nI_lt e3 (by omega)) ?_
  refine R.pop dJx4a65c_remove_915e3_8 (by first | rfl | exact rf_cat _) ?_
  refine R.aload_n dJx4a65c_remove_915e3_9 rfl (by first | rfl | exact rfv_rf _) ?_
  refine R.getS (e1) dJx4a65c_remove_915e3_10 fl_Jx4a65c_9 (by decide) rfl ?_
  refine R.astore_n dJx4a65c_remove_915e3_13 (by first | rfl | exact rfv_rf _) (Nat.le_of_ble_eq_true rfl) (by decide) (by first | rfl | simp [lft, rf_cat]) rfl ?_
  refine R.aload_n dJx4a65c_remove_915e3_14 rfl (by first | rfl | exact rfv_rf _) ?_
  refine R.iload_n dJx4a65c_remove_915e3_15 rfl ?_
  refine R.aalS (a := a) (by rw [nI_clamp (by omega)]; exact e2) (by decide) (by decide) dJx4a65c_remove_915e3_16 (nI_pos (by omega)) (by rw [nI_clamp (by omega)]; omega) ?_
  refine R.astore_n dJx4a65c_remove_915e3_17 (by first | rfl | exact rfv_rf _) (Nat.le_of_ble_eq_true rfl) (by decide) (by first | rfl | simp [lft, rf_cat]) rfl ?_
  refine R.aload_n dJx4a65c_remove_915e3_18 rfl (by first | rfl | exact rfv_rf _) ?_
  refine R.aload_n dJx4a65c_remove_915e3_19 rfl (by first | rfl | exact rfv_rf _) ?_
  refine R.iload_n dJx4a65c_remove_915e3_20 rfl ?_
  refine cl_Jx4a65c_144 rfl rfl (by first | exact Nat.le_of_ble_eq_true rfl | simp [rf_cat, Value.category]) dJx4a65c_remove_915e3_21 ?_
  refine s_alFast h e3 hel (fun M' h1 h2 h3 => ?_)
  refine R.aload_n dJx4a65c_remove_915e3_24 rfl (by first | rfl | exact rfv_rf _) ?_
  first | refine WP.ret (ov := some (.ref _)) dJx4a65c_remove_915e3_25 ⟨rfl, _, rfl, Or.inl ⟨_, rfl⟩⟩ ?_ | refine WP.ret (ov := some (.ref _)) dJx4a65c_remove_915e3_25 ⟨rfl, _, rfl, Or.inr ⟨_, rfl⟩⟩ ?_ | refine WP.ret (ov := some .null) dJx4a65c_remove_915e3_25 ⟨rfl, _, rfl, Or.inl ⟨_, rfl⟩⟩ ?_
  exact hq _ h1 h2 h3
/-- a cleared list: the places up to n are empty now -/
theorem s_clLoop {d i e n : Nat} {M : Mem} {Q : Out → Mem → Prop} (hq : ∀ M', Fx (fun k j => k = 16 ∧ j = e) 0 0 M M' → mI M' = mI M → (∀ k, mC M' k = mC M k) → mN M' = mN M → (∀ k2 i2 f2, ¬ (k2 = 16 ∧ i2 = e) → mR M' k2 i2 f2 = mR M k2 i2 f2) → Q (.inl none) M') (hn : n ≤ 90) (hN : n ≤ mN M 16 e) : ∀ (f c : Nat) (M1 : Mem), c + f = n → Fx (fun k j => k = 16 ∧ j = e) 0 0 M M1 → mI M1 = mI M → (∀ k, mC M1 k = mC M k) → mN M1 = mN M → (∀ k2 i2 f2, ¬ (k2 = 16 ∧ i2 = e) → mR M1 k2 i2 f2 = mR M k2 i2 f2) → WP mJx4a65c_clear_da8c8 d 27 [.ref (rf 33 i), .ref (rf 16 e), .int (nI n), .int (nI c)] [] M1 Q := by
  intro f
  induction f with
  | zero =>
    intro c M1 hc h1 h2 h3 h4 h5
    have e9 : c = n := by omega
    subst e9
    refine R.iload_n dJx4a65c_clear_da8c8_27 rfl ?_
    refine R.iload_n dJx4a65c_clear_da8c8_28 rfl ?_
    refine R.icmp_ge (tgt := 42) dJx4a65c_clear_da8c8_29 (by decide) (fun _ => ?_) (fun z => absurd (Int32.le_refl _) z)
    refine WP.ret (ov := none) dJx4a65c_clear_da8c8_42 ⟨rfl, rfl⟩ ?_
    exact hq _ h1 h2 h3 h4 h5
  | succ f ih =>
    intro c M1 hc h1 h2 h3 h4 h5
    refine R.iload_n dJx4a65c_clear_da8c8_27 rfl ?_
    refine R.iload_n dJx4a65c_clear_da8c8_28 rfl ?_
    refine R.icmp_ge (tgt := 42) dJx4a65c_clear_da8c8_29 (by decide) (fun z => absurd (nI_lt (by omega) (by omega)) (Int32.not_lt.mpr z)) (fun _ => ?_)
    refine R.aload_n dJx4a65c_clear_da8c8_32 rfl rfl ?_
    refine R.iload_n dJx4a65c_clear_da8c8_33 rfl ?_
    refine R.null dJx4a65c_clear_da8c8_34 ?_
    refine R.aastN dJx4a65c_clear_da8c8_35 (nI_pos (by omega)) (by rw [nI_clamp (by omega), h4]; omega) ?_
    rw [nI_clamp (by omega)]
    refine R.iinc dJx4a65c_clear_da8c8_36 (Nat.le_of_ble_eq_true rfl) (by decide) (by first | rfl | simp [lft, rf_cat]) rfl (inc_nI _) rfl ?_
    refine R.goto (tgt := 27) dJx4a65c_clear_da8c8_39 (by decide) ?_
    refine ih (c + 1) _ (by omega) (h1.sR (Or.inl ⟨rfl, rfl⟩)) h2 h3 h4 (fun k2 i2 f2 hk => ?_)
    rw [mR_sR, if_neg (by intro z; exact hk ⟨z.1, z.2.1⟩)]
    exact h5 k2 i2 f2 hk
set_option maxHeartbeats 1000000 in
set_option maxRecDepth 4000 in
theorem s_alClr {d : Nat} {i : Nat} {xs : List Nat} {E : Option Nat} {M : Mem} {Q : Out → Mem → Prop} (h : Ls M i xs E) (hq : ∀ M', Ls M' i [] E → Fx (SL i E) 0 0 M M' → (∀ k, mC M' k = mC M k) → Q (.inl none) M') : WPc d mJx4a65c_clear_da8c8 [.ref (rf 33 i)] M Q := by
  refine WPc.of (by decide +kernel) (Nat.le_of_ble_eq_true rfl) rfl ?_
  have hl := h.len
  obtain ⟨h0, h1, h2⟩ := h
  obtain ⟨M0, hM0⟩ : ∃ M0, M0 = sI M 33 i 0 (mI M 33 i 0 + 1) := ⟨_, rfl⟩
  have F0 : Fx (SL i E) 0 0 M M0 := by rw [hM0]; exact (Fx.rf _ 0 0 M).sI (Or.inl (Or.inl ⟨rfl, rfl⟩))
  have s0 : mI M0 33 i 2 = nI xs.length := by rw [hM0, mI_sI, if_neg (by omega)]; exact h1
  have r0 : mR M0 = mR M := by rw [hM0]; rfl
  have e2 : ∀ k, mC M0 k = mC M k := fun k => by rw [hM0]; rfl
  rw [← e2] at h0
  cases E with
  | none =>
    obtain ⟨rfl, b⟩ := h2
    refine R.aload_n dJx4a65c_clear_da8c8_0 rfl (by first | rfl | exact rfv_rf _) ?_
    refine R.dup dJx4a65c_clear_da8c8_1 (by first | rfl | exact rf_cat _) ?_
    refine R.getI dJx4a65c_clear_da8c8_2 fl_Jx4a65c_63 (by decide) rfl ?_
    refine R.iconst (v := 1) dJx4a65c_clear_da8c8_5 rfl ?_
    refine R.iadd dJx4a65c_clear_da8c8_6 ?_
    refine R.putI dJx4a65c_clear_da8c8_7 fl_Jx4a65c_63 (fun q hq => by cases hq; exact Or.inl rfl) (by decide) rfl rfl rfl ?_
    rw [← hM0]
    refine R.aload_n dJx4a65c_clear_da8c8_10 rfl (by first | rfl | exact rfv_rf _) ?_
    refine R.getS (by rw [r0]; exact b) dJx4a65c_clear_da8c8_11 fl_Jx4a65c_9 (by decide) rfl ?_
    refine R.astore_n dJx4a65c_clear_da8c8_14 (by first | rfl | exact rfv_rf _) (Nat.le_of_ble_eq_true rfl) (by decide) (by first | rfl | simp [lft, rf_cat]) rfl ?_
    refine R.aload_n dJx4a65c_clear_da8c8_15 rfl (by first | rfl | exact rfv_rf _) ?_
    refine R.getI dJx4a65c_clear_da8c8_16 fl_Jx4a65c_48 (by decide) rfl ?_
    rw [s0]
    refine R.istore_n dJx4a65c_clear_da8c8_19 (Nat.le_of_ble_eq_true rfl) (by decide) (by first | rfl | simp [lft, rf_cat]) rfl ?_
    refine R.aload_n dJx4a65c_clear_da8c8_20 rfl (by first | rfl | exact rfv_rf _) ?_
    refine R.iconst (v := 0) dJx4a65c_clear_da8c8_21 rfl ?_
    refine R.dup_x1 dJx4a65c_clear_da8c8_22 rfl rfl ?_
    refine R.putI dJx4a65c_clear_da8c8_23 fl_Jx4a65c_48 (fun q hq => by cases hq; exact Or.inl rfl) (by decide) rfl rfl rfl ?_
    refine R.istore_n dJx4a65c_clear_da8c8_26 (Nat.le_of_ble_eq_true rfl) (by decide) (by first | rfl | simp [lft, rf_cat]) rfl ?_
    refine R.iload_n dJx4a65c_clear_da8c8_27 rfl ?_
    refine R.iload_n dJx4a65c_clear_da8c8_28 rfl ?_
    refine R.icmp_ge (tgt := 42) dJx4a65c_clear_da8c8_29 (by decide) (fun _ => ?_) (fun c => absurd (by decide) c)
    refine WP.ret (ov := none) dJx4a65c_clear_da8c8_42 ⟨rfl, rfl⟩ ?_
    refine hq _ ⟨h0, ?_, ?_⟩ (F0.sI (Or.inl (Or.inl ⟨rfl, rfl⟩))) (fun k => e2 k)
    · rw [mI_sI, if_pos ⟨rfl, rfl, rfl⟩]; rfl
    · exact ⟨rfl, by rw [mR_sI, r0]; exact b⟩
  | some e =>
    obtain ⟨b, c, c1, hpos, c3, g⟩ := h2
    have n0 : mN M0 16 e = mN M 16 e := by rw [hM0]; rfl
    rw [← e2] at c
    rw [← n0] at hpos c3
    refine R.aload_n dJx4a65c_clear_da8c8_0 rfl (by first | rfl | exact rfv_rf _) ?_
    refine R.dup dJx4a65c_clear_da8c8_1 (by first | rfl | exact rf_cat _) ?_
    refine R.getI dJx4a65c_clear_da8c8_2 fl_Jx4a65c_63 (by decide) rfl ?_
    refine R.iconst (v := 1) dJx4a65c_clear_da8c8_5 rfl ?_
    refine R.iadd dJx4a65c_clear_da8c8_6 ?_
    refine R.putI dJx4a65c_clear_da8c8_7 fl_Jx4a65c_63 (fun q hq => by cases hq; exact Or.inl rfl) (by decide) rfl rfl rfl ?_
    rw [← hM0]
    refine R.aload_n dJx4a65c_clear_da8c8_10 rfl (by first | rfl | exact rfv_rf _) ?_
    refine R.getS (by rw [r0]; exact b) dJx4a65c_clear_da8c8_11 fl_Jx4a65c_9 (by decide) rfl ?_
    refine R.astore_n dJx4a65c_clear_da8c8_14 (by first | rfl | exact rfv_rf _) (Nat.le_of_ble_eq_true rfl) (by decide) (by first | rfl | simp [lft, rf_cat]) rfl ?_
    refine R.aload_n dJx4a65c_clear_da8c8_15 rfl (by first | rfl | exact rfv_rf _) ?_
    refine R.getI dJx4a65c_clear_da8c8_16 fl_Jx4a65c_48 (by decide) rfl ?_
    rw [s0]
    refine R.istore_n dJx4a65c_clear_da8c8_19 (Nat.le_of_ble_eq_true rfl) (by decide) (by first | rfl | simp [lft, rf_cat]) rfl ?_
    refine R.aload_n dJx4a65c_clear_da8c8_20 rfl (by first | rfl | exact rfv_rf _) ?_
    refine R.iconst (v := 0) dJx4a65c_clear_da8c8_21 rfl ?_
    refine R.dup_x1 dJx4a65c_clear_da8c8_22 rfl rfl ?_
    refine R.putI dJx4a65c_clear_da8c8_23 fl_Jx4a65c_48 (fun q hq => by cases hq; exact Or.inl rfl) (by decide) rfl rfl rfl ?_
    refine R.istore_n dJx4a65c_clear_da8c8_26 (Nat.le_of_ble_eq_true rfl) (by decide) (by first | rfl | simp [lft, rf_cat]) rfl ?_
    refine s_clLoop (M := sI M0 33 i 2 0) (n := xs.length) (fun M' f1 f2 f3 f4 f5 => ?_) (by omega) (by show _ ≤ mN M0 16 e; rw [n0]; omega) xs.length 0 _ (by omega) (Fx.rf _ 0 0 _) rfl (fun _ => rfl) rfl (fun _ _ _ _ => rfl)
    refine hq _ ⟨by rw [f3]; exact h0, ?_, ?_, by rw [f3]; exact c, by simp, by rw [f4]; exact hpos, by rw [f4]; exact c3, fun j x hx => by simp at hx⟩ (((F0.sI (Or.inl (Or.inl ⟨rfl, rfl⟩))).tr f1 (fun k j z => Or.inl (Or.inr ⟨z.1, by rw [z.2]⟩))).le (by omega) (by omega)) (fun k => (f3 k).trans (e2 k))
    · rw [f2, mI_sI, if_pos ⟨rfl, rfl, rfl⟩]; rfl
    · rw [f5 33 i 1 (by omega), mR_sI, r0]; exact b
