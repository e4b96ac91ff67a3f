/-! lists that change -/
theorem nI_half (n : Nat) (h : n < 2 ^ 31) : nI n >>> ((1 : Int32) &&& 31) = nI (n / 2) := by
  have k := pk_shrN (n := n) h ((1 : Int32) &&& 31) 1 (by decide)
  rw [Nat.pow_one] at k
  exact k
theorem nI_m1s {n : Nat} (h : 1 ≤ n) : nI n - 1 = nI (n - 1) := nI_sub h
set_option maxHeartbeats 1000000 in
set_option maxRecDepth 4000 in
theorem s_cpO3 {d : Nat} {e c nc : Nat} {M : Mem} {Q : Out → Mem → Prop} (he : e < mC M 16) (hc : mN M 16 e = c) (h2 : c ≤ nc) (h3 : nc ≤ 90) (hel : ∀ j y, j < c → mR M 16 e j = some y → ∀ M2, ElOk M2 y) (hq : Q (.inl (some (.ref (rf 16 (mC M 16))))) (cpR (al M 16 nc nc) e 0 (mC M 16) 0 c)) : WPc (d + 2) mJ7_copyOf_6403c [.ref (rf 16 e), .int (nI nc), .ref (rf 25 0)] M Q := by
  refine WPc.of (by decide +kernel) (Nat.le_of_ble_eq_true rfl) rfl ?_
  refine R.aload_n dJ7_copyOf_6403c_0 rfl (by first | rfl | exact rfv_rf _) ?_
  refine R.ldcM cw_J7_110 dJ7_copyOf_6403c_1 ?_
  refine R.acmpNeS (tgt := 13) (by decide) dJ7_copyOf_6403c_3 (by decide) ?_
  refine R.iload_n dJ7_copyOf_6403c_6 rfl ?_
  refine R.anewarr (k := 16) (N := nc) (by decide) (by decide) rfl cw_J7_2 (by decide) (nI_pos (by omega)) (nI_clamp (by omega)) (by omega) dJ7_copyOf_6403c_7 ?_
  refine R.goto (tgt := 24) dJ7_copyOf_6403c_10 (by decide) ?_
  refine R.astore_n dJ7_copyOf_6403c_24 (by first | rfl | exact rfv_rf _) (Nat.le_of_ble_eq_true rfl) (by decide) (by first | rfl | simp [lft, rf_cat]) rfl ?_
  refine R.aload_n dJ7_copyOf_6403c_25 rfl (by first | rfl | exact rfv_rf _) ?_
  refine R.iconst (v := 0) dJ7_copyOf_6403c_26 rfl ?_
  refine R.aload_n dJ7_copyOf_6403c_27 rfl (by first | rfl | exact rfv_rf _) ?_
  refine R.iconst (v := 0) dJ7_copyOf_6403c_28 rfl ?_
  refine R.aload_n dJ7_copyOf_6403c_29 rfl (by first | rfl | exact rfv_rf _) ?_
  refine R.alen (by decide) (by decide) dJ7_copyOf_6403c_30 ?_
  rw [show mN (al M 16 nc nc) 16 e = c by rw [mN_al, if_neg (by omega)]; exact hc]
  refine R.iload_n dJ7_copyOf_6403c_31 rfl ?_
  refine cl_J7_304 rfl rfl (by first | exact Nat.le_of_ble_eq_true rfl | simp [rf_cat, Value.category]) dJ7_copyOf_6403c_32 ?_
  refine s_min ?_
  rw [show fmin (nI c) (nI nc) = nI c from if_neg (nI_nlt h2 (by omega))]
  refine R.rcopy (v := e) (w := mC M 16) (a := 0) (b := 0) (N := c) dJ7_copyOf_6403c_35 (gt_i 1367 (by decide +kernel) rfl) (by omega) (by omega) (by omega) ?_ ?_ ?_ (by omega) (by first | exact Nat.le_of_ble_eq_true rfl | simp [rf_cat, Value.category]) ?_
  · rw [mN_al, if_neg (by omega)]; omega
  · rw [mN_al, if_pos ⟨rfl, rfl⟩]; omega
  · intro j hj y hy
    rw [mR_al, if_neg (by omega)] at hy
    exact hel _ _ (by omega) hy _
  refine R.aload_n dJ7_copyOf_6403c_38 rfl (by first | rfl | exact rfv_rf _) ?_
  first | refine WP.ret (ov := some (.ref _)) dJ7_copyOf_6403c_39 ⟨rfl, _, rfl, Or.inl ⟨_, rfl⟩⟩ ?_ | refine WP.ret (ov := some (.ref _)) dJ7_copyOf_6403c_39 ⟨rfl, _, rfl, Or.inr ⟨_, rfl⟩⟩ ?_ | refine WP.ret (ov := some .null) dJ7_copyOf_6403c_39 ⟨rfl, _, rfl, Or.inl ⟨_, rfl⟩⟩ ?_
  exact hq
set_option maxHeartbeats 1000000 in
set_option maxRecDepth 4000 in
theorem s_cpO {d : Nat} {e c nc : Nat} {M : Mem} {Q : Out → Mem → Prop} (he : e < mC M 16) (hc : mN M 16 e = c) (h2 : c ≤ nc) (h3 : nc ≤ 90) (hel : ∀ j y, j < c → mR M 16 e j = some y → ∀ M2, ElOk M2 y) (hq : Q (.inl (some (.ref (rf 16 (mC M 16))))) (cpR (al M 16 nc nc) e 0 (mC M 16) 0 c)) : WPc (d + 3) mJ7_copyOf_1904c [.ref (rf 16 e), .int (nI nc)] M Q := by
  refine WPc.of (by decide +kernel) (Nat.le_of_ble_eq_true rfl) rfl ?_
  refine R.aload_n dJ7_copyOf_1904c_0 rfl (by first | rfl | exact rfv_rf _) ?_
  refine R.iload_n dJ7_copyOf_1904c_1 rfl ?_
  refine R.aload_n dJ7_copyOf_1904c_2 rfl (by first | rfl | exact rfv_rf _) ?_
  refine R.getC (gt_i 1333 (by decide +kernel) rfl) (by omega) (by first | exact Nat.le_of_ble_eq_true rfl | simp [rf_cat, Value.category]) dJ7_copyOf_1904c_3 ?_
  refine cl_J7_300 rfl rfl (by first | exact Nat.le_of_ble_eq_true rfl | simp [rf_cat, Value.category]) dJ7_copyOf_1904c_6 ?_
  refine s_cpO3 he hc h2 h3 hel ?_
  first | refine WP.ret (ov := some (.ref _)) dJ7_copyOf_1904c_9 ⟨rfl, _, rfl, Or.inl ⟨_, rfl⟩⟩ ?_ | refine WP.ret (ov := some (.ref _)) dJ7_copyOf_1904c_9 ⟨rfl, _, rfl, Or.inr ⟨_, rfl⟩⟩ ?_ | refine WP.ret (ov := some .null) dJ7_copyOf_1904c_9 ⟨rfl, _, rfl, Or.inl ⟨_, rfl⟩⟩ ?_
  exact hq
/-- what grow leaves: list i has the array t -/
def Gr (M M' : Mem) (i : Nat) (xs : List Nat) (E : Option Nat) (t : Nat) : Prop := t = mC M 16 ∧ i < mC M' 33 ∧ mR M' 33 i 1 = some (rf 16 t) ∧ t < mC M' 16 ∧ xs.length < mN M' 16 t ∧ mN M' 16 t ≤ 90 ∧ (∀ j x, xs[j]? = some x → mR M' 16 t j = some x) ∧ mI M' 33 i = mI M 33 i ∧ Fx (SL i E) 1 90 M M' ∧ ∀ k, k ≠ 16 → mC M' k = mC M k
set_option maxHeartbeats 1000000 in
set_option maxRecDepth 4000 in
theorem s_grow1 {d : Nat} {i : Nat} {xs : List Nat} {E : Option Nat} {M : Mem} {Q : Out → Mem → Prop} (h : Ls M i xs E) (hf : ∀ e, E = some e → mN M 16 e = xs.length) (h60 : xs.length ≤ 60) (hel : ∀ x, x ∈ xs → ∀ M2, ElOk M2 x) (hq : ∀ M' t, Gr M M' i xs E t → Q (.inl (some (.ref (rf 16 t)))) M') : WPc (d + 4) mJx4a65c_grow_92f84 [.ref (rf 33 i), .int (nI (xs.length + 1))] M Q := by
  refine WPc.of (by decide +kernel) (Nat.le_of_ble_eq_true rfl) rfl ?_
  obtain ⟨h0, h1, h2⟩ := h
  cases E with
  | none =>
    obtain ⟨rfl, b⟩ := h2
    refine R.aload_n dJx4a65c_grow_92f84_0 rfl (by first | rfl | exact rfv_rf _) ?_
    refine R.getS (b) dJx4a65c_grow_92f84_1 fl_Jx4a65c_9 (by decide) rfl ?_
    refine R.emptyAlen dJx4a65c_grow_92f84_4 ?_
    refine R.istore_n dJx4a65c_grow_92f84_5 (Nat.le_of_ble_eq_true rfl) (by decide) (by first | rfl | simp [lft, rf_cat]) rfl ?_
    refine R.iload_n dJx4a65c_grow_92f84_6 rfl ?_
    refine R.if_gt (tgt := 20) dJx4a65c_grow_92f84_7 (by decide) (fun c => absurd c (by decide)) (fun _ => ?_)
    refine R.aload_n dJx4a65c_grow_92f84_10 rfl (by first | rfl | exact rfv_rf _) ?_
    refine R.getS (b) dJx4a65c_grow_92f84_11 fl_Jx4a65c_9 (by decide) rfl ?_
    refine R.gsEmpty gs_Jx4a65c_39 dJx4a65c_grow_92f84_14 ?_
    refine R.acmpEqS (tgt := 45) (by decide) dJx4a65c_grow_92f84_17 (by decide) ?_
    refine R.aload_n dJx4a65c_grow_92f84_45 rfl (by first | rfl | exact rfv_rf _) ?_
    refine R.bipush (v := nI 10) dJx4a65c_grow_92f84_46 (by decide) ?_
    refine R.iload_n dJx4a65c_grow_92f84_48 rfl ?_
    refine cl_Jx4a65c_79 rfl rfl (by first | exact Nat.le_of_ble_eq_true rfl | simp [rf_cat, Value.category]) dJx4a65c_grow_92f84_49 ?_
    refine s_max ?_
    rw [show fmax (nI 10) (nI (([] : List Nat).length + 1)) = nI 10 by decide]
    refine R.anewarr (k := 16) (N := 10) (by decide) (by decide) rfl cw_Jx4a65c_7 (by decide) (nI_pos (by omega)) (nI_clamp (by omega)) (by omega) dJx4a65c_grow_92f84_52 ?_
    refine R.dup_x1 dJx4a65c_grow_92f84_55 rfl rfl ?_
    first | refine R.putA dJx4a65c_grow_92f84_56 fl_Jx4a65c_9 (fun q hq => by cases hq; exact Or.inl rfl) rfl ?_ | refine R.putN dJx4a65c_grow_92f84_56 fl_Jx4a65c_9 (fun q hq => by cases hq; exact Or.inl rfl) rfl ?_ | refine R.putR dJx4a65c_grow_92f84_56 fl_Jx4a65c_9 (fun q hq => by cases hq; exact Or.inl rfl) rfl ?_
    first | refine WP.ret (ov := some (.ref _)) dJx4a65c_grow_92f84_59 ⟨rfl, _, rfl, Or.inl ⟨_, rfl⟩⟩ ?_ | refine WP.ret (ov := some (.ref _)) dJx4a65c_grow_92f84_59 ⟨rfl, _, rfl, Or.inr ⟨_, rfl⟩⟩ ?_ | refine WP.ret (ov := some .null) dJx4a65c_grow_92f84_59 ⟨rfl, _, rfl, Or.inl ⟨_, rfl⟩⟩ ?_
    refine hq _ (mC M 16) ⟨rfl, h0, ?_, ?_, ?_, ?_, ?_, rfl, ?_, fun k hk => ?_⟩
    · rw [mR_sR, if_pos ⟨rfl, rfl, rfl⟩]
    · show mC (al M 16 10 10) 16 > _
      rw [mC_al, if_pos rfl]; omega
    · show _ < mN (al M 16 10 10) 16 (mC M 16)
      rw [mN_al, if_pos ⟨rfl, rfl⟩]
      show 0 < 10
      omega
    · show mN (al M 16 10 10) 16 (mC M 16) ≤ 90
      rw [mN_al, if_pos ⟨rfl, rfl⟩]
      omega
    · intro j x hx
      simp at hx
    · exact ((Fx.al (N := 10) (sl := 10) (Fx.rf (SL i none) 0 0 M) (k := 16) (by unfold inG; omega)).le (by omega) (by omega)).sR (Or.inl (Or.inl ⟨rfl, rfl⟩))
    · show mC (al M 16 10 10) k = _
      rw [mC_al, if_neg hk]
  | some e =>
    obtain ⟨b, c, c1, hpos, c3, g⟩ := h2
    have hf := hf e rfl
    have hpos : 0 < xs.length := by omega
    refine R.aload_n dJx4a65c_grow_92f84_0 rfl (by first | rfl | exact rfv_rf _) ?_
    refine R.getS (b) dJx4a65c_grow_92f84_1 fl_Jx4a65c_9 (by decide) rfl ?_
    refine R.alen (by decide) (by decide) dJx4a65c_grow_92f84_4 ?_
    rw [hf]
    refine R.istore_n dJx4a65c_grow_92f84_5 (Nat.le_of_ble_eq_true rfl) (by decide) (by first | rfl | simp [lft, rf_cat]) rfl ?_
    refine R.iload_n dJx4a65c_grow_92f84_6 rfl ?_
    refine R.if_gt (tgt := 20) dJx4a65c_grow_92f84_7 (by decide) (fun _ => ?_) (fun c => absurd (nI_lt (a := 0) hpos (by omega)) c)
    refine R.iload_n dJx4a65c_grow_92f84_20 rfl ?_
    refine R.iload_n dJx4a65c_grow_92f84_21 rfl ?_
    refine R.iload_n dJx4a65c_grow_92f84_22 rfl ?_
    refine R.isub dJx4a65c_grow_92f84_23 ?_
    rw [nI_sub (by omega), show xs.length + 1 - xs.length = 1 by omega]
    refine R.iload_n dJx4a65c_grow_92f84_24 rfl ?_
    refine R.iconst (v := 1) dJx4a65c_grow_92f84_25 rfl ?_
    refine R.ishr dJx4a65c_grow_92f84_26 ?_
    rw [nI_half _ (by omega)]
    refine cl_Jx4a65c_73 rfl rfl (by first | exact Nat.le_of_ble_eq_true rfl | simp [rf_cat, Value.category]) dJx4a65c_grow_92f84_27 ?_
    refine s_newLen (by omega) ⟨by omega, by omega⟩ (by omega) ?_
    obtain ⟨nc, hnc⟩ : ∃ nc, nc = xs.length + max 1 (xs.length / 2) := ⟨_, rfl⟩
    rw [← hnc]
    refine R.istore_n dJx4a65c_grow_92f84_30 (Nat.le_of_ble_eq_true rfl) (by decide) (by first | rfl | simp [lft, rf_cat]) rfl ?_
    refine R.aload_n dJx4a65c_grow_92f84_31 rfl (by first | rfl | exact rfv_rf _) ?_
    refine R.aload_n dJx4a65c_grow_92f84_32 rfl (by first | rfl | exact rfv_rf _) ?_
    refine R.getS (b) dJx4a65c_grow_92f84_33 fl_Jx4a65c_9 (by decide) rfl ?_
    refine R.iload_n dJx4a65c_grow_92f84_36 rfl ?_
    refine cl_Jx4a65c_66 rfl rfl (by first | exact Nat.le_of_ble_eq_true rfl | simp [rf_cat, Value.category]) dJx4a65c_grow_92f84_37 ?_
    refine s_cpO c hf (by omega) (by omega) (fun j y hj hy => ?_) ?_
    · have h1 : xs[j]? = some xs[j] := List.getElem?_eq_getElem hj
      have h2 := g j _ h1
      rw [h2] at hy
      cases hy
      exact hel _ (List.getElem_mem hj)
    refine R.dup_x1 dJx4a65c_grow_92f84_40 rfl rfl ?_
    first | refine R.putA dJx4a65c_grow_92f84_41 fl_Jx4a65c_9 (fun q hq => by cases hq; exact Or.inl rfl) rfl ?_ | refine R.putN dJx4a65c_grow_92f84_41 fl_Jx4a65c_9 (fun q hq => by cases hq; exact Or.inl rfl) rfl ?_ | refine R.putR dJx4a65c_grow_92f84_41 fl_Jx4a65c_9 (fun q hq => by cases hq; exact Or.inl rfl) rfl ?_
    first | refine WP.ret (ov := some (.ref _)) dJx4a65c_grow_92f84_44 ⟨rfl, _, rfl, Or.inl ⟨_, rfl⟩⟩ ?_ | refine WP.ret (ov := some (.ref _)) dJx4a65c_grow_92f84_44 ⟨rfl, _, rfl, Or.inr ⟨_, rfl⟩⟩ ?_ | refine WP.ret (ov := some .null) dJx4a65c_grow_92f84_44 ⟨rfl, _, rfl, Or.inl ⟨_, rfl⟩⟩ ?_
    refine hq _ (mC M 16) ⟨rfl, h0, ?_, ?_, ?_, ?_, ?_, rfl, ?_, fun k hk => ?_⟩
    · rw [mR_sR, if_pos ⟨rfl, rfl, rfl⟩]
    · show mC (al M 16 nc nc) 16 > _
      rw [mC_al, if_pos rfl]; omega
    · show _ < mN (al M 16 nc nc) 16 (mC M 16)
      rw [mN_al, if_pos ⟨rfl, rfl⟩]
      omega
    · show mN (al M 16 nc nc) 16 (mC M 16) ≤ 90
      rw [mN_al, if_pos ⟨rfl, rfl⟩]
      omega
    · intro j x hx
      have hj := (List.getElem?_eq_some_iff.mp hx).1
      rw [mR_sR, if_neg (by omega), mR_cpR, if_pos ⟨rfl, rfl, by omega, by omega⟩, mR_al, if_neg (by omega)]
      rw [show 0 + (j - 0) = j by omega]
      exact g j x hx
    · exact (((Fx.al (N := nc) (sl := nc) (Fx.rf (SL i (some e)) 0 0 M) (k := 16) (by unfold inG; omega)).le (by omega) (by omega)).cpR (Or.inr (Nat.le_refl _))).sR (Or.inl (Or.inl ⟨rfl, rfl⟩))
    · show mC (al M 16 nc nc) k = _
      rw [mC_al, if_neg hk]
set_option maxHeartbeats 1000000 in
set_option maxRecDepth 4000 in
theorem s_grow {d : Nat} {i : Nat} {xs : List Nat} {E : Option Nat} {M : Mem} {Q : Out → Mem → Prop} (h : Ls M i xs E) (hf : ∀ e, E = some e → mN M 16 e = xs.length) (h60 : xs.length ≤ 60) (hel : ∀ x, x ∈ xs → ∀ M2, ElOk M2 x) (hq : ∀ M' t, Gr M M' i xs E t → Q (.inl (some (.ref (rf 16 t)))) M') : WPc (d + 5) mJx4a65c_grow_d5877 [.ref (rf 33 i)] M Q := by
  refine WPc.of (by decide +kernel) (Nat.le_of_ble_eq_true rfl) rfl ?_
  refine R.aload_n dJx4a65c_grow_d5877_0 rfl (by first | rfl | exact rfv_rf _) ?_
  refine R.aload_n dJx4a65c_grow_d5877_1 rfl (by first | rfl | exact rfv_rf _) ?_
  refine R.getI dJx4a65c_grow_d5877_2 fl_Jx4a65c_48 (by decide) rfl ?_
  rw [h.2.1]
  refine R.iconst (v := 1) dJx4a65c_grow_d5877_5 rfl ?_
  refine R.iadd dJx4a65c_grow_d5877_6 ?_
  rw [show nI xs.length + 1 = nI (xs.length + 1) from inc_nI _]
  refine cl_Jx4a65c_69 rfl rfl (by first | exact Nat.le_of_ble_eq_true rfl | simp [rf_cat, Value.category]) dJx4a65c_grow_d5877_7 ?_
  refine s_grow1 h hf h60 hel (fun M' t hg => ?_)
  first | refine WP.ret (ov := some (.ref _)) dJx4a65c_grow_d5877_10 ⟨rfl, _, rfl, Or.inl ⟨_, rfl⟩⟩ ?_ | refine WP.ret (ov := some (.ref _)) dJx4a65c_grow_d5877_10 ⟨rfl, _, rfl, Or.inr ⟨_, rfl⟩⟩ ?_ | refine WP.ret (ov := some .null) dJx4a65c_grow_d5877_10 ⟨rfl, _, rfl, Or.inl ⟨_, rfl⟩⟩ ?_
  exact hq _ _ hg
/-- list i after an element more -/
def Ad (M M' : Mem) (i a : Nat) (xs : List Nat) (E E' : Option Nat) : Prop := Ls M' i (xs ++ [a]) E' ∧ Fx (SL i E) 1 90 M M' ∧ (E' = E ∨ E' = some (mC M 16)) ∧ ∀ k, k ≠ 16 → mC M' k = mC M k
theorem Ad.of {M M1 : Mem} {i a e : Nat} {xs : List Nat} {E : Option Nat} (h0 : i < mC M1 33) (b : mR M1 33 i 1 = some (rf 16 e)) (c : e < mC M1 16) (c1 : xs.length < mN M1 16 e) (c2 : mN M1 16 e ≤ 90) (g : ∀ j x, xs[j]? = some x → mR M1 16 e j = some x) (hF : Fx (SL i E) 1 90 M M1) (hE : E = some e ∨ (mC M 16 ≤ e ∧ e = mC M 16)) (hC : ∀ k, k ≠ 16 → mC M1 k = mC M k) : Ad M (sI (sR M1 16 e xs.length (some a)) 33 i 2 (nI (xs.length + 1))) i a xs E (some e) := by
  refine ⟨⟨h0, ?_, ?_, c, ?_, by show 0 < mN M1 16 e; omega, c2, fun j x hx => ?_⟩, (hF.sR ?_).sI (Or.inl (Or.inl ⟨rfl, rfl⟩)), ?_, fun k hk => hC k hk⟩
  · rw [mI_sI, if_pos ⟨rfl, rfl, rfl⟩, List.length_append]; rfl
  · rw [mR_sI, mR_sR, if_neg (by omega)]; exact b
  · rw [List.length_append]; show xs.length + 1 ≤ mN M1 16 e; omega
  · rw [mR_sI, mR_sR]
    by_cases hj : j = xs.length
    · subst hj
      rw [if_pos ⟨rfl, rfl, rfl⟩]
      simpa using hx
    · rw [if_neg (fun z => hj z.2.2)]
      refine g j x ?_
      have hl := (List.getElem?_eq_some_iff.mp hx).1
      rw [List.length_append] at hl
      rw [List.getElem?_append_left (by simp at hl; omega)] at hx
      exact hx
  · rcases hE with z | z
    · exact Or.inl (Or.inr ⟨rfl, z⟩)
    · exact Or.inr ⟨by unfold inG; omega, z.1⟩
  · rcases hE with z | z
    · exact Or.inl z.symm
    · exact Or.inr (by rw [z.2])
set_option maxHeartbeats 1000000 in
set_option maxRecDepth 4000 in
theorem s_alAdd3 {d : Nat} {i : Nat} {xs : List Nat} {E : Option Nat} {a b0 : Nat} {M : Mem} {Q : Out → Mem → Prop} (h : Ls M i xs E) (h60 : xs.length ≤ 60) (hel : ∀ x, x ∈ xs → ∀ M2, ElOk M2 x) (hel9 : ∀ M2, ElOk M2 a) (hv : mR M 33 i 1 = some b0) (hq : ∀ M' E', Ad M M' i a xs E E' → Q (.inl none) M') : WPc (d + 6) mJx4a65c_add_72be8 [.ref (rf 33 i), .ref a, .ref b0, .int (nI xs.length)] M Q := by
  refine WPc.of (by decide +kernel) (Nat.le_of_ble_eq_true rfl) rfl ?_
  have hl := h.len
  have h' := h
  obtain ⟨h0, h1, h2⟩ := h'
  cases E with
  | none =>
    obtain ⟨rfl, b⟩ := h2
    cases hv.symm.trans b
    refine R.iload_n dJx4a65c_add_72be8_0 rfl ?_
    refine R.aload_n dJx4a65c_add_72be8_1 rfl (by first | rfl | exact rfv_rf _) ?_
    refine R.emptyAlen dJx4a65c_add_72be8_2 ?_
    refine R.icmp_ne (tgt := 11) dJx4a65c_add_72be8_3 (by decide) (fun c => absurd rfl c) (fun _ => ?_)
    refine R.aload_n dJx4a65c_add_72be8_6 rfl (by first | rfl | exact rfv_rf _) ?_
    refine cl_Jx4a65c_129 rfl rfl (by first | exact Nat.le_of_ble_eq_true rfl | simp [rf_cat, Value.category]) dJx4a65c_add_72be8_7 ?_
    refine s_grow h (fun e9 z => ?_) h60 hel (fun M1 t hg => ?_)
    · cases z
    obtain ⟨ht, g0, g1, g2, g3, g4, g5, g6, g7, g8⟩ := hg
    refine R.astore_n dJx4a65c_add_72be8_10 (by first | rfl | exact rfv_rf _) (Nat.le_of_ble_eq_true rfl) (by decide) (by first | rfl | simp [lft, rf_cat]) rfl ?_
    refine R.aload_n dJx4a65c_add_72be8_11 rfl (by first | rfl | exact rfv_rf _) ?_
    refine R.iload_n dJx4a65c_add_72be8_12 rfl ?_
    refine R.aload_n dJx4a65c_add_72be8_13 rfl (by first | rfl | exact rfv_rf _) ?_
    refine R.aastO (hel9 _) dJx4a65c_add_72be8_14 (nI_pos (by omega)) (by rw [nI_clamp (by omega)]; omega) ?_
    rw [nI_clamp (by omega)]
    refine R.aload_n dJx4a65c_add_72be8_15 rfl (by first | rfl | exact rfv_rf _) ?_
    refine R.iload_n dJx4a65c_add_72be8_16 rfl ?_
    refine R.iconst (v := 1) dJx4a65c_add_72be8_17 rfl ?_
    refine R.iadd dJx4a65c_add_72be8_18 ?_
    rw [show nI ([] : List Nat).length + 1 = nI (([] : List Nat).length + 1) from inc_nI _]
    refine R.putI dJx4a65c_add_72be8_19 fl_Jx4a65c_48 (fun q hq => by cases hq; exact Or.inl rfl) (by decide) rfl rfl rfl ?_
    refine WP.ret (ov := none) dJx4a65c_add_72be8_22 ⟨rfl, rfl⟩ ?_
    exact hq _ _ (Ad.of g0 g1 g2 g3 g4 g5 g7 (Or.inr ⟨by omega, ht⟩) g8)
  | some e =>
    obtain ⟨b, c, c1, hpos, c3, g⟩ := h2
    cases hv.symm.trans b
    by_cases full : xs.length = mN M 16 e
    · skip
      refine R.iload_n dJx4a65c_add_72be8_0 rfl ?_
      refine R.aload_n dJx4a65c_add_72be8_1 rfl (by first | rfl | exact rfv_rf _) ?_
      refine R.alen (by decide) (by decide) dJx4a65c_add_72be8_2 ?_
      refine R.icmp_ne (tgt := 11) dJx4a65c_add_72be8_3 (by decide) (fun c => absurd (by rw [full]) c) (fun _ => ?_)
      refine R.aload_n dJx4a65c_add_72be8_6 rfl (by first | rfl | exact rfv_rf _) ?_
      refine cl_Jx4a65c_129 rfl rfl (by first | exact Nat.le_of_ble_eq_true rfl | simp [rf_cat, Value.category]) dJx4a65c_add_72be8_7 ?_
      refine s_grow h (fun e9 z => ?_) h60 hel (fun M1 t hg => ?_)
      · cases z; exact full.symm
      obtain ⟨ht, g0, g1, g2, g3, g4, g5, g6, g7, g8⟩ := hg
      refine R.astore_n dJx4a65c_add_72be8_10 (by first | rfl | exact rfv_rf _) (Nat.le_of_ble_eq_true rfl) (by decide) (by first | rfl | simp [lft, rf_cat]) rfl ?_
      refine R.aload_n dJx4a65c_add_72be8_11 rfl (by first | rfl | exact rfv_rf _) ?_
      refine R.iload_n dJx4a65c_add_72be8_12 rfl ?_
      refine R.aload_n dJx4a65c_add_72be8_13 rfl (by first | rfl | exact rfv_rf _) ?_
      refine R.aastO (hel9 _) dJx4a65c_add_72be8_14 (nI_pos (by omega)) (by rw [nI_clamp (by omega)]; omega) ?_
      rw [nI_clamp (by omega)]
      refine R.aload_n dJx4a65c_add_72be8_15 rfl (by first | rfl | exact rfv_rf _) ?_
      refine R.iload_n dJx4a65c_add_72be8_16 rfl ?_
      refine R.iconst (v := 1) dJx4a65c_add_72be8_17 rfl ?_
      refine R.iadd dJx4a65c_add_72be8_18 ?_
      rw [show nI xs.length + 1 = nI (xs.length + 1) from inc_nI _]
      refine R.putI dJx4a65c_add_72be8_19 fl_Jx4a65c_48 (fun q hq => by cases hq; exact Or.inl rfl) (by decide) rfl rfl rfl ?_
      refine WP.ret (ov := none) dJx4a65c_add_72be8_22 ⟨rfl, rfl⟩ ?_
      exact hq _ _ (Ad.of g0 g1 g2 g3 g4 g5 g7 (Or.inr ⟨by omega, ht⟩) g8)
    · skip
      refine R.iload_n dJx4a65c_add_72be8_0 rfl ?_
      refine R.aload_n dJx4a65c_add_72be8_1 rfl (by first | rfl | exact rfv_rf _) ?_
      refine R.alen (by decide) (by decide) dJx4a65c_add_72be8_2 ?_
      refine R.icmp_ne (tgt := 11) dJx4a65c_add_72be8_3 (by decide) (fun _ => ?_) (fun c => absurd ((nI_inj (by omega) (by omega)).mp c) (by omega))
      refine R.aload_n dJx4a65c_add_72be8_11 rfl (by first | rfl | exact rfv_rf _) ?_
      refine R.iload_n dJx4a65c_add_72be8_12 rfl ?_
      refine R.aload_n dJx4a65c_add_72be8_13 rfl (by first | rfl | exact rfv_rf _) ?_
      refine R.aastO (hel9 _) dJx4a65c_add_72be8_14 (nI_pos (by omega)) (by rw [nI_clamp (by omega)]; omega) ?_
      rw [nI_clamp (by omega)]
      refine R.aload_n dJx4a65c_add_72be8_15 rfl (by first | rfl | exact rfv_rf _) ?_
      refine R.iload_n dJx4a65c_add_72be8_16 rfl ?_
      refine R.iconst (v := 1) dJx4a65c_add_72be8_17 rfl ?_
      refine R.iadd dJx4a65c_add_72be8_18 ?_
      rw [show nI xs.length + 1 = nI (xs.length + 1) from inc_nI _]
      refine R.putI dJx4a65c_add_72be8_19 fl_Jx4a65c_48 (fun q hq => by cases hq; exact Or.inl rfl) (by decide) rfl rfl rfl ?_
      refine WP.ret (ov := none) dJx4a65c_add_72be8_22 ⟨rfl, rfl⟩ ?_
      exact hq _ _ (Ad.of h0 b c (by omega) c3 g (Fx.rf _ 1 90 M) (Or.inl rfl) (fun _ _ => rfl))
set_option maxHeartbeats 1000000 in
set_option maxRecDepth 4000 in
theorem s_alAdd {d : Nat} {i : Nat} {xs : List Nat} {E : Option Nat} {a : Nat} {M : Mem} {Q : Out → Mem → Prop} (h : Ls M i xs E) (h60 : xs.length ≤ 60) (hel : ∀ x, x ∈ xs → ∀ M2, ElOk M2 x) (hel9 : ∀ M2, ElOk M2 a) (hq : ∀ M' E', Ad M M' i a xs E E' → Q (.inl (some (.int 1))) M') : WPc (d + 7) mJx4a65c_add_9ea2d [.ref (rf 33 i), .ref a] M Q := by
  refine WPc.of (by decide +kernel) (Nat.le_of_ble_eq_true rfl) rfl ?_
  obtain ⟨v, hv⟩ : ∃ v, mR M 33 i 1 = some v := by
    obtain ⟨-, -, h2⟩ := h
    cases E with
    | none => exact ⟨_, h2.2⟩
    | some e => exact ⟨_, h2.1⟩
  obtain ⟨M0, hM0⟩ : ∃ M0, M0 = sI M 33 i 0 (mI M 33 i 0 + 1) := ⟨_, rfl⟩
  have F0 : Fx (SL i E) 0 0 M M0 := by rw [hM0]; exact (Fx.rf _ 0 0 M).sI (Or.inl (Or.inl ⟨rfl, rfl⟩))
  have L0 : Ls M0 i xs E := by
    obtain ⟨h0, h1, h2⟩ := h
    rw [hM0]
    refine ⟨h0, by rw [mI_sI, if_neg (by omega)]; exact h1, ?_⟩
    cases E with
    | none => exact h2
    | some e => exact h2
  have e1 : mR M0 = mR M := by rw [hM0]; rfl
  have e2 : ∀ k, mC M0 k = mC M k := fun k => by rw [hM0]; rfl
  refine R.aload_n dJx4a65c_add_9ea2d_0 rfl (by first | rfl | exact rfv_rf _) ?_
  refine R.dup dJx4a65c_add_9ea2d_1 (by first | rfl | exact rf_cat _) ?_
  refine R.getI dJx4a65c_add_9ea2d_2 fl_Jx4a65c_63 (by decide) rfl ?_
  refine R.iconst (v := 1) dJx4a65c_add_9ea2d_5 rfl ?_
  refine R.iadd dJx4a65c_add_9ea2d_6 ?_
  refine R.putI dJx4a65c_add_9ea2d_7 fl_Jx4a65c_63 (fun q hq => by cases hq; exact Or.inl rfl) (by decide) rfl rfl rfl ?_
  rw [← hM0]
  refine R.aload_n dJx4a65c_add_9ea2d_10 rfl (by first | rfl | exact rfv_rf _) ?_
  refine R.aload_n dJx4a65c_add_9ea2d_11 rfl (by first | rfl | exact rfv_rf _) ?_
  refine R.aload_n dJx4a65c_add_9ea2d_12 rfl (by first | rfl | exact rfv_rf _) ?_
  refine R.getS (by rw [e1]; exact hv) dJx4a65c_add_9ea2d_13 fl_Jx4a65c_9 (by decide) rfl ?_
  refine R.aload_n dJx4a65c_add_9ea2d_16 rfl (by first | rfl | exact rfv_rf _) ?_
  refine R.getI dJx4a65c_add_9ea2d_17 fl_Jx4a65c_48 (by decide) rfl ?_
  rw [L0.2.1]
  refine cl_Jx4a65c_131 rfl rfl (by first | exact Nat.le_of_ble_eq_true rfl | simp [rf_cat, Value.category]) dJx4a65c_add_9ea2d_20 ?_
  refine s_alAdd3 L0 h60 hel hel9 (by rw [e1]; exact hv) (fun M1 E1 hA => ?_)
  refine R.iconst (v := 1) dJx4a65c_add_9ea2d_23 rfl ?_
  refine WP.ret (ov := some (.int _)) dJx4a65c_add_9ea2d_24 ⟨rfl, _, rfl, by first | rfl | assumption | exact nar_b01 (by assumption)⟩ ?_
  refine hq _ _ ⟨hA.1, (F0.tr hA.2.1 (fun _ _ z => Or.inl z)).le (by omega) (by omega), ?_, fun k hk => (hA.2.2.2 k hk).trans (e2 k)⟩
  rcases hA.2.2.1 with z | z
  · exact Or.inl z
  · exact Or.inr (by rw [z, e2])
