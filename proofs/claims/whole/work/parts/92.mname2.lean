/-! the model's names -/
theorem pk_ext {b b' : Nat → Int32} : ∀ f s s', (∀ j, j < f → b (s + j) = b' (s' + j)) → pk b f s = pk b' f s' := by
  intro f
  induction f with
  | zero => intro s s' _; rfl
  | succ f ih =>
    intro s s' h
    rw [pk, pk, show b s = b' s' from h 0 (by omega), ih (s + 1) (s' + 1) (fun j hj => by rw [show s + 1 + j = s + (j + 1) by omega, show s' + 1 + j = s' + (j + 1) by omega]; exact h (j + 1) (by omega))]
theorem isL_in {x y : Int32} (hx : isL x) (hy : isL y) (h : lt x = lt y) : x = y := by
  rw [(lt_of hx).1, (lt_of hy).1, h]
theorem lt_32 {x : Int32} (h : isL x) : lt x < 32 := by
  have := (lt_of h).2.2
  omega
/-- two names are one -/
theorem NW.iff {x : Int32} {w b : Nat → Int32} {a s e : Nat} (h : NW x w a) (hse : s < e) (he : e - s ≤ 6) (hl : ∀ i, s ≤ i → i < e → isL (b i)) : x = nmF b s e ↔ (w a = nI (e - s) ∧ ∀ j, j < e - s → w (a + 1 + j) = b (s + j)) := by
  obtain ⟨L, h1, h2, h3, h4, h5, h6⟩ := h
  rw [nmF_pk he (by omega) hl, h4]
  have hp : ∀ (f : Nat) (g : Nat → Int32) (t : Nat), f ≤ 6 → (∀ i, i < f → isL (g (t + i))) → pk g f t < 2 ^ 31 := fun f g t hf hg => Nat.lt_of_lt_of_le (pk_b f t (fun i hi => lt_32 (hg i hi))) (Nat.le_trans (Nat.pow_le_pow_right (by decide) hf) (by decide))
  have d1 : ∀ i, i < L → isL ((fun j => w (a + 1 + j)) (0 + i)) := fun i hi => by rw [Nat.zero_add]; exact h5 i hi
  have d2 : ∀ i, i < e - s → isL (b (s + i)) := fun i hi => hl _ (by omega) (by omega)
  rw [nI_inj (hp L _ 0 h2 d1) (hp (e - s) b s he d2)]
  constructor
  · intro q
    have dg : ∀ j, (if j < L then lt (w (a + 1 + j)) else 0) = if j < e - s then lt (b (s + j)) else 0 := fun j => by
      have q1 := pk_dig (b := fun j => w (a + 1 + j)) L 0 j (fun i hi => lt_32 (d1 i hi))
      have q2 := pk_dig (b := b) (e - s) s j (fun i hi => lt_32 (d2 i hi))
      rw [q, q2] at q1
      simp only [Nat.zero_add] at q1
      exact q1.symm
    have eL : L = e - s := by
      apply Decidable.byContradiction
      intro z
      by_cases y : L < e - s
      · have := dg L
        rw [if_neg (by omega), if_pos y] at this
        have := (lt_of (d2 L y)).2.1
        omega
      · have := dg (e - s)
        rw [if_pos (by omega), if_neg (by omega)] at this
        have := (lt_of (h5 (e - s) (by omega))).2.1
        omega
    refine ⟨by rw [h3, eL], fun j hj => ?_⟩
    have := dg j
    rw [if_pos (by omega), if_pos hj] at this
    exact isL_in (h5 j (by omega)) (d2 j hj) this
  · rintro ⟨q1, q2⟩
    have eL : L = e - s := by
      rw [h3] at q1
      exact (nI_inj (by omega) (by omega)).mp q1
    subst eL
    exact pk_ext _ _ _ fun j hj => by
      show w (a + 1 + (0 + j)) = _
      rw [Nat.zero_add]; exact q2 j hj
theorem nm_pos {b : Nat → Int32} {n e : Nat} (hc : nnC b n e = 0) : ¬ nmF b (tS b n e) (tE b n e) = 0 := by
  obtain ⟨k1, k2⟩ := nn_z hc
  obtain ⟨t1, t2, t3⟩ := tok_w k1
  rw [nmF_pk k2 (by omega) t1]
  obtain ⟨f, ef⟩ : ∃ f, tE b n e - tS b n e = f + 1 := ⟨tE b n e - tS b n e - 1, by omega⟩
  have hp := pk_b (b := b) (tE b n e - tS b n e) (tS b n e) (fun i hi => lt_32 (t1 _ (by omega) (by omega)))
  have hq : (32 : Nat) ^ (tE b n e - tS b n e) ≤ 2 ^ 30 := Nat.le_trans (Nat.pow_le_pow_right (by decide) k2) (by decide)
  refine nI_ne0 ?_ (by omega)
  rw [ef, pk]
  have := (lt_of (t1 (tS b n e) (Nat.le_refl _) t2)).2.1
  omega
set_option maxHeartbeats 2000000 in
set_option maxRecDepth 4000 in
theorem p_nmAt {d n e : Nat} {b w N : Nat → Int32} {RR : OR9} {M0 M : Mem} {Q : Out → Mem → Prop} {a : Nat} {x : Int32} (h : PQ M0 M b n e w N RR) (ha : a + 7 ≤ 370) (hW : NW x w a) (hc : nnC b n e = 0) (hq : Q (.inl (some (.int (if x = nmF b (tS b n e) (tE b n e) then 1 else 0)))) M) : WPc d mX13_isNameAt [.ref (rf 11 0), .int (nI a)] M Q := by
  refine WPc.of (by decide +kernel) (Nat.le_of_ble_eq_true rfl) rfl ?_
  obtain ⟨k1, k2⟩ := nn_z hc
  obtain ⟨t1, t2, t3⟩ := tok_w k1
  have hX := hW.iff (b := b) t2 k2 t1
  have hn6 := h.n6
  have hen := tE_le (b := b) h.en
  by_cases c1 : w a = nI (tE b n e - tS b n e)
  · have key : ∀ (f i : Nat), i + f = tE b n e - tS b n e → (∀ j, j < i → w (a + 1 + j) = b (tS b n e + j)) → WP mX13_isNameAt d 24 [.ref (rf 11 0), .int (nI a), .int (nI i)] [] M Q := by
      intro f
      induction f with
      | zero =>
        intro i hi hs
        have ei : i = tE b n e - tS b n e := by omega
        subst ei
        rw [if_pos (hX.mpr ⟨c1, hs⟩)] at hq
        refine R.iload_n dX13_isNameAt_24 rfl ?_
        refine R.aload_n dX13_isNameAt_25 rfl (by first | rfl | exact rfv_rf _) ?_
        refine R.getI dX13_isNameAt_26 fl_X13_194 (by decide) rfl ?_
        rw [h.t.2.1]
        refine R.aload_n dX13_isNameAt_29 rfl (by first | rfl | exact rfv_rf _) ?_
        refine R.getI dX13_isNameAt_30 fl_X13_197 (by decide) rfl ?_
        rw [h.t.1]
        refine R.isub dX13_isNameAt_33 ?_
        rw [nI_sub tS_tE]
        refine R.geT (tgt := 69) (Int32.le_refl _) dX13_isNameAt_34 (by decide) ?_
        refine R.iconst (v := 1) dX13_isNameAt_69 rfl ?_
        refine WP.ret (ov := some (.int _)) dX13_isNameAt_70 ⟨rfl, _, rfl, by first | rfl | assumption | exact nar_b01 (by assumption)⟩ ?_
        exact hq
      | succ f ih =>
        intro i hi hs
        have hil : i < tE b n e - tS b n e := by omega
        have eb : mI M 14 5 (tS b n e + i) = b (tS b n e + i) := (ub_b h.i (Or.inl (kp_w k1 (by omega) (by omega)))).2
        by_cases ce : w (a + 1 + i) = b (tS b n e + i)
        · skip
          refine R.iload_n dX13_isNameAt_24 rfl ?_
          refine R.aload_n dX13_isNameAt_25 rfl (by first | rfl | exact rfv_rf _) ?_
          refine R.getI dX13_isNameAt_26 fl_X13_194 (by decide) rfl ?_
          rw [h.t.2.1]
          refine R.aload_n dX13_isNameAt_29 rfl (by first | rfl | exact rfv_rf _) ?_
          refine R.getI dX13_isNameAt_30 fl_X13_197 (by decide) rfl ?_
          rw [h.t.1]
          refine R.isub dX13_isNameAt_33 ?_
          rw [nI_sub tS_tE]
          refine R.geF (tgt := 69) (nI_ge hil (by omega)) dX13_isNameAt_34 (by decide) ?_
          refine R.aload_n dX13_isNameAt_37 rfl (by first | rfl | exact rfv_rf _) ?_
          refine R.getS (h.l.w) dX13_isNameAt_38 fl_X13_7 (by decide) rfl ?_
          refine R.iload_n dX13_isNameAt_41 rfl ?_
          refine R.iconst (v := nI 1) dX13_isNameAt_42 rfl ?_
          refine R.iadd dX13_isNameAt_43 ?_
          rw [nI_add9]
          refine R.iload_n dX13_isNameAt_44 rfl ?_
          refine R.iadd dX13_isNameAt_45 ?_
          rw [nI_add9]
          refine R.ialdN (k := a + 1 + i) dX13_isNameAt_46 (by omega) (by rw [h.l.n]; omega) ?_
          rw [h.w]
          refine R.aload_n dX13_isNameAt_47 rfl (by first | rfl | exact rfv_rf _) ?_
          refine R.getS (h.l.1.2.2.2.2.2.1) dX13_isNameAt_48 fl_X13_25 (by decide) rfl ?_
          refine R.aload_n dX13_isNameAt_51 rfl (by first | rfl | exact rfv_rf _) ?_
          refine R.getI dX13_isNameAt_52 fl_X13_197 (by decide) rfl ?_
          rw [h.t.1]
          refine R.iload_n dX13_isNameAt_55 rfl ?_
          refine R.iadd dX13_isNameAt_56 ?_
          rw [nI_add9]
          refine R.ialdN (k := tS b n e + i) dX13_isNameAt_57 (by omega) (by rw [h.l.2.2.2.2.2.2.1]; omega) ?_
          rw [eb]
          refine R.icmp_eq (tgt := 63) dX13_isNameAt_58 (by decide) (fun _ => ?_) (fun c9 => absurd (ce) c9)
          refine R.iinc dX13_isNameAt_63 (Nat.le_of_ble_eq_true rfl) (by decide) (by first | rfl | simp [lft, rf_cat]) rfl (inc_nI _) rfl ?_
          refine R.goto (tgt := 24) dX13_isNameAt_66 (by decide) ?_
          exact ih (i + 1) (by omega) (fun j hj => if z : j = i then by rw [z]; exact ce else hs j (by omega))
        · skip
          refine R.iload_n dX13_isNameAt_24 rfl ?_
          refine R.aload_n dX13_isNameAt_25 rfl (by first | rfl | exact rfv_rf _) ?_
          refine R.getI dX13_isNameAt_26 fl_X13_194 (by decide) rfl ?_
          rw [h.t.2.1]
          refine R.aload_n dX13_isNameAt_29 rfl (by first | rfl | exact rfv_rf _) ?_
          refine R.getI dX13_isNameAt_30 fl_X13_197 (by decide) rfl ?_
          rw [h.t.1]
          refine R.isub dX13_isNameAt_33 ?_
          rw [nI_sub tS_tE]
          refine R.geF (tgt := 69) (nI_ge hil (by omega)) dX13_isNameAt_34 (by decide) ?_
          refine R.aload_n dX13_isNameAt_37 rfl (by first | rfl | exact rfv_rf _) ?_
          refine R.getS (h.l.w) dX13_isNameAt_38 fl_X13_7 (by decide) rfl ?_
          refine R.iload_n dX13_isNameAt_41 rfl ?_
          refine R.iconst (v := nI 1) dX13_isNameAt_42 rfl ?_
          refine R.iadd dX13_isNameAt_43 ?_
          rw [nI_add9]
          refine R.iload_n dX13_isNameAt_44 rfl ?_
          refine R.iadd dX13_isNameAt_45 ?_
          rw [nI_add9]
          refine R.ialdN (k := a + 1 + i) dX13_isNameAt_46 (by omega) (by rw [h.l.n]; omega) ?_
          rw [h.w]
          refine R.aload_n dX13_isNameAt_47 rfl (by first | rfl | exact rfv_rf _) ?_
          refine R.getS (h.l.1.2.2.2.2.2.1) dX13_isNameAt_48 fl_X13_25 (by decide) rfl ?_
          refine R.aload_n dX13_isNameAt_51 rfl (by first | rfl | exact rfv_rf _) ?_
          refine R.getI dX13_isNameAt_52 fl_X13_197 (by decide) rfl ?_
          rw [h.t.1]
          refine R.iload_n dX13_isNameAt_55 rfl ?_
          refine R.iadd dX13_isNameAt_56 ?_
          rw [nI_add9]
          refine R.ialdN (k := tS b n e + i) dX13_isNameAt_57 (by omega) (by rw [h.l.2.2.2.2.2.2.1]; omega) ?_
          rw [eb]
          refine R.icmp_eq (tgt := 63) dX13_isNameAt_58 (by decide) (fun c9 => absurd c9 (ce)) (fun _ => ?_)
          refine R.iconst (v := 0) dX13_isNameAt_61 rfl ?_
          refine WP.ret (ov := some (.int _)) dX13_isNameAt_62 ⟨rfl, _, rfl, by first | rfl | assumption | exact nar_b01 (by assumption)⟩ ?_
          rw [if_neg (fun q => ce (hX.mp q |>.2 i hil))] at hq
          exact hq
    refine R.aload_n dX13_isNameAt_0 rfl (by first | rfl | exact rfv_rf _) ?_
    refine R.getS (h.l.w) dX13_isNameAt_1 fl_X13_7 (by decide) rfl ?_
    refine R.iload_n dX13_isNameAt_4 rfl ?_
    refine R.iconst (v := nI 0) dX13_isNameAt_5 rfl ?_
    refine R.iadd dX13_isNameAt_6 ?_
    rw [nI_add9, Nat.add_zero]
    refine R.ialdN (k := a) dX13_isNameAt_7 (by omega) (by rw [h.l.n]; omega) ?_
    rw [h.w]
    refine R.aload_n dX13_isNameAt_8 rfl (by first | rfl | exact rfv_rf _) ?_
    refine R.getI dX13_isNameAt_9 fl_X13_194 (by decide) rfl ?_
    rw [h.t.2.1]
    refine R.aload_n dX13_isNameAt_12 rfl (by first | rfl | exact rfv_rf _) ?_
    refine R.getI dX13_isNameAt_13 fl_X13_197 (by decide) rfl ?_
    rw [h.t.1]
    refine R.isub dX13_isNameAt_16 ?_
    rw [nI_sub tS_tE]
    refine R.icmp_eq (tgt := 22) dX13_isNameAt_17 (by decide) (fun _ => ?_) (fun c9 => absurd (c1) c9)
    refine R.iconst (v := nI 0) dX13_isNameAt_22 rfl ?_
    refine R.istore_n dX13_isNameAt_23 (Nat.le_of_ble_eq_true rfl) (by decide) (by first | rfl | simp [lft, rf_cat]) rfl ?_
    exact key (tE b n e - tS b n e) 0 (by omega) (fun j hj => absurd hj (Nat.not_lt_zero j))
  · rw [if_neg (fun q => c1 (hX.mp q).1)] at hq
    refine R.aload_n dX13_isNameAt_0 rfl (by first | rfl | exact rfv_rf _) ?_
    refine R.getS (h.l.w) dX13_isNameAt_1 fl_X13_7 (by decide) rfl ?_
    refine R.iload_n dX13_isNameAt_4 rfl ?_
    refine R.iconst (v := nI 0) dX13_isNameAt_5 rfl ?_
    refine R.iadd dX13_isNameAt_6 ?_
    rw [nI_add9, Nat.add_zero]
    refine R.ialdN (k := a) dX13_isNameAt_7 (by omega) (by rw [h.l.n]; omega) ?_
    rw [h.w]
    refine R.aload_n dX13_isNameAt_8 rfl (by first | rfl | exact rfv_rf _) ?_
    refine R.getI dX13_isNameAt_9 fl_X13_194 (by decide) rfl ?_
    rw [h.t.2.1]
    refine R.aload_n dX13_isNameAt_12 rfl (by first | rfl | exact rfv_rf _) ?_
    refine R.getI dX13_isNameAt_13 fl_X13_197 (by decide) rfl ?_
    rw [h.t.1]
    refine R.isub dX13_isNameAt_16 ?_
    rw [nI_sub tS_tE]
    refine R.icmp_eq (tgt := 22) dX13_isNameAt_17 (by decide) (fun c9 => absurd c9 (c1)) (fun _ => ?_)
    refine R.iconst (v := 0) dX13_isNameAt_20 rfl ?_
    refine WP.ret (ov := some (.int _)) dX13_isNameAt_21 ⟨rfl, _, rfl, by first | rfl | assumption | exact nar_b01 (by assumption)⟩ ?_
    exact hq
theorem wi_c0 (c : Nat) : (16 : Int32) + 18 * nI c = nI (16 + 18 * c) := by
  unfold nI
  rw [Int32.ofNat_add, Int32.ofNat_mul]
  rfl
theorem wi_b0 (c : Nat) : (304 : Int32) + 11 * nI c = nI (304 + 11 * c) := by
  unfold nI
  rw [Int32.ofNat_add, Int32.ofNat_mul]
  rfl
theorem cnF_z {Y : Yd} {x : Int32} : ∀ (n i : Nat), (∀ j, i ≤ j → j < i + n → ¬ yC Y j 1 = x) → cnF Y x n i = none := by
  intro n
  induction n with
  | zero => intro i _; rfl
  | succ n ih =>
    intro i h
    rw [cnF, if_neg (h i (Nat.le_refl _) (by omega))]
    exact ih (i + 1) fun j h1 h2 => h j (by omega) (by omega)
theorem bnF_z {Y : Yd} {x : Int32} : ∀ (n i : Nat), (∀ j, i ≤ j → j < i + n → ¬ yB Y j 1 = x) → bnF Y x n i = none := by
  intro n
  induction n with
  | zero => intro i _; rfl
  | succ n ih =>
    intro i h
    rw [bnF, if_neg (h i (Nat.le_refl _) (by omega))]
    exact ih (i + 1) fun j h1 h2 => h j (by omega) (by omega)
set_option maxHeartbeats 1000000 in
set_option maxRecDepth 4000 in
theorem p_cH {d n e : Nat} {b w N : Nat → Int32} {RR : OR9} {M0 M : Mem} {Q : Out → Mem → Prop} {Y : Yd} {m b9 K : Nat} (h : PQ M0 M b n e w N RR) (hR : RW Y m b9 K w) (hB : CrB Y m b9) (hc : nnC b n e = 0) (hq : Q (.inl (some (.int (px (cnF Y (nmF b (tS b n e) (tE b n e)) 16 0))))) M) : WPc (d + 1) mX13_crateHere [.ref (rf 11 0)] M Q := by
  refine WPc.of (by decide +kernel) (Nat.le_of_ble_eq_true rfl) rfl ?_
  have hm16 := hB.1
  have hb6 := hB.2.1
  have key : ∀ (f k : Nat), k + f = m → Q (.inl (some (.int (px (cnF Y (nmF b (tS b n e) (tE b n e)) (16 - k) k))))) M → WP mX13_crateHere (d + 1) 2 [.ref (rf 11 0), .int (nI k)] [] M Q := by
    intro f
    induction f with
    | zero =>
      intro k hk hq2
      have ek : k = m := by omega
      subst ek
      rw [cnF_z _ _ (fun j h1 h2 q => nm_pos hc (by rw [← q]; exact hB.2.2.2.2.1 j (by omega) h1))] at hq2
      refine R.iload_n dX13_crateHere_2 rfl ?_
      refine R.aload_n dX13_crateHere_3 rfl (by first | rfl | exact rfv_rf _) ?_
      refine R.getS (h.l.w) dX13_crateHere_4 fl_X13_7 (by decide) rfl ?_
      refine R.iconst (v := nI 0) dX13_crateHere_7 rfl ?_
      refine R.ialdN (k := 0) dX13_crateHere_8 (by omega) (by rw [h.l.n]; omega) ?_
      rw [h.w, hR.t.z]
      refine R.geT (tgt := 34) (Int32.le_refl _) dX13_crateHere_9 (by decide) ?_
      refine R.iconst (v := -1) dX13_crateHere_34 rfl ?_
      refine WP.ret (ov := some (.int _)) dX13_crateHere_35 ⟨rfl, _, rfl, by first | rfl | assumption | exact nar_b01 (by assumption)⟩ ?_
      exact hq2
    | succ f ih =>
      intro k hf hq2
      have hk : k < m := by omega
      rw [show 16 - k = (16 - (k + 1)) + 1 by omega, cnF] at hq2
      by_cases ce : yC Y k 1 = nmF b (tS b n e) (tE b n e)
      · rw [if_pos ce] at hq2
        refine R.iload_n dX13_crateHere_2 rfl ?_
        refine R.aload_n dX13_crateHere_3 rfl (by first | rfl | exact rfv_rf _) ?_
        refine R.getS (h.l.w) dX13_crateHere_4 fl_X13_7 (by decide) rfl ?_
        refine R.iconst (v := nI 0) dX13_crateHere_7 rfl ?_
        refine R.ialdN (k := 0) dX13_crateHere_8 (by omega) (by rw [h.l.n]; omega) ?_
        rw [h.w, hR.t.z]
        refine R.geF (tgt := 34) (nI_ge (show k < m by omega) (by omega)) dX13_crateHere_9 (by decide) ?_
        refine R.aload_n dX13_crateHere_12 rfl (by first | rfl | exact rfv_rf _) ?_
        refine R.bipush (v := 16) dX13_crateHere_13 (by decide) ?_
        refine R.bipush (v := 18) dX13_crateHere_15 (by decide) ?_
        refine R.iload_n dX13_crateHere_17 rfl ?_
        refine R.imul dX13_crateHere_18 ?_
        refine R.iadd dX13_crateHere_19 ?_
        rw [wi_c0]
        refine cl_X13_236 rfl rfl (by first | exact Nat.le_of_ble_eq_true rfl | simp [rf_cat, Value.category]) dX13_crateHere_20 ?_
        refine p_nmAt h (by omega) (hR.n.1 k hk) hc ?_
        rw [if_pos ce]
        refine R.if_eq (tgt := 28) dX13_crateHere_23 (by decide) (fun c9 => absurd c9 (by decide)) (fun _ => ?_)
        refine R.iload_n dX13_crateHere_26 rfl ?_
        refine WP.ret (ov := some (.int _)) dX13_crateHere_27 ⟨rfl, _, rfl, by first | rfl | assumption | exact nar_b01 (by assumption)⟩ ?_
        exact hq2
      · rw [if_neg ce] at hq2
        refine R.iload_n dX13_crateHere_2 rfl ?_
        refine R.aload_n dX13_crateHere_3 rfl (by first | rfl | exact rfv_rf _) ?_
        refine R.getS (h.l.w) dX13_crateHere_4 fl_X13_7 (by decide) rfl ?_
        refine R.iconst (v := nI 0) dX13_crateHere_7 rfl ?_
        refine R.ialdN (k := 0) dX13_crateHere_8 (by omega) (by rw [h.l.n]; omega) ?_
        rw [h.w, hR.t.z]
        refine R.geF (tgt := 34) (nI_ge (show k < m by omega) (by omega)) dX13_crateHere_9 (by decide) ?_
        refine R.aload_n dX13_crateHere_12 rfl (by first | rfl | exact rfv_rf _) ?_
        refine R.bipush (v := 16) dX13_crateHere_13 (by decide) ?_
        refine R.bipush (v := 18) dX13_crateHere_15 (by decide) ?_
        refine R.iload_n dX13_crateHere_17 rfl ?_
        refine R.imul dX13_crateHere_18 ?_
        refine R.iadd dX13_crateHere_19 ?_
        rw [wi_c0]
        refine cl_X13_236 rfl rfl (by first | exact Nat.le_of_ble_eq_true rfl | simp [rf_cat, Value.category]) dX13_crateHere_20 ?_
        refine p_nmAt h (by omega) (hR.n.1 k hk) hc ?_
        rw [if_neg ce]
        refine R.if_eq (tgt := 28) dX13_crateHere_23 (by decide) (fun _ => ?_) (fun c9 => absurd (rfl) c9)
        refine R.iinc dX13_crateHere_28 (Nat.le_of_ble_eq_true rfl) (by decide) (by first | rfl | simp [lft, rf_cat]) rfl (inc_nI _) rfl ?_
        refine R.goto (tgt := 2) dX13_crateHere_31 (by decide) ?_
        exact ih (k + 1) (by omega) hq2
  refine R.iconst (v := nI 0) dX13_crateHere_0 rfl ?_
  refine R.istore_n dX13_crateHere_1 (Nat.le_of_ble_eq_true rfl) (by decide) (by first | rfl | simp [lft, rf_cat]) rfl ?_
  exact key m 0 (by omega) hq
set_option maxHeartbeats 1000000 in
set_option maxRecDepth 4000 in
theorem p_bH {d n e : Nat} {b w N : Nat → Int32} {RR : OR9} {M0 M : Mem} {Q : Out → Mem → Prop} {Y : Yd} {m b9 K : Nat} (h : PQ M0 M b n e w N RR) (hR : RW Y m b9 K w) (hB : CrB Y m b9) (hc : nnC b n e = 0) (hq : Q (.inl (some (.int (px (bnF Y (nmF b (tS b n e) (tE b n e)) 6 0))))) M) : WPc (d + 1) mX13_buyerHere [.ref (rf 11 0)] M Q := by
  refine WPc.of (by decide +kernel) (Nat.le_of_ble_eq_true rfl) rfl ?_
  have hm16 := hB.1
  have hb6 := hB.2.1
  have key : ∀ (f k : Nat), k + f = b9 → Q (.inl (some (.int (px (bnF Y (nmF b (tS b n e) (tE b n e)) (6 - k) k))))) M → WP mX13_buyerHere (d + 1) 2 [.ref (rf 11 0), .int (nI k)] [] M Q := by
    intro f
    induction f with
    | zero =>
      intro k hk hq2
      have ek : k = b9 := by omega
      subst ek
      rw [bnF_z _ _ (fun j h1 h2 q => nm_pos hc (by rw [← q]; exact hB.2.2.2.2.2.1 j (by omega) h1))] at hq2
      refine R.iload_n dX13_buyerHere_2 rfl ?_
      refine R.aload_n dX13_buyerHere_3 rfl (by first | rfl | exact rfv_rf _) ?_
      refine R.getS (h.l.w) dX13_buyerHere_4 fl_X13_7 (by decide) rfl ?_
      refine R.iconst (v := nI 1) dX13_buyerHere_7 rfl ?_
      refine R.ialdN (k := 1) dX13_buyerHere_8 (by omega) (by rw [h.l.n]; omega) ?_
      rw [h.w, hR.h.1, hB.2.2.2.1]
      refine R.geT (tgt := 35) (Int32.le_refl _) dX13_buyerHere_9 (by decide) ?_
      refine R.iconst (v := -1) dX13_buyerHere_35 rfl ?_
      refine WP.ret (ov := some (.int _)) dX13_buyerHere_36 ⟨rfl, _, rfl, by first | rfl | assumption | exact nar_b01 (by assumption)⟩ ?_
      exact hq2
    | succ f ih =>
      intro k hf hq2
      have hk : k < b9 := by omega
      rw [show 6 - k = (6 - (k + 1)) + 1 by omega, bnF] at hq2
      by_cases ce : yB Y k 1 = nmF b (tS b n e) (tE b n e)
      · rw [if_pos ce] at hq2
        refine R.iload_n dX13_buyerHere_2 rfl ?_
        refine R.aload_n dX13_buyerHere_3 rfl (by first | rfl | exact rfv_rf _) ?_
        refine R.getS (h.l.w) dX13_buyerHere_4 fl_X13_7 (by decide) rfl ?_
        refine R.iconst (v := nI 1) dX13_buyerHere_7 rfl ?_
        refine R.ialdN (k := 1) dX13_buyerHere_8 (by omega) (by rw [h.l.n]; omega) ?_
        rw [h.w, hR.h.1, hB.2.2.2.1]
        refine R.geF (tgt := 35) (nI_ge (show k < b9 by omega) (by omega)) dX13_buyerHere_9 (by decide) ?_
        refine R.aload_n dX13_buyerHere_12 rfl (by first | rfl | exact rfv_rf _) ?_
        refine R.sipush (v := 304) dX13_buyerHere_13 (by decide) ?_
        refine R.bipush (v := 11) dX13_buyerHere_16 (by decide) ?_
        refine R.iload_n dX13_buyerHere_18 rfl ?_
        refine R.imul dX13_buyerHere_19 ?_
        refine R.iadd dX13_buyerHere_20 ?_
        rw [wi_b0]
        refine cl_X13_236 rfl rfl (by first | exact Nat.le_of_ble_eq_true rfl | simp [rf_cat, Value.category]) dX13_buyerHere_21 ?_
        refine p_nmAt h (by omega) (hR.n.2 k hk) hc ?_
        rw [if_pos ce]
        refine R.if_eq (tgt := 29) dX13_buyerHere_24 (by decide) (fun c9 => absurd c9 (by decide)) (fun _ => ?_)
        refine R.iload_n dX13_buyerHere_27 rfl ?_
        refine WP.ret (ov := some (.int _)) dX13_buyerHere_28 ⟨rfl, _, rfl, by first | rfl | assumption | exact nar_b01 (by assumption)⟩ ?_
        exact hq2
      · rw [if_neg ce] at hq2
        refine R.iload_n dX13_buyerHere_2 rfl ?_
        refine R.aload_n dX13_buyerHere_3 rfl (by first | rfl | exact rfv_rf _) ?_
        refine R.getS (h.l.w) dX13_buyerHere_4 fl_X13_7 (by decide) rfl ?_
        refine R.iconst (v := nI 1) dX13_buyerHere_7 rfl ?_
        refine R.ialdN (k := 1) dX13_buyerHere_8 (by omega) (by rw [h.l.n]; omega) ?_
        rw [h.w, hR.h.1, hB.2.2.2.1]
        refine R.geF (tgt := 35) (nI_ge (show k < b9 by omega) (by omega)) dX13_buyerHere_9 (by decide) ?_
        refine R.aload_n dX13_buyerHere_12 rfl (by first | rfl | exact rfv_rf _) ?_
        refine R.sipush (v := 304) dX13_buyerHere_13 (by decide) ?_
        refine R.bipush (v := 11) dX13_buyerHere_16 (by decide) ?_
        refine R.iload_n dX13_buyerHere_18 rfl ?_
        refine R.imul dX13_buyerHere_19 ?_
        refine R.iadd dX13_buyerHere_20 ?_
        rw [wi_b0]
        refine cl_X13_236 rfl rfl (by first | exact Nat.le_of_ble_eq_true rfl | simp [rf_cat, Value.category]) dX13_buyerHere_21 ?_
        refine p_nmAt h (by omega) (hR.n.2 k hk) hc ?_
        rw [if_neg ce]
        refine R.if_eq (tgt := 29) dX13_buyerHere_24 (by decide) (fun _ => ?_) (fun c9 => absurd (rfl) c9)
        refine R.iinc dX13_buyerHere_29 (Nat.le_of_ble_eq_true rfl) (by decide) (by first | rfl | simp [lft, rf_cat]) rfl (inc_nI _) rfl ?_
        refine R.goto (tgt := 2) dX13_buyerHere_32 (by decide) ?_
        exact ih (k + 1) (by omega) hq2
  refine R.iconst (v := nI 0) dX13_buyerHere_0 rfl ?_
  refine R.istore_n dX13_buyerHere_1 (Nat.le_of_ble_eq_true rfl) (by decide) (by first | rfl | simp [lft, rf_cat]) rfl ?_
  exact key b9 0 (by omega) hq
set_option maxHeartbeats 1000000 in
set_option maxRecDepth 4000 in
theorem p_tcS {d n e : Nat} {b w N : Nat → Int32} {RR : OR9} {M0 M : Mem} {Q : Out → Mem → Prop} {Y : Yd} {m b9 K k j : Nat} (h : PQ M0 M b n e w N RR) (hR : RW Y m b9 K w) (hB : CrB Y m b9) (hk : k < 4) (hc : nnC b n e = 0) (hj : cnF Y (nmF b (tS b n e) (tE b n e)) 16 0 = some j) (hj2 : j < 16) (hq : ∀ M', PQ M0 M' b n (tE b n e) w (upW N k (nI j)) RR → Q (.inl (some (.int 1))) M') : WPc (d + 3) mX13_takesCrate [.ref (rf 11 0), .int (nI k)] M Q := by
  refine WPc.of (by decide +kernel) (Nat.le_of_ble_eq_true rfl) rfl ?_
  refine R.aload_n dX13_takesCrate_0 rfl (by first | rfl | exact rfv_rf _) ?_
  refine cl_X13_242 rfl rfl (by first | exact Nat.le_of_ble_eq_true rfl | simp [rf_cat, Value.category]) dX13_takesCrate_1 ?_
  refine p_nmS h hc ?_
  refine R.if_ne (tgt := 9) dX13_takesCrate_4 (by decide) (fun _ => ?_) (fun c9 => absurd c9 (by decide))
  refine R.aload_n dX13_takesCrate_9 rfl (by first | rfl | exact rfv_rf _) ?_
  refine R.getS (h.l.1.2.2.2.2.2.2.1) dX13_takesCrate_10 fl_X13_32 (by decide) rfl ?_
  refine R.iload_n dX13_takesCrate_13 rfl ?_
  refine R.aload_n dX13_takesCrate_14 rfl (by first | rfl | exact rfv_rf _) ?_
  refine cl_X13_246 rfl rfl (by first | exact Nat.le_of_ble_eq_true rfl | simp [rf_cat, Value.category]) dX13_takesCrate_15 ?_
  refine p_cH h hR hB hc ?_
  rw [hj]
  change WP _ _ _ _ (.int (nI j) :: _) _ _
  refine R.iastN (k := k) dX13_takesCrate_18 (by omega) (by rw [h.l.2.2.2.2.2.2.2.1]; omega) ?_
  refine R.aload_n dX13_takesCrate_19 rfl (by first | rfl | exact rfv_rf _) ?_
  refine R.getS (h.l.1.2.2.2.2.2.2.1) dX13_takesCrate_20 fl_X13_32 (by decide) rfl ?_
  refine R.iload_n dX13_takesCrate_23 rfl ?_
  refine R.ialdN (k := k) dX13_takesCrate_24 (by omega) (by show _ < mN M 14 6; rw [h.l.2.2.2.2.2.2.2.1]; omega) ?_
  rw [mI_sI, if_pos ⟨rfl, rfl, rfl⟩]
  refine R.iconst (v := -1) dX13_takesCrate_25 rfl ?_
  refine R.icmp_ne (tgt := 35) dX13_takesCrate_26 (by decide) (fun _ => ?_) (fun c9 => absurd c9 (nI_m1 (by omega)))
  refine R.aload_n dX13_takesCrate_35 rfl (by first | rfl | exact rfv_rf _) ?_
  refine cl_X13_233 rfl rfl (by first | exact Nat.le_of_ble_eq_true rfl | simp [rf_cat, Value.category]) dX13_takesCrate_36 ?_
  refine p_adv (h.num k (nI j)) (fun M2 h2 => ?_)
  refine R.iconst (v := 1) dX13_takesCrate_39 rfl ?_
  refine WP.ret (ov := some (.int _)) dX13_takesCrate_40 ⟨rfl, _, rfl, by first | rfl | assumption | exact nar_b01 (by assumption)⟩ ?_
  exact hq M2 h2
set_option maxHeartbeats 1000000 in
set_option maxRecDepth 4000 in
theorem p_tcN {d n e : Nat} {b w N : Nat → Int32} {RR : OR9} {M0 M : Mem} {Q : Out → Mem → Prop} {Y : Yd} {m b9 K k : Nat} (h : PQ M0 M b n e w N RR) (hR : RW Y m b9 K w) (hB : CrB Y m b9) (hk : k < 4) (hc : ¬ ncC b n e Y = 0) (hq : ∀ M', PX M0 M' (ncC b n e Y) (tS b n e) w → Q (.inl (some (.int 0))) M') : WPc (d + 3) mX13_takesCrate [.ref (rf 11 0), .int (nI k)] M Q := by
  refine WPc.of (by decide +kernel) (Nat.le_of_ble_eq_true rfl) rfl ?_
  by_cases c1 : nnC b n e = 0
  · cases hj : cnF Y (nmF b (tS b n e) (tE b n e)) 16 0 with
    | none =>
      have e4 : ncC b n e Y = 4 := by unfold ncC; rw [if_pos c1, hj]
      rw [e4] at hq
      refine R.aload_n dX13_takesCrate_0 rfl (by first | rfl | exact rfv_rf _) ?_
      refine cl_X13_242 rfl rfl (by first | exact Nat.le_of_ble_eq_true rfl | simp [rf_cat, Value.category]) dX13_takesCrate_1 ?_
      refine p_nmS h c1 ?_
      refine R.if_ne (tgt := 9) dX13_takesCrate_4 (by decide) (fun _ => ?_) (fun c9 => absurd c9 (by decide))
      refine R.aload_n dX13_takesCrate_9 rfl (by first | rfl | exact rfv_rf _) ?_
      refine R.getS (h.l.1.2.2.2.2.2.2.1) dX13_takesCrate_10 fl_X13_32 (by decide) rfl ?_
      refine R.iload_n dX13_takesCrate_13 rfl ?_
      refine R.aload_n dX13_takesCrate_14 rfl (by first | rfl | exact rfv_rf _) ?_
      refine cl_X13_246 rfl rfl (by first | exact Nat.le_of_ble_eq_true rfl | simp [rf_cat, Value.category]) dX13_takesCrate_15 ?_
      refine p_cH h hR hB c1 ?_
      rw [hj]
      change WP _ _ _ _ (.int (-1) :: _) _ _
      refine R.iastN (k := k) dX13_takesCrate_18 (by omega) (by rw [h.l.2.2.2.2.2.2.2.1]; omega) ?_
      refine R.aload_n dX13_takesCrate_19 rfl (by first | rfl | exact rfv_rf _) ?_
      refine R.getS (h.l.1.2.2.2.2.2.2.1) dX13_takesCrate_20 fl_X13_32 (by decide) rfl ?_
      refine R.iload_n dX13_takesCrate_23 rfl ?_
      refine R.ialdN (k := k) dX13_takesCrate_24 (by omega) (by show _ < mN M 14 6; rw [h.l.2.2.2.2.2.2.2.1]; omega) ?_
      rw [mI_sI, if_pos ⟨rfl, rfl, rfl⟩]
      refine R.iconst (v := -1) dX13_takesCrate_25 rfl ?_
      refine R.icmp_ne (tgt := 35) dX13_takesCrate_26 (by decide) (fun c9 => absurd (rfl) c9) (fun _ => ?_)
      refine R.aload_n dX13_takesCrate_29 rfl (by first | rfl | exact rfv_rf _) ?_
      refine R.iconst (v := 4) dX13_takesCrate_30 rfl ?_
      refine cl_X13_224 rfl rfl (by first | exact Nat.le_of_ble_eq_true rfl | simp [rf_cat, Value.category]) dX13_takesCrate_31 ?_
      refine p_fail (h.num k (-1)) (fun M2 h2 => ?_)
      refine WP.ret (ov := some (.int _)) dX13_takesCrate_34 ⟨rfl, _, rfl, by first | rfl | assumption | exact nar_b01 (by assumption)⟩ ?_
      exact hq M2 h2
    | some j => exact absurd (show ncC b n e Y = 0 by unfold ncC; rw [if_pos c1, hj]) hc
  · have e4 : ncC b n e Y = nnC b n e := by unfold ncC; rw [if_neg c1]
    rw [e4] at hq
    refine R.aload_n dX13_takesCrate_0 rfl (by first | rfl | exact rfv_rf _) ?_
    refine cl_X13_242 rfl rfl (by first | exact Nat.le_of_ble_eq_true rfl | simp [rf_cat, Value.category]) dX13_takesCrate_1 ?_
    refine p_nmN h c1 (fun M2 h2 => ?_)
    refine R.if_ne (tgt := 9) dX13_takesCrate_4 (by decide) (fun c9 => absurd (rfl) c9) (fun _ => ?_)
    refine R.iconst (v := 0) dX13_takesCrate_7 rfl ?_
    refine WP.ret (ov := some (.int _)) dX13_takesCrate_8 ⟨rfl, _, rfl, by first | rfl | assumption | exact nar_b01 (by assumption)⟩ ?_
    exact hq M2 h2
set_option maxHeartbeats 1000000 in
set_option maxRecDepth 4000 in
theorem p_tbS {d n e : Nat} {b w N : Nat → Int32} {RR : OR9} {M0 M : Mem} {Q : Out → Mem → Prop} {Y : Yd} {m b9 K k j : Nat} (h : PQ M0 M b n e w N RR) (hR : RW Y m b9 K w) (hB : CrB Y m b9) (hk : k < 4) (hc : nnC b n e = 0) (hj : bnF Y (nmF b (tS b n e) (tE b n e)) 6 0 = some j) (hj2 : j < 16) (hq : ∀ M', PQ M0 M' b n (tE b n e) w (upW N k (nI j)) RR → Q (.inl (some (.int 1))) M') : WPc (d + 3) mX13_takesBuyer [.ref (rf 11 0), .int (nI k)] M Q := by
  refine WPc.of (by decide +kernel) (Nat.le_of_ble_eq_true rfl) rfl ?_
  refine R.aload_n dX13_takesBuyer_0 rfl (by first | rfl | exact rfv_rf _) ?_
  refine cl_X13_242 rfl rfl (by first | exact Nat.le_of_ble_eq_true rfl | simp [rf_cat, Value.category]) dX13_takesBuyer_1 ?_
  refine p_nmS h hc ?_
  refine R.if_ne (tgt := 9) dX13_takesBuyer_4 (by decide) (fun _ => ?_) (fun c9 => absurd c9 (by decide))
  refine R.aload_n dX13_takesBuyer_9 rfl (by first | rfl | exact rfv_rf _) ?_
  refine R.getS (h.l.1.2.2.2.2.2.2.1) dX13_takesBuyer_10 fl_X13_32 (by decide) rfl ?_
  refine R.iload_n dX13_takesBuyer_13 rfl ?_
  refine R.aload_n dX13_takesBuyer_14 rfl (by first | rfl | exact rfv_rf _) ?_
  refine cl_X13_249 rfl rfl (by first | exact Nat.le_of_ble_eq_true rfl | simp [rf_cat, Value.category]) dX13_takesBuyer_15 ?_
  refine p_bH h hR hB hc ?_
  rw [hj]
  change WP _ _ _ _ (.int (nI j) :: _) _ _
  refine R.iastN (k := k) dX13_takesBuyer_18 (by omega) (by rw [h.l.2.2.2.2.2.2.2.1]; omega) ?_
  refine R.aload_n dX13_takesBuyer_19 rfl (by first | rfl | exact rfv_rf _) ?_
  refine R.getS (h.l.1.2.2.2.2.2.2.1) dX13_takesBuyer_20 fl_X13_32 (by decide) rfl ?_
  refine R.iload_n dX13_takesBuyer_23 rfl ?_
  refine R.ialdN (k := k) dX13_takesBuyer_24 (by omega) (by show _ < mN M 14 6; rw [h.l.2.2.2.2.2.2.2.1]; omega) ?_
  rw [mI_sI, if_pos ⟨rfl, rfl, rfl⟩]
  refine R.iconst (v := -1) dX13_takesBuyer_25 rfl ?_
  refine R.icmp_ne (tgt := 35) dX13_takesBuyer_26 (by decide) (fun _ => ?_) (fun c9 => absurd c9 (nI_m1 (by omega)))
  refine R.aload_n dX13_takesBuyer_35 rfl (by first | rfl | exact rfv_rf _) ?_
  refine cl_X13_233 rfl rfl (by first | exact Nat.le_of_ble_eq_true rfl | simp [rf_cat, Value.category]) dX13_takesBuyer_36 ?_
  refine p_adv (h.num k (nI j)) (fun M2 h2 => ?_)
  refine R.iconst (v := 1) dX13_takesBuyer_39 rfl ?_
  refine WP.ret (ov := some (.int _)) dX13_takesBuyer_40 ⟨rfl, _, rfl, by first | rfl | assumption | exact nar_b01 (by assumption)⟩ ?_
  exact hq M2 h2
set_option maxHeartbeats 1000000 in
set_option maxRecDepth 4000 in
theorem p_tbN {d n e : Nat} {b w N : Nat → Int32} {RR : OR9} {M0 M : Mem} {Q : Out → Mem → Prop} {Y : Yd} {m b9 K k : Nat} (h : PQ M0 M b n e w N RR) (hR : RW Y m b9 K w) (hB : CrB Y m b9) (hk : k < 4) (hc : ¬ nyC b n e Y = 0) (hq : ∀ M', PX M0 M' (nyC b n e Y) (tS b n e) w → Q (.inl (some (.int 0))) M') : WPc (d + 3) mX13_takesBuyer [.ref (rf 11 0), .int (nI k)] M Q := by
  refine WPc.of (by decide +kernel) (Nat.le_of_ble_eq_true rfl) rfl ?_
  by_cases c1 : nnC b n e = 0
  · cases hj : bnF Y (nmF b (tS b n e) (tE b n e)) 6 0 with
    | none =>
      have e4 : nyC b n e Y = 4 := by unfold nyC; rw [if_pos c1, hj]
      rw [e4] at hq
      refine R.aload_n dX13_takesBuyer_0 rfl (by first | rfl | exact rfv_rf _) ?_
      refine cl_X13_242 rfl rfl (by first | exact Nat.le_of_ble_eq_true rfl | simp [rf_cat, Value.category]) dX13_takesBuyer_1 ?_
      refine p_nmS h c1 ?_
      refine R.if_ne (tgt := 9) dX13_takesBuyer_4 (by decide) (fun _ => ?_) (fun c9 => absurd c9 (by decide))
      refine R.aload_n dX13_takesBuyer_9 rfl (by first | rfl | exact rfv_rf _) ?_
      refine R.getS (h.l.1.2.2.2.2.2.2.1) dX13_takesBuyer_10 fl_X13_32 (by decide) rfl ?_
      refine R.iload_n dX13_takesBuyer_13 rfl ?_
      refine R.aload_n dX13_takesBuyer_14 rfl (by first | rfl | exact rfv_rf _) ?_
      refine cl_X13_249 rfl rfl (by first | exact Nat.le_of_ble_eq_true rfl | simp [rf_cat, Value.category]) dX13_takesBuyer_15 ?_
      refine p_bH h hR hB c1 ?_
      rw [hj]
      change WP _ _ _ _ (.int (-1) :: _) _ _
      refine R.iastN (k := k) dX13_takesBuyer_18 (by omega) (by rw [h.l.2.2.2.2.2.2.2.1]; omega) ?_
      refine R.aload_n dX13_takesBuyer_19 rfl (by first | rfl | exact rfv_rf _) ?_
      refine R.getS (h.l.1.2.2.2.2.2.2.1) dX13_takesBuyer_20 fl_X13_32 (by decide) rfl ?_
      refine R.iload_n dX13_takesBuyer_23 rfl ?_
      refine R.ialdN (k := k) dX13_takesBuyer_24 (by omega) (by show _ < mN M 14 6; rw [h.l.2.2.2.2.2.2.2.1]; omega) ?_
      rw [mI_sI, if_pos ⟨rfl, rfl, rfl⟩]
      refine R.iconst (v := -1) dX13_takesBuyer_25 rfl ?_
      refine R.icmp_ne (tgt := 35) dX13_takesBuyer_26 (by decide) (fun c9 => absurd (rfl) c9) (fun _ => ?_)
      refine R.aload_n dX13_takesBuyer_29 rfl (by first | rfl | exact rfv_rf _) ?_
      refine R.iconst (v := 4) dX13_takesBuyer_30 rfl ?_
      refine cl_X13_224 rfl rfl (by first | exact Nat.le_of_ble_eq_true rfl | simp [rf_cat, Value.category]) dX13_takesBuyer_31 ?_
      refine p_fail (h.num k (-1)) (fun M2 h2 => ?_)
      refine WP.ret (ov := some (.int _)) dX13_takesBuyer_34 ⟨rfl, _, rfl, by first | rfl | assumption | exact nar_b01 (by assumption)⟩ ?_
      exact hq M2 h2
    | some j => exact absurd (show nyC b n e Y = 0 by unfold nyC; rw [if_pos c1, hj]) hc
  · have e4 : nyC b n e Y = nnC b n e := by unfold nyC; rw [if_neg c1]
    rw [e4] at hq
    refine R.aload_n dX13_takesBuyer_0 rfl (by first | rfl | exact rfv_rf _) ?_
    refine cl_X13_242 rfl rfl (by first | exact Nat.le_of_ble_eq_true rfl | simp [rf_cat, Value.category]) dX13_takesBuyer_1 ?_
    refine p_nmN h c1 (fun M2 h2 => ?_)
    refine R.if_ne (tgt := 9) dX13_takesBuyer_4 (by decide) (fun c9 => absurd (rfl) c9) (fun _ => ?_)
    refine R.iconst (v := 0) dX13_takesBuyer_7 rfl ?_
    refine WP.ret (ov := some (.int _)) dX13_takesBuyer_8 ⟨rfl, _, rfl, by first | rfl | assumption | exact nar_b01 (by assumption)⟩ ?_
    exact hq M2 h2
/-- a name laid from cell a on -/
def nwF (w b : Nat → Int32) (a s L : Nat) : Nat → Int32 := fun x => if a + 1 ≤ x ∧ x < a + 7 then (if x - (a + 1) < L then b (s + (x - (a + 1))) else 0) else w x
def nwK (w b : Nat → Int32) (a s L k : Nat) : Nat → Int32 := fun x => if a + 1 ≤ x ∧ x < a + 1 + k then (if x - (a + 1) < L then b (s + (x - (a + 1))) else 0) else w x
theorem nwK_s (w b : Nat → Int32) (a s L k : Nat) : upW (nwK w b a s L k) (a + 1 + k) (if k < L then b (s + k) else 0) = nwK w b a s L (k + 1) := by
  funext x
  show (if x = a + 1 + k then _ else if a + 1 ≤ x ∧ x < a + 1 + k then _ else w x) = if a + 1 ≤ x ∧ x < a + 1 + (k + 1) then _ else w x
  by_cases z : x = a + 1 + k
  · rw [if_pos z, if_pos (show a + 1 ≤ x ∧ x < a + 1 + (k + 1) by omega), z, show a + 1 + k - (a + 1) = k by omega]
  · rw [if_neg z]
    by_cases y : a + 1 ≤ x ∧ x < a + 1 + k
    · rw [if_pos y, if_pos (show a + 1 ≤ x ∧ x < a + 1 + (k + 1) by omega)]
    · rw [if_neg y, if_neg (by omega)]
theorem nwK_0 (w b : Nat → Int32) (a s L : Nat) : nwK w b a s L 0 = w := by
  funext x
  exact if_neg (by omega)
theorem nwK_6 (w b : Nat → Int32) (a s L : Nat) : nwK w b a s L 6 = nwF w b a s L := rfl
set_option maxHeartbeats 1000000 in
set_option maxRecDepth 4000 in
theorem p_nnU {d n e : Nat} {b w N : Nat → Int32} {RR : OR9} {M0 M : Mem} {Q : Out → Mem → Prop} {a : Nat} (h : PQ M0 M b n e w N RR) (hq : ∀ M', PX M0 M' (3) (tS b n e) w → Q (.inl (some (.int 0))) M') : WPc (d + 3) mX13_takesNewName [.ref (rf 11 0), .int (nI a), .int 1] M Q := by
  refine WPc.of (by decide +kernel) (Nat.le_of_ble_eq_true rfl) rfl ?_
  refine R.iload_n dX13_takesNewName_0 rfl ?_
  refine R.if_eq (tgt := 10) dX13_takesNewName_1 (by decide) (fun c9 => absurd c9 (by decide)) (fun _ => ?_)
  refine R.aload_n dX13_takesNewName_4 rfl (by first | rfl | exact rfv_rf _) ?_
  refine R.iconst (v := 3) dX13_takesNewName_5 rfl ?_
  refine cl_X13_224 rfl rfl (by first | exact Nat.le_of_ble_eq_true rfl | simp [rf_cat, Value.category]) dX13_takesNewName_6 ?_
  refine p_fail h (fun M2 h2 => ?_)
  refine WP.ret (ov := some (.int _)) dX13_takesNewName_9 ⟨rfl, _, rfl, by first | rfl | assumption | exact nar_b01 (by assumption)⟩ ?_
  exact hq M2 h2
set_option maxHeartbeats 2000000 in
set_option maxRecDepth 4000 in
theorem p_nnS {d n e : Nat} {b w N : Nat → Int32} {RR : OR9} {M0 M : Mem} {Q : Out → Mem → Prop} {a : Nat} (h : PQ M0 M b n e w N RR) (ha : a + 7 ≤ 370) (hc : nnC b n e = 0) (hq : ∀ M', PQ M0 M' b n (tE b n e) (nwF w b a (tS b n e) (tE b n e - tS b n e)) (upW N 3 (nI (tE b n e - tS b n e))) RR → Q (.inl (some (.int 1))) M') : WPc (d + 3) mX13_takesNewName [.ref (rf 11 0), .int (nI a), .int 0] M Q := by
  refine WPc.of (by decide +kernel) (Nat.le_of_ble_eq_true rfl) rfl ?_
  obtain ⟨k1, k2⟩ := nn_z hc
  have hn6 := h.n6
  have hen := tE_le (b := b) h.en
  have key : ∀ (f i : Nat), i + f = 6 → WP mX13_takesNewName (d + 3) 12 [.ref (rf 11 0), .int (nI a), .int 0, .int (nI i)] [] (sW M (nwK w b a (tS b n e) (tE b n e - tS b n e) i)) Q := by
    intro f
    induction f with
    | zero =>
      intro i hi
      have ei : i = 6 := by omega
      subst ei
      rw [nwK_6]
      have hk := h.sw (nwF w b a (tS b n e) (tE b n e - tS b n e))
      refine R.iload_n dX13_takesNewName_12 rfl ?_
      refine R.bipush (v := nI 6) dX13_takesNewName_13 (by decide) ?_
      refine R.geT (tgt := 62) (Int32.le_refl _) dX13_takesNewName_15 (by decide) ?_
      refine R.aload_n dX13_takesNewName_62 rfl (by first | rfl | exact rfv_rf _) ?_
      refine R.getS (hk.l.1.2.2.2.2.2.2.1) dX13_takesNewName_63 fl_X13_32 (by decide) rfl ?_
      refine R.iconst (v := nI 3) dX13_takesNewName_66 rfl ?_
      refine R.aload_n dX13_takesNewName_67 rfl (by first | rfl | exact rfv_rf _) ?_
      refine R.getI dX13_takesNewName_68 fl_X13_194 (by decide) rfl ?_
      rw [hk.t.2.1]
      refine R.aload_n dX13_takesNewName_71 rfl (by first | rfl | exact rfv_rf _) ?_
      refine R.getI dX13_takesNewName_72 fl_X13_197 (by decide) rfl ?_
      rw [hk.t.1]
      refine R.isub dX13_takesNewName_75 ?_
      rw [nI_sub tS_tE]
      refine R.iastN (k := 3) dX13_takesNewName_76 (by omega) (by rw [hk.l.2.2.2.2.2.2.2.1]; omega) ?_
      refine R.aload_n dX13_takesNewName_77 rfl (by first | rfl | exact rfv_rf _) ?_
      refine cl_X13_233 rfl rfl (by first | exact Nat.le_of_ble_eq_true rfl | simp [rf_cat, Value.category]) dX13_takesNewName_78 ?_
      refine p_adv (hk.num 3 _) (fun M2 h2 => ?_)
      refine R.iconst (v := 1) dX13_takesNewName_81 rfl ?_
      refine WP.ret (ov := some (.int _)) dX13_takesNewName_82 ⟨rfl, _, rfl, by first | rfl | assumption | exact nar_b01 (by assumption)⟩ ?_
      exact hq M2 h2
    | succ f ih =>
      intro i hi
      have hk := h.sw (nwK w b a (tS b n e) (tE b n e - tS b n e) i)
      by_cases hil : i < tE b n e - tS b n e
      · have eb : mI (sW M (nwK w b a (tS b n e) (tE b n e - tS b n e) i)) 14 5 (tS b n e + i) = b (tS b n e + i) := (ub_b hk.i (Or.inl (kp_w k1 (by omega) (by omega)))).2
        have eN : (if i < tE b n e - tS b n e then b (tS b n e + i) else 0) = b (tS b n e + i) := if_pos hil
        refine R.iload_n dX13_takesNewName_12 rfl ?_
        refine R.bipush (v := nI 6) dX13_takesNewName_13 (by decide) ?_
        refine R.geF (tgt := 62) (nI_ge (show i < 6 by omega) (by omega)) dX13_takesNewName_15 (by decide) ?_
        refine R.aload_n dX13_takesNewName_18 rfl (by first | rfl | exact rfv_rf _) ?_
        refine R.getS (hk.l.w) dX13_takesNewName_19 fl_X13_7 (by decide) rfl ?_
        refine R.iload_n dX13_takesNewName_22 rfl ?_
        refine R.iconst (v := nI 1) dX13_takesNewName_23 rfl ?_
        refine R.iadd dX13_takesNewName_24 ?_
        rw [nI_add9]
        refine R.iload_n dX13_takesNewName_25 rfl ?_
        refine R.iadd dX13_takesNewName_26 ?_
        rw [nI_add9]
        refine R.iload_n dX13_takesNewName_27 rfl ?_
        refine R.aload_n dX13_takesNewName_28 rfl (by first | rfl | exact rfv_rf _) ?_
        refine R.getI dX13_takesNewName_29 fl_X13_194 (by decide) rfl ?_
        rw [hk.t.2.1]
        refine R.aload_n dX13_takesNewName_32 rfl (by first | rfl | exact rfv_rf _) ?_
        refine R.getI dX13_takesNewName_33 fl_X13_197 (by decide) rfl ?_
        rw [hk.t.1]
        refine R.isub dX13_takesNewName_36 ?_
        rw [nI_sub tS_tE]
        refine R.icmp_ge (tgt := 54) dX13_takesNewName_37 (by decide) (fun c9 => absurd c9 (nI_ge hil (by omega))) (fun _ => ?_)
        refine R.aload_n dX13_takesNewName_40 rfl (by first | rfl | exact rfv_rf _) ?_
        refine R.getS (hk.l.1.2.2.2.2.2.1) dX13_takesNewName_41 fl_X13_25 (by decide) rfl ?_
        refine R.aload_n dX13_takesNewName_44 rfl (by first | rfl | exact rfv_rf _) ?_
        refine R.getI dX13_takesNewName_45 fl_X13_197 (by decide) rfl ?_
        rw [hk.t.1]
        refine R.iload_n dX13_takesNewName_48 rfl ?_
        refine R.iadd dX13_takesNewName_49 ?_
        rw [nI_add9]
        refine R.ialdN (k := tS b n e + i) dX13_takesNewName_50 (by omega) (by rw [hk.l.2.2.2.2.2.2.1]; omega) ?_
        rw [eb]
        refine R.goto (tgt := 55) dX13_takesNewName_51 (by decide) ?_
        refine R.iastN (k := a + 1 + i) dX13_takesNewName_55 (by omega) (by rw [hk.l.n]; omega) ?_
        rw [sI_sW]
        have e9 := nwK_s w b a (tS b n e) (tE b n e - tS b n e) i
        rw [eN] at e9
        rw [e9]
        refine R.iinc dX13_takesNewName_56 (Nat.le_of_ble_eq_true rfl) (by decide) (by first | rfl | simp [lft, rf_cat]) rfl (inc_nI _) rfl ?_
        refine R.goto (tgt := 12) dX13_takesNewName_59 (by decide) ?_
        exact ih (i + 1) (by omega)
      · have eN : (if i < tE b n e - tS b n e then b (tS b n e + i) else 0) = 0 := if_neg hil
        refine R.iload_n dX13_takesNewName_12 rfl ?_
        refine R.bipush (v := nI 6) dX13_takesNewName_13 (by decide) ?_
        refine R.geF (tgt := 62) (nI_ge (show i < 6 by omega) (by omega)) dX13_takesNewName_15 (by decide) ?_
        refine R.aload_n dX13_takesNewName_18 rfl (by first | rfl | exact rfv_rf _) ?_
        refine R.getS (hk.l.w) dX13_takesNewName_19 fl_X13_7 (by decide) rfl ?_
        refine R.iload_n dX13_takesNewName_22 rfl ?_
        refine R.iconst (v := nI 1) dX13_takesNewName_23 rfl ?_
        refine R.iadd dX13_takesNewName_24 ?_
        rw [nI_add9]
        refine R.iload_n dX13_takesNewName_25 rfl ?_
        refine R.iadd dX13_takesNewName_26 ?_
        rw [nI_add9]
        refine R.iload_n dX13_takesNewName_27 rfl ?_
        refine R.aload_n dX13_takesNewName_28 rfl (by first | rfl | exact rfv_rf _) ?_
        refine R.getI dX13_takesNewName_29 fl_X13_194 (by decide) rfl ?_
        rw [hk.t.2.1]
        refine R.aload_n dX13_takesNewName_32 rfl (by first | rfl | exact rfv_rf _) ?_
        refine R.getI dX13_takesNewName_33 fl_X13_197 (by decide) rfl ?_
        rw [hk.t.1]
        refine R.isub dX13_takesNewName_36 ?_
        rw [nI_sub tS_tE]
        refine R.icmp_ge (tgt := 54) dX13_takesNewName_37 (by decide) (fun _ => ?_) (fun c9 => absurd (nI_le (by omega) (by omega)) c9)
        refine R.iconst (v := 0) dX13_takesNewName_54 rfl ?_
        refine R.iastN (k := a + 1 + i) dX13_takesNewName_55 (by omega) (by rw [hk.l.n]; omega) ?_
        rw [sI_sW]
        have e9 := nwK_s w b a (tS b n e) (tE b n e - tS b n e) i
        rw [eN] at e9
        rw [e9]
        refine R.iinc dX13_takesNewName_56 (Nat.le_of_ble_eq_true rfl) (by decide) (by first | rfl | simp [lft, rf_cat]) rfl (inc_nI _) rfl ?_
        refine R.goto (tgt := 12) dX13_takesNewName_59 (by decide) ?_
        exact ih (i + 1) (by omega)
  have k0 := key 6 0 (by omega)
  rw [nwK_0, bW h.w] at k0
  refine R.iload_n dX13_takesNewName_0 rfl ?_
  refine R.if_eq (tgt := 10) dX13_takesNewName_1 (by decide) (fun _ => ?_) (fun c9 => absurd (rfl) c9)
  refine R.iconst (v := nI 0) dX13_takesNewName_10 rfl ?_
  refine R.istore_n dX13_takesNewName_11 (Nat.le_of_ble_eq_true rfl) (by decide) (by first | rfl | simp [lft, rf_cat]) rfl ?_
  exact k0
theorem isW_e {b : Nat → Int32} {s e : Nat} {k : Int32} {v v' : Nat} (h : sByt.getD v [] = sByt.getD v' []) : isW b s e k v = isW b s e k v' := by
  have e1 : sLn v = sLn v' := by unfold sLn; rw [h]
  have e2 : sB v = sB v' := by funext j; unfold sB; rw [h]
  have e3 : ∀ f i, eqW b s v f i = eqW b s v' f i := by
    intro f
    induction f with
    | zero => intro i; rfl
    | succ f ih => intro i; rw [eqW, eqW, ih, e2]
  unfold isW
  rw [e1, e3]
set_option maxHeartbeats 1000000 in
set_option maxRecDepth 4000 in
theorem p_paO {d n e : Nat} {b w N : Nat → Int32} {RR : OR9} {M0 M : Mem} {Q : Out → Mem → Prop} (h : PQ M0 M b n e w N RR) (hw : ¬ isW b (tS b n e) (tE b n e) (tK b n e) 30 = true) (hq : ∀ M', PQ M0 M' b n e w (upW N 2 (-1)) RR → Q (.inl (some (.int 1))) M') : WPc (d + 5) mX13_takesParent [.ref (rf 11 0)] M Q := by
  refine WPc.of (by decide +kernel) (Nat.le_of_ble_eq_true rfl) rfl ?_
  refine R.aload_n dX13_takesParent_0 rfl (by first | rfl | exact rfv_rf _) ?_
  refine R.getS (h.l.1.2.2.2.2.2.2.1) dX13_takesParent_1 fl_X13_32 (by decide) rfl ?_
  refine R.iconst (v := nI 2) dX13_takesParent_4 rfl ?_
  refine R.iconst (v := -1) dX13_takesParent_5 rfl ?_
  refine R.iastN (k := 2) dX13_takesParent_6 (by omega) (by rw [h.l.2.2.2.2.2.2.2.1]; omega) ?_
  have h1 := h.num 2 (-1)
  refine R.aload_n dX13_takesParent_7 rfl (by first | rfl | exact rfv_rf _) ?_
  refine R.ldcS (i := 30) rfl dX13_takesParent_8 ?_
  refine cl_X13_254 rfl rfl (by first | exact Nat.le_of_ble_eq_true rfl | simp [rf_cat, Value.category]) dX13_takesParent_10 ?_
  refine p_isW (v := 30) h1 (by decide) ?_
  rw [if_neg hw]
  refine R.if_ne (tgt := 18) dX13_takesParent_13 (by decide) (fun c9 => absurd (rfl) c9) (fun _ => ?_)
  refine R.iconst (v := 1) dX13_takesParent_16 rfl ?_
  refine WP.ret (ov := some (.int _)) dX13_takesParent_17 ⟨rfl, _, rfl, by first | rfl | assumption | exact nar_b01 (by assumption)⟩ ?_
  exact hq _ h1
set_option maxHeartbeats 1000000 in
set_option maxRecDepth 4000 in
theorem p_paN {d n e : Nat} {b w N : Nat → Int32} {RR : OR9} {M0 M : Mem} {Q : Out → Mem → Prop} {Y : Yd} {m b9 K : Nat} (h : PQ M0 M b n e w N RR) (hR : RW Y m b9 K w) (hB : CrB Y m b9) (hA : Acy Y) (hw : isW b (tS b n e) (tE b n e) (tK b n e) 30 = true) (hc : ¬ nnC b n (tE b n e) = 0) (hq : ∀ M', PX M0 M' (nnC b n (tE b n e)) (tS b n (tE b n e)) w → Q (.inl (some (.int 0))) M') : WPc (d + 5) mX13_takesParent [.ref (rf 11 0)] M Q := by
  refine WPc.of (by decide +kernel) (Nat.le_of_ble_eq_true rfl) rfl ?_
  refine R.aload_n dX13_takesParent_0 rfl (by first | rfl | exact rfv_rf _) ?_
  refine R.getS (h.l.1.2.2.2.2.2.2.1) dX13_takesParent_1 fl_X13_32 (by decide) rfl ?_
  refine R.iconst (v := nI 2) dX13_takesParent_4 rfl ?_
  refine R.iconst (v := -1) dX13_takesParent_5 rfl ?_
  refine R.iastN (k := 2) dX13_takesParent_6 (by omega) (by rw [h.l.2.2.2.2.2.2.2.1]; omega) ?_
  have h1 := h.num 2 (-1)
  refine R.aload_n dX13_takesParent_7 rfl (by first | rfl | exact rfv_rf _) ?_
  refine R.ldcS (i := 30) rfl dX13_takesParent_8 ?_
  refine cl_X13_254 rfl rfl (by first | exact Nat.le_of_ble_eq_true rfl | simp [rf_cat, Value.category]) dX13_takesParent_10 ?_
  refine p_isW (v := 30) h1 (by decide) ?_
  rw [if_pos hw]
  refine R.if_ne (tgt := 18) dX13_takesParent_13 (by decide) (fun _ => ?_) (fun c9 => absurd c9 (by decide))
  refine R.aload_n dX13_takesParent_18 rfl (by first | rfl | exact rfv_rf _) ?_
  refine cl_X13_233 rfl rfl (by first | exact Nat.le_of_ble_eq_true rfl | simp [rf_cat, Value.category]) dX13_takesParent_19 ?_
  refine p_adv h1 (fun M2 h2 => ?_)
  refine R.aload_n dX13_takesParent_22 rfl (by first | rfl | exact rfv_rf _) ?_
  refine cl_X13_242 rfl rfl (by first | exact Nat.le_of_ble_eq_true rfl | simp [rf_cat, Value.category]) dX13_takesParent_23 ?_
  refine p_nmN h2 hc (fun M3 h3 => ?_)
  refine R.if_ne (tgt := 31) dX13_takesParent_26 (by decide) (fun c9 => absurd (rfl) c9) (fun _ => ?_)
  refine R.iconst (v := 0) dX13_takesParent_29 rfl ?_
  refine WP.ret (ov := some (.int _)) dX13_takesParent_30 ⟨rfl, _, rfl, by first | rfl | assumption | exact nar_b01 (by assumption)⟩ ?_
  exact hq M3 h3
theorem cn_lt {b : Nat → Int32} {n e m w j : Nat} {Y : Yd} (hB : CrB Y m w) (h : nnC b n e = 0) (hc : cnF Y (nmF b (tS b n e) (tE b n e)) 16 0 = some j) : j < m := by
  obtain ⟨h1, h2⟩ := cn_cv hB h hc
  have hm := hB.1
  apply Decidable.byContradiction
  intro z
  exact h2 (by rw [hB.2.2.1]; exact nI_le (by omega) (by omega))
theorem bn_lt {b : Nat → Int32} {n e m w j : Nat} {Y : Yd} (hB : CrB Y m w) (h : nnC b n e = 0) (hc : bnF Y (nmF b (tS b n e) (tE b n e)) 6 0 = some j) : j < w := by
  obtain ⟨h1, h2⟩ := bn_cv hB h hc
  have hm := hB.2.1
  apply Decidable.byContradiction
  intro z
  exact h2 (by rw [hB.2.2.2.1]; exact nI_le (by omega) (by omega))
set_option maxHeartbeats 1000000 in
set_option maxRecDepth 4000 in
theorem p_paR {d n e : Nat} {b w N : Nat → Int32} {RR : OR9} {M0 M : Mem} {Q : Out → Mem → Prop} {Y : Yd} {m b9 K : Nat} (h : PQ M0 M b n e w N RR) (hR : RW Y m b9 K w) (hB : CrB Y m b9) (hA : Acy Y) (hw : isW b (tS b n e) (tE b n e) (tK b n e) 30 = true) (c1 : nnC b n (tE b n e) = 0) (hc : ¬ rqC b (tS b n (tE b n e)) (tE b n (tE b n e)) Y = 0) (hq : ∀ M', PX M0 M' (rqC b (tS b n (tE b n e)) (tE b n (tE b n e)) Y) (tS b n (tE b n e)) w → Q (.inl (some (.int 0))) M') : WPc (d + 5) mX13_takesParent [.ref (rf 11 0)] M Q := by
  refine WPc.of (by decide +kernel) (Nat.le_of_ble_eq_true rfl) rfl ?_
  unfold rqC at hc hq
  cases hj : cnF Y (nmF b (tS b n (tE b n e)) (tE b n (tE b n e))) 16 0 with
  | none =>
    simp only [hj] at hq
    refine R.aload_n dX13_takesParent_0 rfl (by first | rfl | exact rfv_rf _) ?_
    refine R.getS (h.l.1.2.2.2.2.2.2.1) dX13_takesParent_1 fl_X13_32 (by decide) rfl ?_
    refine R.iconst (v := nI 2) dX13_takesParent_4 rfl ?_
    refine R.iconst (v := -1) dX13_takesParent_5 rfl ?_
    refine R.iastN (k := 2) dX13_takesParent_6 (by omega) (by rw [h.l.2.2.2.2.2.2.2.1]; omega) ?_
    have h1 := h.num 2 (-1)
    refine R.aload_n dX13_takesParent_7 rfl (by first | rfl | exact rfv_rf _) ?_
    refine R.ldcS (i := 30) rfl dX13_takesParent_8 ?_
    refine cl_X13_254 rfl rfl (by first | exact Nat.le_of_ble_eq_true rfl | simp [rf_cat, Value.category]) dX13_takesParent_10 ?_
    refine p_isW (v := 30) h1 (by decide) ?_
    rw [if_pos hw]
    refine R.if_ne (tgt := 18) dX13_takesParent_13 (by decide) (fun _ => ?_) (fun c9 => absurd c9 (by decide))
    refine R.aload_n dX13_takesParent_18 rfl (by first | rfl | exact rfv_rf _) ?_
    refine cl_X13_233 rfl rfl (by first | exact Nat.le_of_ble_eq_true rfl | simp [rf_cat, Value.category]) dX13_takesParent_19 ?_
    refine p_adv h1 (fun M2 h2 => ?_)
    refine R.aload_n dX13_takesParent_22 rfl (by first | rfl | exact rfv_rf _) ?_
    refine cl_X13_242 rfl rfl (by first | exact Nat.le_of_ble_eq_true rfl | simp [rf_cat, Value.category]) dX13_takesParent_23 ?_
    refine p_nmS h2 c1 ?_
    refine R.if_ne (tgt := 31) dX13_takesParent_26 (by decide) (fun _ => ?_) (fun c9 => absurd c9 (by decide))
    refine R.aload_n dX13_takesParent_31 rfl (by first | rfl | exact rfv_rf _) ?_
    refine R.getS (h2.l.1.2.2.2.2.2.2.1) dX13_takesParent_32 fl_X13_32 (by decide) rfl ?_
    refine R.iconst (v := nI 2) dX13_takesParent_35 rfl ?_
    refine R.aload_n dX13_takesParent_36 rfl (by first | rfl | exact rfv_rf _) ?_
    refine cl_X13_246 rfl rfl (by first | exact Nat.le_of_ble_eq_true rfl | simp [rf_cat, Value.category]) dX13_takesParent_37 ?_
    refine p_cH h2 hR hB c1 ?_
    rw [hj]
    change WP _ _ _ _ (.int (-1) :: _) _ _
    refine R.iastN (k := 2) dX13_takesParent_40 (by omega) (by rw [h2.l.2.2.2.2.2.2.2.1]; omega) ?_
    refine R.aload_n dX13_takesParent_41 rfl (by first | rfl | exact rfv_rf _) ?_
    refine R.getS (h2.l.1.2.2.2.2.2.2.1) dX13_takesParent_42 fl_X13_32 (by decide) rfl ?_
    refine R.iconst (v := nI 2) dX13_takesParent_45 rfl ?_
    refine R.ialdN (k := 2) dX13_takesParent_46 (by omega) (by show _ < mN M2 14 6; rw [h2.l.2.2.2.2.2.2.2.1]; omega) ?_
    rw [mI_sI, if_pos ⟨rfl, rfl, rfl⟩]
    refine R.iconst (v := -1) dX13_takesParent_47 rfl ?_
    refine R.icmp_ne (tgt := 57) dX13_takesParent_48 (by decide) (fun c9 => absurd (rfl) c9) (fun _ => ?_)
    refine R.aload_n dX13_takesParent_51 rfl (by first | rfl | exact rfv_rf _) ?_
    refine R.iconst (v := 4) dX13_takesParent_52 rfl ?_
    refine cl_X13_224 rfl rfl (by first | exact Nat.le_of_ble_eq_true rfl | simp [rf_cat, Value.category]) dX13_takesParent_53 ?_
    refine p_fail (h2.num 2 (-1)) (fun M3 h3 => ?_)
    refine WP.ret (ov := some (.int _)) dX13_takesParent_56 ⟨rfl, _, rfl, by first | rfl | assumption | exact nar_b01 (by assumption)⟩ ?_
    exact hq M3 h3
  | some j =>
    simp only [hj] at hc hq
    have hjm := cn_lt hB c1 hj
    have hm16 := hB.1
    by_cases c5 : nI (dp Y j) < 5
    · rw [if_pos c5] at hc; exact absurd rfl hc
    · rw [if_neg c5] at hq
      have d5 : dp Y j = 5 := by
        have := dp_le Y j
        have h5 : ¬ dp Y j < 5 := fun q => c5 (nI_lt (b := 5) q (by omega))
        omega
      refine R.aload_n dX13_takesParent_0 rfl (by first | rfl | exact rfv_rf _) ?_
      refine R.getS (h.l.1.2.2.2.2.2.2.1) dX13_takesParent_1 fl_X13_32 (by decide) rfl ?_
      refine R.iconst (v := nI 2) dX13_takesParent_4 rfl ?_
      refine R.iconst (v := -1) dX13_takesParent_5 rfl ?_
      refine R.iastN (k := 2) dX13_takesParent_6 (by omega) (by rw [h.l.2.2.2.2.2.2.2.1]; omega) ?_
      have h1 := h.num 2 (-1)
      refine R.aload_n dX13_takesParent_7 rfl (by first | rfl | exact rfv_rf _) ?_
      refine R.ldcS (i := 30) rfl dX13_takesParent_8 ?_
      refine cl_X13_254 rfl rfl (by first | exact Nat.le_of_ble_eq_true rfl | simp [rf_cat, Value.category]) dX13_takesParent_10 ?_
      refine p_isW (v := 30) h1 (by decide) ?_
      rw [if_pos hw]
      refine R.if_ne (tgt := 18) dX13_takesParent_13 (by decide) (fun _ => ?_) (fun c9 => absurd c9 (by decide))
      refine R.aload_n dX13_takesParent_18 rfl (by first | rfl | exact rfv_rf _) ?_
      refine cl_X13_233 rfl rfl (by first | exact Nat.le_of_ble_eq_true rfl | simp [rf_cat, Value.category]) dX13_takesParent_19 ?_
      refine p_adv h1 (fun M2 h2 => ?_)
      refine R.aload_n dX13_takesParent_22 rfl (by first | rfl | exact rfv_rf _) ?_
      refine cl_X13_242 rfl rfl (by first | exact Nat.le_of_ble_eq_true rfl | simp [rf_cat, Value.category]) dX13_takesParent_23 ?_
      refine p_nmS h2 c1 ?_
      refine R.if_ne (tgt := 31) dX13_takesParent_26 (by decide) (fun _ => ?_) (fun c9 => absurd c9 (by decide))
      refine R.aload_n dX13_takesParent_31 rfl (by first | rfl | exact rfv_rf _) ?_
      refine R.getS (h2.l.1.2.2.2.2.2.2.1) dX13_takesParent_32 fl_X13_32 (by decide) rfl ?_
      refine R.iconst (v := nI 2) dX13_takesParent_35 rfl ?_
      refine R.aload_n dX13_takesParent_36 rfl (by first | rfl | exact rfv_rf _) ?_
      refine cl_X13_246 rfl rfl (by first | exact Nat.le_of_ble_eq_true rfl | simp [rf_cat, Value.category]) dX13_takesParent_37 ?_
      refine p_cH h2 hR hB c1 ?_
      rw [hj]
      change WP _ _ _ _ (.int (nI j) :: _) _ _
      refine R.iastN (k := 2) dX13_takesParent_40 (by omega) (by rw [h2.l.2.2.2.2.2.2.2.1]; omega) ?_
      refine R.aload_n dX13_takesParent_41 rfl (by first | rfl | exact rfv_rf _) ?_
      refine R.getS (h2.l.1.2.2.2.2.2.2.1) dX13_takesParent_42 fl_X13_32 (by decide) rfl ?_
      refine R.iconst (v := nI 2) dX13_takesParent_45 rfl ?_
      refine R.ialdN (k := 2) dX13_takesParent_46 (by omega) (by show _ < mN M2 14 6; rw [h2.l.2.2.2.2.2.2.2.1]; omega) ?_
      rw [mI_sI, if_pos ⟨rfl, rfl, rfl⟩]
      refine R.iconst (v := -1) dX13_takesParent_47 rfl ?_
      refine R.icmp_ne (tgt := 57) dX13_takesParent_48 (by decide) (fun _ => ?_) (fun c9 => absurd c9 (nI_m1 (by omega)))
      refine R.aload_n dX13_takesParent_57 rfl (by first | rfl | exact rfv_rf _) ?_
      refine R.aload_n dX13_takesParent_58 rfl (by first | rfl | exact rfv_rf _) ?_
      refine R.getS (h2.l.1.2.2.2.2.2.2.1) dX13_takesParent_59 fl_X13_32 (by decide) rfl ?_
      refine R.iconst (v := nI 2) dX13_takesParent_62 rfl ?_
      refine R.ialdN (k := 2) dX13_takesParent_63 (by omega) (by show _ < mN M2 14 6; rw [h2.l.2.2.2.2.2.2.2.1]; omega) ?_
      rw [mI_sI, if_pos ⟨rfl, rfl, rfl⟩]
      refine cl_X13_151 rfl rfl (by first | exact Nat.le_of_ble_eq_true rfl | simp [rf_cat, Value.category]) dX13_takesParent_64 ?_
      refine atW (show mI (sI M2 14 6 2 (nI j)) 14 0 = w from (h2.num 2 (nI j)).w) ?_
      refine m_depth (d := d + 3) (h2.num 2 (nI j)).l hR.t hA hjm ?_
      rw [bW (show mI (sI M2 14 6 2 (nI j)) 14 0 = w from (h2.num 2 (nI j)).w)]
      rw [d5]
      refine R.iconst (v := nI 5) dX13_takesParent_67 rfl ?_
      refine R.icmp_ne (tgt := 77) dX13_takesParent_68 (by decide) (fun c9 => absurd (rfl) c9) (fun _ => ?_)
      refine R.aload_n dX13_takesParent_71 rfl (by first | rfl | exact rfv_rf _) ?_
      refine R.iconst (v := 5) dX13_takesParent_72 rfl ?_
      refine cl_X13_224 rfl rfl (by first | exact Nat.le_of_ble_eq_true rfl | simp [rf_cat, Value.category]) dX13_takesParent_73 ?_
      refine p_fail (h2.num 2 (nI j)) (fun M3 h3 => ?_)
      refine WP.ret (ov := some (.int _)) dX13_takesParent_76 ⟨rfl, _, rfl, by first | rfl | assumption | exact nar_b01 (by assumption)⟩ ?_
      exact hq M3 h3
set_option maxHeartbeats 1000000 in
set_option maxRecDepth 4000 in
theorem p_paS {d n e : Nat} {b w N : Nat → Int32} {RR : OR9} {M0 M : Mem} {Q : Out → Mem → Prop} {Y : Yd} {m b9 K j : Nat} (h : PQ M0 M b n e w N RR) (hR : RW Y m b9 K w) (hB : CrB Y m b9) (hA : Acy Y) (hw : isW b (tS b n e) (tE b n e) (tK b n e) 30 = true) (c1 : nnC b n (tE b n e) = 0) (hc : rqC b (tS b n (tE b n e)) (tE b n (tE b n e)) Y = 0) (hj : cnF Y (nmF b (tS b n (tE b n e)) (tE b n (tE b n e))) 16 0 = some j) (hq : ∀ M', PQ M0 M' b n (tE b n (tE b n e)) w (upW (upW N 2 (-1)) 2 (nI j)) RR → Q (.inl (some (.int 1))) M') : WPc (d + 5) mX13_takesParent [.ref (rf 11 0)] M Q := by
  refine WPc.of (by decide +kernel) (Nat.le_of_ble_eq_true rfl) rfl ?_
  have hjm := cn_lt hB c1 hj
  have hm16 := hB.1
  have d5 : ¬ nI (dp Y j) = nI 5 := by
    unfold rqC at hc
    simp only [hj] at hc
    intro q
    rw [q] at hc
    exact absurd hc (by decide)
  refine R.aload_n dX13_takesParent_0 rfl (by first | rfl | exact rfv_rf _) ?_
  refine R.getS (h.l.1.2.2.2.2.2.2.1) dX13_takesParent_1 fl_X13_32 (by decide) rfl ?_
  refine R.iconst (v := nI 2) dX13_takesParent_4 rfl ?_
  refine R.iconst (v := -1) dX13_takesParent_5 rfl ?_
  refine R.iastN (k := 2) dX13_takesParent_6 (by omega) (by rw [h.l.2.2.2.2.2.2.2.1]; omega) ?_
  have h1 := h.num 2 (-1)
  refine R.aload_n dX13_takesParent_7 rfl (by first | rfl | exact rfv_rf _) ?_
  refine R.ldcS (i := 30) rfl dX13_takesParent_8 ?_
  refine cl_X13_254 rfl rfl (by first | exact Nat.le_of_ble_eq_true rfl | simp [rf_cat, Value.category]) dX13_takesParent_10 ?_
  refine p_isW (v := 30) h1 (by decide) ?_
  rw [if_pos hw]
  refine R.if_ne (tgt := 18) dX13_takesParent_13 (by decide) (fun _ => ?_) (fun c9 => absurd c9 (by decide))
  refine R.aload_n dX13_takesParent_18 rfl (by first | rfl | exact rfv_rf _) ?_
  refine cl_X13_233 rfl rfl (by first | exact Nat.le_of_ble_eq_true rfl | simp [rf_cat, Value.category]) dX13_takesParent_19 ?_
  refine p_adv h1 (fun M2 h2 => ?_)
  refine R.aload_n dX13_takesParent_22 rfl (by first | rfl | exact rfv_rf _) ?_
  refine cl_X13_242 rfl rfl (by first | exact Nat.le_of_ble_eq_true rfl | simp [rf_cat, Value.category]) dX13_takesParent_23 ?_
  refine p_nmS h2 c1 ?_
  refine R.if_ne (tgt := 31) dX13_takesParent_26 (by decide) (fun _ => ?_) (fun c9 => absurd c9 (by decide))
  refine R.aload_n dX13_takesParent_31 rfl (by first | rfl | exact rfv_rf _) ?_
  refine R.getS (h2.l.1.2.2.2.2.2.2.1) dX13_takesParent_32 fl_X13_32 (by decide) rfl ?_
  refine R.iconst (v := nI 2) dX13_takesParent_35 rfl ?_
  refine R.aload_n dX13_takesParent_36 rfl (by first | rfl | exact rfv_rf _) ?_
  refine cl_X13_246 rfl rfl (by first | exact Nat.le_of_ble_eq_true rfl | simp [rf_cat, Value.category]) dX13_takesParent_37 ?_
  refine p_cH h2 hR hB c1 ?_
  rw [hj]
  change WP _ _ _ _ (.int (nI j) :: _) _ _
  refine R.iastN (k := 2) dX13_takesParent_40 (by omega) (by rw [h2.l.2.2.2.2.2.2.2.1]; omega) ?_
  refine R.aload_n dX13_takesParent_41 rfl (by first | rfl | exact rfv_rf _) ?_
  refine R.getS (h2.l.1.2.2.2.2.2.2.1) dX13_takesParent_42 fl_X13_32 (by decide) rfl ?_
  refine R.iconst (v := nI 2) dX13_takesParent_45 rfl ?_
  refine R.ialdN (k := 2) dX13_takesParent_46 (by omega) (by show _ < mN M2 14 6; rw [h2.l.2.2.2.2.2.2.2.1]; omega) ?_
  rw [mI_sI, if_pos ⟨rfl, rfl, rfl⟩]
  refine R.iconst (v := -1) dX13_takesParent_47 rfl ?_
  refine R.icmp_ne (tgt := 57) dX13_takesParent_48 (by decide) (fun _ => ?_) (fun c9 => absurd c9 (nI_m1 (by omega)))
  refine R.aload_n dX13_takesParent_57 rfl (by first | rfl | exact rfv_rf _) ?_
  refine R.aload_n dX13_takesParent_58 rfl (by first | rfl | exact rfv_rf _) ?_
  refine R.getS (h2.l.1.2.2.2.2.2.2.1) dX13_takesParent_59 fl_X13_32 (by decide) rfl ?_
  refine R.iconst (v := nI 2) dX13_takesParent_62 rfl ?_
  refine R.ialdN (k := 2) dX13_takesParent_63 (by omega) (by show _ < mN M2 14 6; rw [h2.l.2.2.2.2.2.2.2.1]; omega) ?_
  rw [mI_sI, if_pos ⟨rfl, rfl, rfl⟩]
  refine cl_X13_151 rfl rfl (by first | exact Nat.le_of_ble_eq_true rfl | simp [rf_cat, Value.category]) dX13_takesParent_64 ?_
  refine atW (show mI (sI M2 14 6 2 (nI j)) 14 0 = w from (h2.num 2 (nI j)).w) ?_
  refine m_depth (d := d + 3) (h2.num 2 (nI j)).l hR.t hA hjm ?_
  rw [bW (show mI (sI M2 14 6 2 (nI j)) 14 0 = w from (h2.num 2 (nI j)).w)]
  refine R.iconst (v := nI 5) dX13_takesParent_67 rfl ?_
  refine R.icmp_ne (tgt := 77) dX13_takesParent_68 (by decide) (fun _ => ?_) (fun c9 => absurd c9 (d5))
  refine R.aload_n dX13_takesParent_77 rfl (by first | rfl | exact rfv_rf _) ?_
  refine cl_X13_233 rfl rfl (by first | exact Nat.le_of_ble_eq_true rfl | simp [rf_cat, Value.category]) dX13_takesParent_78 ?_
  refine p_adv (h2.num 2 (nI j)) (fun M3 h3 => ?_)
  refine R.iconst (v := 1) dX13_takesParent_81 rfl ?_
  refine WP.ret (ov := some (.int _)) dX13_takesParent_82 ⟨rfl, _, rfl, by first | rfl | assumption | exact nar_b01 (by assumption)⟩ ?_
  exact hq M3 h3
