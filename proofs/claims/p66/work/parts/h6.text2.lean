/-! strings appended, the string made, its length and its letters -/
/-- string i, made by the law: its bytes are array w -/
def StO (M : Mem) (i w : Nat) (O : List Int32) : Prop := mR M 36 i 0 = some (rf 13 w) ∧ mI M 36 i 1 = 0 ∧ mN M 13 w = O.length ∧ ∀ j x, O[j]? = some x → mI M 13 w j = x
def sBy (i : Nat) : List Int32 := (List.range (sLn i)).map (sB i)
theorem sBy_len (i : Nat) : (sBy i).length = sLn i := by unfold sBy; rw [List.length_map, List.length_range]
theorem sBy_at {i j : Nat} (h : j < sLn i) : (sBy i)[j]? = some (sB i j) := by unfold sBy; rw [List.getElem?_map, List.getElem?_range h]; rfl
theorem sB_a : ∀ i, i < 23 → ∀ j, j < sLn i → (sB i j).toNatClampNeg < 128 ∧ sB i j = nI (sB i j).toNatClampNeg := by decide +kernel
/-- a text of plain letters -/
def Pl (O : List Int32) : Prop := ∀ x, x ∈ O → ∃ k, x = nI k ∧ k < 128
set_option maxHeartbeats 1000000 in
set_option maxRecDepth 4000 in
theorem t_cod {d : Nat} {i : Nat} {M : Mem} {Q : Out → Mem → Prop} (h : mI M 36 i 1 = 0) (hq : Q (.inl (some (.int 0))) M) : WPc d mJ0_coder_7d493 [.ref (rf 36 i)] M Q := by
  refine WPc.of (by decide +kernel) (Nat.le_of_ble_eq_true rfl) rfl ?_
  refine R.gsCompact (gt_i 430 (by decide +kernel) rfl) dJ0_coder_7d493_0 ?_
  refine R.if_eq (tgt := 13) dJ0_coder_7d493_3 (by decide) (fun c => absurd c (by decide)) (fun _ => ?_)
  refine R.aload_n dJ0_coder_7d493_6 rfl (by first | rfl | exact rfv_rf _) ?_
  refine R.getIS (h) dJ0_coder_7d493_7 fl_J0_15 (by decide) rfl ?_
  refine R.goto (tgt := 14) dJ0_coder_7d493_10 (by decide) ?_
  refine WP.ret (ov := some (.int _)) dJ0_coder_7d493_14 ⟨rfl, _, rfl, by first | rfl | assumption | exact nar_b01 (by assumption)⟩ ?_
  exact hq
set_option maxHeartbeats 1000000 in
set_option maxRecDepth 4000 in
theorem t_len36 {d : Nat} {i w : Nat} {O : List Int32} {M : Mem} {Q : Out → Mem → Prop} (h : StO M i w O) (hq : Q (.inl (some (.int (nI O.length)))) M) : WPc (d + 1) mJ0_length_8abf5 [.ref (rf 36 i)] M Q := by
  refine WPc.of (by decide +kernel) (Nat.le_of_ble_eq_true rfl) rfl ?_
  refine R.aload_n dJ0_length_8abf5_0 rfl (by first | rfl | exact rfv_rf _) ?_
  refine R.getS (h.1) dJ0_length_8abf5_1 fl_J0_9 (by decide) rfl ?_
  refine R.alenS h.2.2.1 (by decide) (by decide) dJ0_length_8abf5_4 ?_
  refine R.aload_n dJ0_length_8abf5_5 rfl (by first | rfl | exact rfv_rf _) ?_
  refine cn_J0_335 rfl rfl (by first | exact Nat.le_of_ble_eq_true rfl | simp [rf_cat, Value.category]) dJ0_length_8abf5_6 ?_
  refine t_cod h.2.1 ?_
  refine R.ishr dJ0_length_8abf5_9 ?_
  rw [nI_shr0]
  refine WP.ret (ov := some (.int _)) dJ0_length_8abf5_10 ⟨rfl, _, rfl, by first | rfl | assumption | exact nar_b01 (by assumption)⟩ ?_
  exact hq
set_option maxHeartbeats 1000000 in
set_option maxRecDepth 4000 in
theorem t_lat36 {d : Nat} {i : Nat} {M : Mem} {Q : Out → Mem → Prop} (h : mI M 36 i 1 = 0) (hq : Q (.inl (some (.int 1))) M) : WPc d mJ0_isLatin1_aae02 [.ref (rf 36 i)] M Q := by
  refine WPc.of (by decide +kernel) (Nat.le_of_ble_eq_true rfl) rfl ?_
  refine R.gsCompact (gt_i 430 (by decide +kernel) rfl) dJ0_isLatin1_aae02_0 ?_
  refine R.if_eq (tgt := 17) dJ0_isLatin1_aae02_3 (by decide) (fun c => absurd c (by decide)) (fun _ => ?_)
  refine R.aload_n dJ0_isLatin1_aae02_6 rfl (by first | rfl | exact rfv_rf _) ?_
  refine R.getIS (h) dJ0_isLatin1_aae02_7 fl_J0_15 (by decide) rfl ?_
  refine R.if_ne (tgt := 17) dJ0_isLatin1_aae02_10 (by decide) (fun c => absurd rfl c) (fun _ => ?_)
  refine R.iconst (v := 1) dJ0_isLatin1_aae02_13 rfl ?_
  refine R.goto (tgt := 18) dJ0_isLatin1_aae02_14 (by decide) ?_
  refine WP.ret (ov := some (.int _)) dJ0_isLatin1_aae02_18 ⟨rfl, _, rfl, by first | rfl | assumption | exact nar_b01 (by assumption)⟩ ?_
  exact hq
set_option maxHeartbeats 1000000 in
set_option maxRecDepth 4000 in
theorem t_at13 {d : Nat} {w n j k : Nat} {M : Mem} {Q : Out → Mem → Prop} (hn : mN M 13 w = n) (hj : j < n) (hn2 : n < 1000) (hx : mI M 13 w j = nI k) (hk : k < 128) (hq : Q (.inl (some (.int (nI k)))) M) : WPc (d + 2) mJ1_charAt_3b067 [.ref (rf 13 w), .int (nI j)] M Q := by
  refine WPc.of (by decide +kernel) (Nat.le_of_ble_eq_true rfl) rfl ?_
  refine R.iload_n dJ1_charAt_3b067_0 rfl ?_
  refine R.aload_n dJ1_charAt_3b067_1 rfl (by first | rfl | exact rfv_rf _) ?_
  refine R.alenS hn (by decide) (by decide) dJ1_charAt_3b067_2 ?_
  refine cl_J1_9 rfl rfl (by first | exact Nat.le_of_ble_eq_true rfl | simp [rf_cat, Value.category]) dJ1_charAt_3b067_3 ?_
  refine s_chk (nI_pos (by omega)) (nI_lt hj (by omega)) ?_
  refine R.aload_n dJ1_charAt_3b067_6 rfl (by first | rfl | exact rfv_rf _) ?_
  refine R.iload_n dJ1_charAt_3b067_7 rfl ?_
  refine R.bald dJ1_charAt_3b067_8 (nI_pos (by omega)) (by rw [nI_clamp (by omega)]; omega) ?_
  rw [nI_clamp (by omega), hx]
  refine R.sipush (v := 255) dJ1_charAt_3b067_9 (by decide) ?_
  refine R.iand dJ1_charAt_3b067_12 ?_
  refine R.i2c dJ1_charAt_3b067_13 ?_
  rw [ch_and hk]
  refine WP.ret (ov := some (.int _)) dJ1_charAt_3b067_14 ⟨rfl, _, rfl, nar_ch (i2c_k hk)⟩ hq
set_option maxHeartbeats 1000000 in
set_option maxRecDepth 4000 in
theorem t_ch36 {d : Nat} {i w j k : Nat} {O : List Int32} {M : Mem} {Q : Out → Mem → Prop} (h : StO M i w O) (hl : O.length < 1000) (hx : O[j]? = some (nI k)) (hk : k < 128) (hq : Q (.inl (some (.int (nI k)))) M) : WPc (d + 3) mJ0_charAt_5068e [.ref (rf 36 i), .int (nI j)] M Q := by
  refine WPc.of (by decide +kernel) (Nat.le_of_ble_eq_true rfl) rfl ?_
  refine R.aload_n dJ0_charAt_5068e_0 rfl (by first | rfl | exact rfv_rf _) ?_
  refine cn_J0_492 rfl rfl (by first | exact Nat.le_of_ble_eq_true rfl | simp [rf_cat, Value.category]) dJ0_charAt_5068e_1 ?_
  refine t_lat36 h.2.1 ?_
  refine R.if_eq (tgt := 16) dJ0_charAt_5068e_4 (by decide) (fun c => absurd c (by decide)) (fun _ => ?_)
  refine R.aload_n dJ0_charAt_5068e_7 rfl (by first | rfl | exact rfv_rf _) ?_
  refine R.getS (h.1) dJ0_charAt_5068e_8 fl_J0_9 (by decide) rfl ?_
  refine R.iload_n dJ0_charAt_5068e_11 rfl ?_
  refine cl_J0_495 rfl rfl (by first | exact Nat.le_of_ble_eq_true rfl | simp [rf_cat, Value.category]) dJ0_charAt_5068e_12 ?_
  refine t_at13 h.2.2.1 (List.getElem?_eq_some_iff.mp hx).1 hl (h.2.2.2 _ _ hx) hk ?_
  refine WP.ret (ov := some (.int _)) dJ0_charAt_5068e_15 ⟨rfl, _, rfl, nar_ch (i2c_k hk)⟩ hq
set_option maxHeartbeats 1000000 in
set_option maxRecDepth 4000 in
theorem t_gval {d : Nat} {v : Nat} {M : Mem} {Q : Out → Mem → Prop} (h : mR M 12 1 0 = some (rf 13 v)) (hq : Q (.inl (some (.ref (rf 13 v)))) M) : WPc d mJ5_getValue_6d5f1 [.ref (rf 12 1)] M Q := by
  refine WPc.of (by decide +kernel) (Nat.le_of_ble_eq_true rfl) rfl ?_
  refine R.aload_n dJ5_getValue_6d5f1_0 rfl (by first | rfl | exact rfv_rf _) ?_
  refine R.getS (h) dJ5_getValue_6d5f1_1 fl_J5_15 (by decide) rfl ?_
  first | refine WP.ret (ov := some (.ref _)) dJ5_getValue_6d5f1_4 ⟨rfl, _, rfl, Or.inl ⟨_, rfl⟩⟩ ?_ | refine WP.ret (ov := some (.ref _)) dJ5_getValue_6d5f1_4 ⟨rfl, _, rfl, Or.inr ⟨_, rfl⟩⟩ ?_ | refine WP.ret (ov := some .null) dJ5_getValue_6d5f1_4 ⟨rfl, _, rfl, Or.inl ⟨_, rfl⟩⟩ ?_
  exact hq
set_option maxHeartbeats 1000000 in
set_option maxRecDepth 4000 in
theorem t_len5 {d : Nat} {n : Int32} {M : Mem} {Q : Out → Mem → Prop} (h : mI M 12 1 3 = n) (hq : Q (.inl (some (.int n))) M) : WPc d mJ5_length_8abf5 [.ref (rf 12 1)] M Q := by
  refine WPc.of (by decide +kernel) (Nat.le_of_ble_eq_true rfl) rfl ?_
  refine R.aload_n dJ5_length_8abf5_0 rfl (by first | rfl | exact rfv_rf _) ?_
  refine R.getIS (h) dJ5_length_8abf5_1 fl_J5_79 (by decide) rfl ?_
  refine WP.ret (ov := some (.int _)) dJ5_length_8abf5_4 ⟨rfl, _, rfl, by first | rfl | assumption | exact nar_b01 (by assumption)⟩ ?_
  exact hq
set_option maxHeartbeats 1000000 in
set_option maxRecDepth 4000 in
theorem t_len4 {d : Nat} {n : Int32} {M : Mem} {Q : Out → Mem → Prop} (h : mI M 12 1 3 = n) (hq : Q (.inl (some (.int n))) M) : WPc (d + 1) mJ4_length_8abf5 [.ref (rf 12 1)] M Q := by
  refine WPc.of (by decide +kernel) (Nat.le_of_ble_eq_true rfl) rfl ?_
  refine R.aload_n dJ4_length_8abf5_0 rfl (by first | rfl | exact rfv_rf _) ?_
  refine cl_J4_343 rfl rfl (by first | exact Nat.le_of_ble_eq_true rfl | simp [rf_cat, Value.category]) dJ4_length_8abf5_1 ?_
  refine t_len5 h ?_
  refine WP.ret (ov := some (.int _)) dJ4_length_8abf5_4 ⟨rfl, _, rfl, by first | rfl | assumption | exact nar_b01 (by assumption)⟩ ?_
  exact hq
set_option maxHeartbeats 1000000 in
set_option maxRecDepth 4000 in
theorem t_infl {d : Nat} {i : Nat} {M : Mem} {Q : Out → Mem → Prop} (hi : i < 23) (h : mI M 12 1 1 = 0) (hq : Q (.inl none) M) : WPc (d + 1) mJ5_inflateIfNeededFor_a7421 [.ref (rf 12 1), .ref (rf 21 i)] M Q := by
  refine WPc.of (by decide +kernel) (Nat.le_of_ble_eq_true rfl) rfl ?_
  refine R.gsCompact (gt_i 391 (by decide +kernel) rfl) dJ5_inflateIfNeededFor_a7421_0 ?_
  refine R.if_eq (tgt := 21) dJ5_inflateIfNeededFor_a7421_3 (by decide) (fun c => absurd c (by decide)) (fun _ => ?_)
  refine R.aload_n dJ5_inflateIfNeededFor_a7421_6 rfl (by first | rfl | exact rfv_rf _) ?_
  refine R.getIS (h) dJ5_inflateIfNeededFor_a7421_7 fl_J5_22 (by decide) rfl ?_
  refine R.aload_n dJ5_inflateIfNeededFor_a7421_10 rfl (by first | rfl | exact rfv_rf _) ?_
  refine cc_J5_40 hi rfl rfl (by first | exact Nat.le_of_ble_eq_true rfl | simp [rf_cat, Value.category]) dJ5_inflateIfNeededFor_a7421_11 ?_
  refine s_strCoder hi ?_
  refine R.icmp_eq (tgt := 21) dJ5_inflateIfNeededFor_a7421_14 (by decide) (fun _ => ?_) (fun c => absurd rfl c)
  refine WP.ret (ov := none) dJ5_inflateIfNeededFor_a7421_21 ⟨rfl, rfl⟩ ?_
  exact hq
set_option maxHeartbeats 1000000 in
set_option maxRecDepth 4000 in
theorem t_gby {d : Nat} {i w b : Nat} {M : Mem} {Q : Out → Mem → Prop} (hi : i < 23) (hb : b + sLn i ≤ mN M 13 w) (hw : mN M 13 w < 2 ^ 31) (hq : Q (.inl none) (scM M i w b (sLn i))) : WPc (d + 1) mJ0_getBytes_840e7 [.ref (rf 21 i), .ref (rf 13 w), .int (nI b), .int 0] M Q := by
  refine WPc.of (by decide +kernel) (Nat.le_of_ble_eq_true rfl) rfl ?_
  refine R.aload_n dJ0_getBytes_840e7_0 rfl (by first | rfl | exact rfv_rf _) ?_
  refine cl_J0_335 hi rfl rfl (by first | exact Nat.le_of_ble_eq_true rfl | simp [rf_cat, Value.category]) dJ0_getBytes_840e7_1 ?_
  refine s_strCoder hi ?_
  refine R.iload_n dJ0_getBytes_840e7_4 rfl ?_
  refine R.icmp_ne (tgt := 28) dJ0_getBytes_840e7_5 (by decide) (fun c => absurd rfl c) (fun _ => ?_)
  refine R.aload_n dJ0_getBytes_840e7_8 rfl (by first | rfl | exact rfv_rf _) ?_
  refine R.strValue hi (gt_i 1680 (by decide +kernel) rfl) dJ0_getBytes_840e7_9 ?_
  refine R.iconst (v := 0) dJ0_getBytes_840e7_12 rfl ?_
  refine R.aload_n dJ0_getBytes_840e7_13 rfl (by first | rfl | exact rfv_rf _) ?_
  refine R.iload_n dJ0_getBytes_840e7_14 rfl ?_
  refine R.iload_n dJ0_getBytes_840e7_15 rfl ?_
  refine R.ishl dJ0_getBytes_840e7_16 ?_
  rw [nI_shl0]
  refine R.aload_n dJ0_getBytes_840e7_17 rfl (by first | rfl | exact rfv_rf _) ?_
  refine R.strValue hi (gt_i 1680 (by decide +kernel) rfl) dJ0_getBytes_840e7_18 ?_
  refine R.strAlen hi dJ0_getBytes_840e7_21 ?_
  refine R.scopy hi dJ0_getBytes_840e7_22 (gt_i 1594 (by decide +kernel) rfl) (by omega) rfl hb hw (by omega) (by first | exact Nat.le_of_ble_eq_true rfl | simp [rf_cat, Value.category]) ?_
  refine R.goto (tgt := 43) dJ0_getBytes_840e7_25 (by decide) ?_
  refine WP.ret (ov := none) dJ0_getBytes_840e7_43 ⟨rfl, rfl⟩ ?_
  exact hq
set_option maxHeartbeats 1000000 in
set_option maxRecDepth 4000 in
theorem t_put {d : Nat} {i v b : Nat} {M : Mem} {Q : Out → Mem → Prop} (hi : i < 23) (a1 : mR M 12 1 0 = some (rf 13 v)) (b1 : mI M 12 1 1 = 0) (hb : b + sLn i ≤ mN M 13 v) (hw : mN M 13 v < 2 ^ 31) (hq : Q (.inl none) (scM M i v b (sLn i))) : WPc (d + 2) mJ5_putStringAt_47b60 [.ref (rf 12 1), .int (nI b), .ref (rf 21 i)] M Q := by
  refine WPc.of (by decide +kernel) (Nat.le_of_ble_eq_true rfl) rfl ?_
  refine R.aload_n dJ5_putStringAt_47b60_0 rfl (by first | rfl | exact rfv_rf _) ?_
  refine R.aload_n dJ5_putStringAt_47b60_1 rfl (by first | rfl | exact rfv_rf _) ?_
  refine cl_J5_397 rfl rfl (by first | exact Nat.le_of_ble_eq_true rfl | simp [rf_cat, Value.category]) dJ5_putStringAt_47b60_2 ?_
  refine t_infl hi b1 ?_
  refine R.aload_n dJ5_putStringAt_47b60_5 rfl (by first | rfl | exact rfv_rf _) ?_
  refine R.aload_n dJ5_putStringAt_47b60_6 rfl (by first | rfl | exact rfv_rf _) ?_
  refine R.getS (a1) dJ5_putStringAt_47b60_7 fl_J5_15 (by decide) rfl ?_
  refine R.iload_n dJ5_putStringAt_47b60_10 rfl ?_
  refine R.aload_n dJ5_putStringAt_47b60_11 rfl (by first | rfl | exact rfv_rf _) ?_
  refine R.getIS (b1) dJ5_putStringAt_47b60_12 fl_J5_22 (by decide) rfl ?_
  refine cc_J5_399 hi rfl rfl (by first | exact Nat.le_of_ble_eq_true rfl | simp [rf_cat, Value.category]) dJ5_putStringAt_47b60_15 ?_
  refine t_gby hi hb hw ?_
  refine WP.ret (ov := none) dJ5_putStringAt_47b60_18 ⟨rfl, rfl⟩ ?_
  exact hq
theorem Sc.str {c0 : Nat} {M : Mem} {cap i v : Nat} {O : List Int32} (h : Sc c0 M cap O) (hi : i < 23) (a1 : mR M 12 1 0 = some (rf 13 v)) (hl : O.length + sLn i ≤ cap) : Sc c0 (sI (scM M i v O.length (sLn i)) 12 1 3 (nI (O.length + sLn i))) cap (O ++ sBy i) ∧ FrT c0 M (sI (scM M i v O.length (sLn i)) 12 1 3 (nI (O.length + sLn i))) ∧ Gw M (sI (scM M i v O.length (sLn i)) 12 1 3 (nI (O.length + sLn i))) cap cap := by
  obtain ⟨⟨v', a1', a2, a3, a4, a5, a6⟩, b1, b2, b3, b4⟩ := h
  have ev : v' = v := (rf_inj (by decide) (by decide) (Option.some.inj (a1'.symm.trans a1))).2
  subst ev
  have eI : ∀ k i' f, ¬ (k = 12 ∧ i' = 1 ∧ f = 3) → mI (sI (scM M i v' O.length (sLn i)) 12 1 3 (nI (O.length + sLn i))) k i' f = if k = 13 ∧ i' = v' then va_cpy (sB i) (mI M 13 v') 0 O.length (sLn i) f else mI M k i' f := fun k i' f hn => by
    rw [mI_sI, if_neg hn, mI_scM]
  have eB : ∀ f, mI (sI (scM M i v' O.length (sLn i)) 12 1 3 (nI (O.length + sLn i))) 13 v' f = if O.length ≤ f ∧ f < O.length + sLn i then sB i (f - O.length) else mI M 13 v' f := fun f => by
    rw [eI _ _ _ (by omega), if_pos ⟨rfl, rfl⟩]
    unfold va_cpy
    rw [Nat.zero_add]
  refine ⟨⟨⟨v', a1', a2, a3, a4, fun j x hx => ?_, fun j hj => ?_⟩, ?_, ?_, by rw [List.length_append, sBy_len]; exact hl, b4⟩, ⟨fun k i' h1 h2 => ⟨?_, rfl, rfl, rfl, rfl⟩, fun _ _ => rfl, Nat.le_refl _⟩, Nat.le_refl _, Nat.le_refl _, Nat.le_refl _⟩
  · rw [eB]
    rw [List.getElem?_append] at hx
    by_cases z : j < O.length
    · rw [if_pos z] at hx
      rw [if_neg (by omega)]
      exact a5 j x hx
    · rw [if_neg z] at hx
      have hj := (List.getElem?_eq_some_iff.mp hx).1
      rw [sBy_len] at hj
      rw [sBy_at hj] at hx
      rw [if_pos ⟨by omega, by omega⟩]
      exact Option.some.inj hx
  · rw [eB]
    split
    · next z => exact sB_ft i hi _ (by omega)
    · exact a6 j hj
  · rw [eI _ _ _ (by omega), if_neg (by omega)]; exact b1
  · rw [mI_sI, if_pos ⟨rfl, rfl, rfl⟩, List.length_append, sBy_len]
  · funext f
    rw [eI _ _ _ (by omega), if_neg (by intro z; have := h2 z.1; omega)]
set_option maxHeartbeats 1000000 in
set_option maxRecDepth 4000 in
theorem t_appS5 {d : Nat} {c0 cap i : Nat} {O : List Int32} {M : Mem} {Q : Out → Mem → Prop} (hi : i < 23) (h : Sc c0 M cap O) (hl : O.length + sLn i ≤ 300) (hq : ∀ M' cap', Sc c0 M' cap' (O ++ sBy i) → FrT c0 M M' → Gw M M' cap cap' → Q (.inl (some (.ref (rf 12 1)))) M') : WPc (d + 5) mJ5_append_cf1ce [.ref (rf 12 1), .ref (rf 21 i)] M Q := by
  refine WPc.of (by decide +kernel) (Nat.le_of_ble_eq_true rfl) rfl ?_
  refine R.aload_n dJ5_append_cf1ce_0 rfl (by first | rfl | exact rfv_rf _) ?_
  refine R.ifnonnullS (tgt := 9) (by rw [kd_rf _ _ (by decide)]; decide) dJ5_append_cf1ce_1 (by decide) ?_
  refine R.aload_n dJ5_append_cf1ce_9 rfl (by first | rfl | exact rfv_rf _) ?_
  refine cc_J5_32 hi rfl rfl (by first | exact Nat.le_of_ble_eq_true rfl | simp [rf_cat, Value.category]) dJ5_append_cf1ce_10 ?_
  refine s_strLen hi ?_
  refine R.istore_n dJ5_append_cf1ce_13 (Nat.le_of_ble_eq_true rfl) (by decide) (by first | rfl | simp [lft, rf_cat]) rfl ?_
  refine R.aload_n dJ5_append_cf1ce_14 rfl (by first | rfl | exact rfv_rf _) ?_
  refine R.aload_n dJ5_append_cf1ce_15 rfl (by first | rfl | exact rfv_rf _) ?_
  refine R.getIS (h.2.2.1) dJ5_append_cf1ce_16 fl_J5_79 (by decide) rfl ?_
  refine R.iload_n dJ5_append_cf1ce_19 rfl ?_
  refine R.iadd dJ5_append_cf1ce_20 ?_
  rw [nI_add]
  refine cl_J5_100 rfl rfl (by first | exact Nat.le_of_ble_eq_true rfl | simp [rf_cat, Value.category]) dJ5_append_cf1ce_21 ?_
  refine t_sbEns h hl (fun M1 cap1 h1 hc1 F1 G1 => ?_)
  obtain ⟨⟨v, a1, a2, a3, a4, a5, a6⟩, b1, b2, b3, b4⟩ := h1
  have h1 : Sc c0 M1 cap1 O := ⟨⟨v, a1, a2, a3, a4, a5, a6⟩, b1, b2, b3, b4⟩
  refine R.aload_n dJ5_append_cf1ce_24 rfl (by first | rfl | exact rfv_rf _) ?_
  refine R.aload_n dJ5_append_cf1ce_25 rfl (by first | rfl | exact rfv_rf _) ?_
  refine R.getIS (b2) dJ5_append_cf1ce_26 fl_J5_79 (by decide) rfl ?_
  refine R.aload_n dJ5_append_cf1ce_29 rfl (by first | rfl | exact rfv_rf _) ?_
  refine cl_J5_208 rfl rfl (by first | exact Nat.le_of_ble_eq_true rfl | simp [rf_cat, Value.category]) dJ5_append_cf1ce_30 ?_
  refine t_put hi a1 b1 (by rw [a4]; exact hc1) (by rw [a4]; omega) ?_
  refine R.aload_n dJ5_append_cf1ce_33 rfl (by first | rfl | exact rfv_rf _) ?_
  refine R.dup dJ5_append_cf1ce_34 (by first | rfl | exact rf_cat _) ?_
  refine R.getIS ((show mI (scM M1 i v O.length (sLn i)) 12 1 3 = nI O.length by rw [mI_scM, if_neg (by omega)]; exact b2)) dJ5_append_cf1ce_35 fl_J5_79 (by decide) rfl ?_
  refine R.iload_n dJ5_append_cf1ce_38 rfl ?_
  refine R.iadd dJ5_append_cf1ce_39 ?_
  rw [nI_add]
  refine R.putI dJ5_append_cf1ce_40 fl_J5_79 (fun q hq => by cases hq; exact Or.inl rfl) (by decide) rfl rfl rfl ?_
  refine R.aload_n dJ5_append_cf1ce_43 rfl (by first | rfl | exact rfv_rf _) ?_
  first | refine WP.ret (ov := some (.ref _)) dJ5_append_cf1ce_44 ⟨rfl, _, rfl, Or.inl ⟨_, rfl⟩⟩ ?_ | refine WP.ret (ov := some (.ref _)) dJ5_append_cf1ce_44 ⟨rfl, _, rfl, Or.inr ⟨_, rfl⟩⟩ ?_ | refine WP.ret (ov := some .null) dJ5_append_cf1ce_44 ⟨rfl, _, rfl, Or.inl ⟨_, rfl⟩⟩ ?_
  obtain ⟨g1, g2, g3⟩ := h1.str hi a1 hc1
  exact hq _ _ g1 (F1.tr g2) (G1.tr g3)
set_option maxHeartbeats 1000000 in
set_option maxRecDepth 4000 in
theorem t_appS {d : Nat} {c0 cap i : Nat} {O : List Int32} {M : Mem} {Q : Out → Mem → Prop} (hi : i < 23) (h : Sc c0 M cap O) (hl : O.length + sLn i ≤ 300) (hq : ∀ M' cap', Sc c0 M' cap' (O ++ sBy i) → FrT c0 M M' → Gw M M' cap cap' → Q (.inl (some (.ref (rf 12 1)))) M') : WPc (d + 6) mJ4_append_15ec4 [.ref (rf 12 1), .ref (rf 21 i)] M Q := by
  refine WPc.of (by decide +kernel) (Nat.le_of_ble_eq_true rfl) rfl ?_
  refine R.aload_n dJ4_append_15ec4_0 rfl (by first | rfl | exact rfv_rf _) ?_
  refine R.aload_n dJ4_append_15ec4_1 rfl (by first | rfl | exact rfv_rf _) ?_
  refine cl_J4_29 rfl rfl (by first | exact Nat.le_of_ble_eq_true rfl | simp [rf_cat, Value.category]) dJ4_append_15ec4_2 ?_
  refine t_appS5 hi h hl (fun M1 c1 h1 F1 G1 => ?_)
  refine R.pop dJ4_append_15ec4_5 (by first | rfl | exact rf_cat _) ?_
  refine R.aload_n dJ4_append_15ec4_6 rfl (by first | rfl | exact rfv_rf _) ?_
  first | refine WP.ret (ov := some (.ref _)) dJ4_append_15ec4_7 ⟨rfl, _, rfl, Or.inl ⟨_, rfl⟩⟩ ?_ | refine WP.ret (ov := some (.ref _)) dJ4_append_15ec4_7 ⟨rfl, _, rfl, Or.inr ⟨_, rfl⟩⟩ ?_ | refine WP.ret (ov := some .null) dJ4_append_15ec4_7 ⟨rfl, _, rfl, Or.inl ⟨_, rfl⟩⟩ ?_
  exact hq _ _ h1 F1 G1
set_option maxHeartbeats 1000000 in
set_option maxRecDepth 4000 in
theorem t_ckL {d : Nat} {n : Nat} {M : Mem} {Q : Out → Mem → Prop} (hn : n < 1000) (hq : Q (.inl none) M) : WPc d mJ7_checkLength_df160 [.int 0, .int (nI n)] M Q := by
  refine WPc.of (by decide +kernel) (Nat.le_of_ble_eq_true rfl) rfl ?_
  refine R.iload_n dJ7_checkLength_df160_0 rfl ?_
  refine R.iload_n dJ7_checkLength_df160_1 rfl ?_
  refine R.icmp_ge (tgt := 37) dJ7_checkLength_df160_2 (by decide) (fun _ => ?_) (fun c => absurd (show nI 0 ≤ nI n from Int32.not_lt.mp (nI_nlt (Nat.zero_le _) (by omega))) c)
  refine WP.ret (ov := none) dJ7_checkLength_df160_37 ⟨rfl, rfl⟩ ?_
  exact hq
set_option maxHeartbeats 1000000 in
set_option maxRecDepth 4000 in
theorem t_cpB {d : Nat} {v n cap : Nat} {M : Mem} {Q : Out → Mem → Prop} (hv : v < mC M 13) (a4 : mN M 13 v = cap) (hn : n ≤ cap) (hc : cap ≤ 600) (hf : ∀ j, j < n → fits .byte (.int (mI M 13 v j)) = true) (hq : Q (.inl (some (.ref (rf 13 (mC M 13))))) (cpA (al M 13 n n) v (mC M 13) n)) : WPc (d + 2) mJ7_copyOfRangeByte_39247 [.ref (rf 13 v), .int 0, .int (nI n)] M Q := by
  refine WPc.of (by decide +kernel) (Nat.le_of_ble_eq_true rfl) rfl ?_
  refine R.iload_n dJ7_copyOfRangeByte_39247_0 rfl ?_
  refine R.iload_n dJ7_copyOfRangeByte_39247_1 rfl ?_
  refine cl_J7_343 rfl rfl (by first | exact Nat.le_of_ble_eq_true rfl | simp [rf_cat, Value.category]) dJ7_copyOfRangeByte_39247_2 ?_
  refine t_ckL (by omega) ?_
  refine R.iload_n dJ7_copyOfRangeByte_39247_5 rfl ?_
  refine R.iload_n dJ7_copyOfRangeByte_39247_6 rfl ?_
  refine R.isub dJ7_copyOfRangeByte_39247_7 ?_
  rw [show nI n - 0 = nI n from Int32.sub_zero _]
  refine R.istore_n dJ7_copyOfRangeByte_39247_8 (Nat.le_of_ble_eq_true rfl) (by decide) (by first | rfl | simp [lft, rf_cat]) rfl ?_
  refine R.iload_n dJ7_copyOfRangeByte_39247_9 rfl ?_
  refine R.newarr (k := 13) (N := n) (by decide) (by decide) rfl ac_byte (nI_pos (by omega)) (nI_clamp (by omega)) (by omega) dJ7_copyOfRangeByte_39247_10 ?_
  refine R.astore dJ7_copyOfRangeByte_39247_12 (by first | rfl | exact rfv_rf _) (Nat.le_of_ble_eq_true rfl) (by decide) (by first | rfl | simp [lft, rf_cat]) rfl ?_
  refine R.aload_n dJ7_copyOfRangeByte_39247_14 rfl (by first | rfl | exact rfv_rf _) ?_
  refine R.iload_n dJ7_copyOfRangeByte_39247_15 rfl ?_
  refine R.aload dJ7_copyOfRangeByte_39247_16 rfl (by first | rfl | exact rfv_rf _) ?_
  refine R.iconst (v := 0) dJ7_copyOfRangeByte_39247_18 rfl ?_
  refine R.aload_n dJ7_copyOfRangeByte_39247_19 rfl (by first | rfl | exact rfv_rf _) ?_
  refine R.alenS (n := cap) (by rw [mN_al, if_neg (by omega)]; exact a4) (by decide) (by decide) dJ7_copyOfRangeByte_39247_20 ?_
  refine R.iload_n dJ7_copyOfRangeByte_39247_21 rfl ?_
  refine R.isub dJ7_copyOfRangeByte_39247_22 ?_
  rw [show nI cap - 0 = nI cap from Int32.sub_zero _]
  refine R.iload_n dJ7_copyOfRangeByte_39247_23 rfl ?_
  refine cl_J7_304 rfl rfl (by first | exact Nat.le_of_ble_eq_true rfl | simp [rf_cat, Value.category]) dJ7_copyOfRangeByte_39247_24 ?_
  refine s_min ?_
  rw [show fmin (nI cap) (nI n) = nI n by
    unfold fmin
    by_cases z : n < cap
    · rw [if_pos (nI_lt z (by omega))]
    · rw [if_neg (nI_nlt (by omega) (by omega)), show cap = n by omega]]
  refine R.acopy dJ7_copyOfRangeByte_39247_27 (gt_i 1367 (by decide +kernel) rfl) rfl (by omega) ?_ ?_ ?_ (by omega) (by first | exact Nat.le_of_ble_eq_true rfl | simp [rf_cat, Value.category]) ?_
  · rw [mN_al, if_neg (by omega)]; omega
  · rw [mN_al, if_pos ⟨rfl, rfl⟩]; exact Nat.le_refl _
  · intro j hj
    rw [mI_al, if_neg (by omega)]
    exact hf j hj
  refine R.aload dJ7_copyOfRangeByte_39247_30 rfl (by first | rfl | exact rfv_rf _) ?_
  first | refine WP.ret (ov := some (.ref _)) dJ7_copyOfRangeByte_39247_32 ⟨rfl, _, rfl, Or.inl ⟨_, rfl⟩⟩ ?_ | refine WP.ret (ov := some (.ref _)) dJ7_copyOfRangeByte_39247_32 ⟨rfl, _, rfl, Or.inr ⟨_, rfl⟩⟩ ?_ | refine WP.ret (ov := some .null) dJ7_copyOfRangeByte_39247_32 ⟨rfl, _, rfl, Or.inl ⟨_, rfl⟩⟩ ?_
  exact hq
set_option maxHeartbeats 1000000 in
set_option maxRecDepth 4000 in
theorem t_cpR {d : Nat} {v n cap : Nat} {M : Mem} {Q : Out → Mem → Prop} (hv : v < mC M 13) (a4 : mN M 13 v = cap) (hn : n ≤ cap) (hc : cap ≤ 600) (hf : ∀ j, j < n → fits .byte (.int (mI M 13 v j)) = true) (hq : Q (.inl (some (.ref (rf 13 (mC M 13))))) (cpA (al M 13 n n) v (mC M 13) n)) : WPc (d + 3) mJ7_copyOfRange_39247 [.ref (rf 13 v), .int 0, .int (nI n)] M Q := by
  refine WPc.of (by decide +kernel) (Nat.le_of_ble_eq_true rfl) rfl ?_
  by_cases z : n = cap
  · skip
    refine R.iload_n dJ7_copyOfRange_39247_0 rfl ?_
    refine R.if_ne (tgt := 10) dJ7_copyOfRange_39247_1 (by decide) (fun c => absurd rfl c) (fun _ => ?_)
    refine R.iload_n dJ7_copyOfRange_39247_4 rfl ?_
    refine R.aload_n dJ7_copyOfRange_39247_5 rfl (by first | rfl | exact rfv_rf _) ?_
    refine R.alenS a4 (by decide) (by decide) dJ7_copyOfRange_39247_6 ?_
    refine R.icmp_eq (tgt := 17) dJ7_copyOfRange_39247_7 (by decide) (fun _ => ?_) (fun c => absurd (by rw [z]) c)
    refine R.aload_n dJ7_copyOfRange_39247_17 rfl (by first | rfl | exact rfv_rf _) ?_
    refine R.clone (N := n) rfl (by rw [a4]; exact z) hf (by omega) (by first | exact Nat.le_of_ble_eq_true rfl | simp [rf_cat, Value.category]) dJ7_copyOfRange_39247_18 ?_
    refine R.castB wClC dJ7_copyOfRange_39247_21 ?_
    first | refine WP.ret (ov := some (.ref _)) dJ7_copyOfRange_39247_24 ⟨rfl, _, rfl, Or.inl ⟨_, rfl⟩⟩ ?_ | refine WP.ret (ov := some (.ref _)) dJ7_copyOfRange_39247_24 ⟨rfl, _, rfl, Or.inr ⟨_, rfl⟩⟩ ?_ | refine WP.ret (ov := some .null) dJ7_copyOfRange_39247_24 ⟨rfl, _, rfl, Or.inl ⟨_, rfl⟩⟩ ?_
    exact hq
  · skip
    refine R.iload_n dJ7_copyOfRange_39247_0 rfl ?_
    refine R.if_ne (tgt := 10) dJ7_copyOfRange_39247_1 (by decide) (fun c => absurd rfl c) (fun _ => ?_)
    refine R.iload_n dJ7_copyOfRange_39247_4 rfl ?_
    refine R.aload_n dJ7_copyOfRange_39247_5 rfl (by first | rfl | exact rfv_rf _) ?_
    refine R.alenS a4 (by decide) (by decide) dJ7_copyOfRange_39247_6 ?_
    refine R.icmp_eq (tgt := 17) dJ7_copyOfRange_39247_7 (by decide) (fun c => absurd ((nI_inj (by omega) (by omega)).mp c) z) (fun _ => ?_)
    refine R.aload_n dJ7_copyOfRange_39247_10 rfl (by first | rfl | exact rfv_rf _) ?_
    refine R.iload_n dJ7_copyOfRange_39247_11 rfl ?_
    refine R.iload_n dJ7_copyOfRange_39247_12 rfl ?_
    refine cl_J7_339 rfl rfl (by first | exact Nat.le_of_ble_eq_true rfl | simp [rf_cat, Value.category]) dJ7_copyOfRange_39247_13 ?_
    refine t_cpB hv a4 hn hc hf ?_
    first | refine WP.ret (ov := some (.ref _)) dJ7_copyOfRange_39247_16 ⟨rfl, _, rfl, Or.inl ⟨_, rfl⟩⟩ ?_ | refine WP.ret (ov := some (.ref _)) dJ7_copyOfRange_39247_16 ⟨rfl, _, rfl, Or.inr ⟨_, rfl⟩⟩ ?_ | refine WP.ret (ov := some .null) dJ7_copyOfRange_39247_16 ⟨rfl, _, rfl, Or.inl ⟨_, rfl⟩⟩ ?_
    exact hq
/-- the string of the builder, laid at the next places -/
def toM (M : Mem) (v n : Nat) : Mem := sR (cpA (al (sI (al M 36 0 4) 36 (mC M 36) 1 0) 13 n n) v (mC M 13) n) 36 (mC M 36) 0 (some (rf 13 (mC M 13)))
set_option maxHeartbeats 1000000 in
set_option maxRecDepth 4000 in
theorem t_ini2 {d : Nat} {i v n cap : Nat} {M : Mem} {Q : Out → Mem → Prop} (a1 : mR M 12 1 0 = some (rf 13 v)) (b2 : mI M 12 1 3 = nI n) (hlat : ∀ {d : Nat} {Q : Out → Mem → Prop}, Q (.inl (some (.int 1))) M → WPc d mJ5_isLatin1_aae02 [.ref (rf 12 1)] M Q) (hv : v < mC M 13) (a4 : mN M 13 v = cap) (hn : n ≤ cap) (hc : cap ≤ 600) (hf : ∀ j, j < n → fits .byte (.int (mI M 13 v j)) = true) (hq : Q (.inl none) (sR (cpA (al (sI M 36 i 1 0) 13 n n) v (mC M 13) n) 36 i 0 (some (rf 13 (mC M 13))))) : WPc (d + 4) mJ0_init_db425 [.ref (rf 36 i), .ref (rf 12 1), .null] M Q := by
  refine WPc.of (by decide +kernel) (Nat.le_of_ble_eq_true rfl) rfl ?_
  refine R.aload_n dJ0_init_db425_0 rfl (by first | rfl | exact rfv_rf _) ?_
  refine R.objInit (by decide) oi_J0_1 oi_in oi_co (by omega) (by first | exact Nat.le_of_ble_eq_true rfl | simp [rf_cat, Value.category]) dJ0_init_db425_1 ?_
  refine R.aload_n dJ0_init_db425_4 rfl (by first | rfl | exact rfv_rf _) ?_
  refine cl_J0_552 rfl rfl (by first | exact Nat.le_of_ble_eq_true rfl | simp [rf_cat, Value.category]) dJ0_init_db425_5 ?_
  refine t_gval a1 ?_
  refine R.astore_n dJ0_init_db425_8 (by first | rfl | exact rfv_rf _) (Nat.le_of_ble_eq_true rfl) (by decide) (by first | rfl | simp [lft, rf_cat]) rfl ?_
  refine R.aload_n dJ0_init_db425_9 rfl (by first | rfl | exact rfv_rf _) ?_
  refine cl_J0_549 rfl rfl (by first | exact Nat.le_of_ble_eq_true rfl | simp [rf_cat, Value.category]) dJ0_init_db425_10 ?_
  refine t_len4 b2 ?_
  refine R.istore dJ0_init_db425_13 (Nat.le_of_ble_eq_true rfl) (by decide) (by first | rfl | simp [lft, rf_cat]) rfl ?_
  refine R.aload_n dJ0_init_db425_15 rfl (by first | rfl | exact rfv_rf _) ?_
  refine cl_J0_1047 rfl rfl (by first | exact Nat.le_of_ble_eq_true rfl | simp [rf_cat, Value.category]) dJ0_init_db425_16 ?_
  refine hlat ?_
  refine R.if_eq (tgt := 41) dJ0_init_db425_19 (by decide) (fun c => absurd c (by decide)) (fun _ => ?_)
  refine R.aload_n dJ0_init_db425_22 rfl (by first | rfl | exact rfv_rf _) ?_
  refine R.iconst (v := 0) dJ0_init_db425_23 rfl ?_
  refine R.putI dJ0_init_db425_24 fl_J0_15 (fun q hq => by cases hq; exact Or.inr ⟨rfl, rfl⟩) (by decide) rfl rfl rfl ?_
  refine R.aload_n dJ0_init_db425_27 rfl (by first | rfl | exact rfv_rf _) ?_
  refine R.aload_n dJ0_init_db425_28 rfl (by first | rfl | exact rfv_rf _) ?_
  refine R.iconst (v := 0) dJ0_init_db425_29 rfl ?_
  refine R.iload dJ0_init_db425_30 rfl ?_
  refine cl_J0_54 rfl rfl (by first | exact Nat.le_of_ble_eq_true rfl | simp [rf_cat, Value.category]) dJ0_init_db425_32 ?_
  refine t_cpR (cap := cap) hv a4 hn hc (fun j hj => ?_) ?_
  · rw [mI_sI, if_neg (by omega)]; exact hf j hj
  refine R.putA dJ0_init_db425_35 fl_J0_9 (fun q hq => by cases hq; exact Or.inr ⟨rfl, rfl⟩) rfl ?_
  refine R.goto (tgt := 97) dJ0_init_db425_38 (by decide) ?_
  refine WP.ret (ov := none) dJ0_init_db425_97 ⟨rfl, rfl⟩ ?_
  exact hq
set_option maxHeartbeats 1000000 in
set_option maxRecDepth 4000 in
theorem t_ini1 {d : Nat} {i v n cap : Nat} {M : Mem} {Q : Out → Mem → Prop} (a1 : mR M 12 1 0 = some (rf 13 v)) (b2 : mI M 12 1 3 = nI n) (hlat : ∀ {d : Nat} {Q : Out → Mem → Prop}, Q (.inl (some (.int 1))) M → WPc d mJ5_isLatin1_aae02 [.ref (rf 12 1)] M Q) (hv : v < mC M 13) (a4 : mN M 13 v = cap) (hn : n ≤ cap) (hc : cap ≤ 600) (hf : ∀ j, j < n → fits .byte (.int (mI M 13 v j)) = true) (hq : Q (.inl none) (sR (cpA (al (sI M 36 i 1 0) 13 n n) v (mC M 13) n) 36 i 0 (some (rf 13 (mC M 13))))) : WPc (d + 5) mJ0_init_81219 [.ref (rf 36 i), .ref (rf 12 1)] M Q := by
  refine WPc.of (by decide +kernel) (Nat.le_of_ble_eq_true rfl) rfl ?_
  refine R.aload_n dJ0_init_81219_0 rfl (by first | rfl | exact rfv_rf _) ?_
  refine R.aload_n dJ0_init_81219_1 rfl (by first | rfl | exact rfv_rf _) ?_
  refine R.null dJ0_init_81219_2 ?_
  refine cl_J0_489 rfl rfl (by first | exact Nat.le_of_ble_eq_true rfl | simp [rf_cat, Value.category]) dJ0_init_81219_3 ?_
  refine t_ini2 a1 b2 hlat hv a4 hn hc hf ?_
  refine WP.ret (ov := none) dJ0_init_81219_6 ⟨rfl, rfl⟩ ?_
  exact hq
set_option maxHeartbeats 1000000 in
set_option maxRecDepth 4000 in
theorem t_toS {d : Nat} {c0 cap v : Nat} {O : List Int32} {M : Mem} {Q : Out → Mem → Prop} (h : Sc c0 M cap O) (a1 : mR M 12 1 0 = some (rf 13 v)) (hq : Q (.inl (some (.ref (rf 36 (mC M 36))))) (toM M v O.length)) : WPc (d + 6) mJ4_toString_0e30d [.ref (rf 12 1)] M Q := by
  refine WPc.of (by decide +kernel) (Nat.le_of_ble_eq_true rfl) rfl ?_
  obtain ⟨⟨v', a1', a2, a3, a4, a5, a6⟩, b1, b2, b3, b4⟩ := h
  have ev : v' = v := (rf_inj (by decide) (by decide) (Option.some.inj (a1'.symm.trans a1))).2
  subst ev
  have h1 : Sc c0 (al M 36 0 4) cap O := ⟨⟨v', a1', a2, a3, a4, fun i x hx => by rw [mI_al, if_neg (by omega)]; exact a5 i x hx, fun j hj => by rw [mI_al, if_neg (by omega)]; exact a6 j hj⟩, b1, b2, b3, b4⟩
  refine R.new (k := 36) rfl cw_J4_18 mk_36 iz_36 dJ4_toString_0e30d_0 ?_
  refine R.dup dJ4_toString_0e30d_3 (by first | rfl | exact rf_cat _) ?_
  refine R.aload_n dJ4_toString_0e30d_4 rfl (by first | rfl | exact rfv_rf _) ?_
  refine cl_J4_137 rfl rfl (by first | exact Nat.le_of_ble_eq_true rfl | simp [rf_cat, Value.category]) dJ4_toString_0e30d_5 ?_
  refine t_ini1 (cap := cap) (n := O.length) (v := v') a1' b2 (fun q => t_sbLat h1 q) a3 a4 b3 b4 (fun j hj => ?_) ?_
  · rw [mI_al, if_neg (by omega)]; exact a6 j (by omega)
  first | refine WP.ret (ov := some (.ref _)) dJ4_toString_0e30d_8 ⟨rfl, _, rfl, Or.inl ⟨_, rfl⟩⟩ ?_ | refine WP.ret (ov := some (.ref _)) dJ4_toString_0e30d_8 ⟨rfl, _, rfl, Or.inr ⟨_, rfl⟩⟩ ?_ | refine WP.ret (ov := some .null) dJ4_toString_0e30d_8 ⟨rfl, _, rfl, Or.inl ⟨_, rfl⟩⟩ ?_
  exact hq
