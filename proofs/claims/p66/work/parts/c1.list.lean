/-! the lists of the JDK, walks through them, Integers -/
theorem ic_L_88 {i : Nat} {m : MRec} {d pc : Nat} {ls st : List Value} {M : Mem} {Q : Out → Mem → Prop} (hm : m.1.cls = RL) (hr : (st.map fun v => v.category).sum ≤ 8) (hd : decode m.2.1 pc = .ok (.invokeinterface 88 1, 5)) (k : WPc d mJx4a65c_iterator_32c93 [.ref (rf 33 i)] M (fun o M1 => ∃ r, o = .inl r ∧ WP m (d + 1) (pc + 5) ls (r.toList ++ st) M1 Q)) : WP m (d + 1) pc ls (.ref (rf 33 i) :: st) M Q :=
  WP.callF (k := 33) (args := []) (rest := st) (q := (RJx4a65c, TJx4a65c, 3)) rfl kJx4a65c_iterator_32c93 (by rw [hm]; exact ml_L_88) (by decide +kernel) (gt_i 991 (by decide +kernel) rfl) inJx4a65c_iterator_32c93 (by decide +kernel) rfl hr hd k
theorem ic_L_94 {i : Nat} {m : MRec} {d pc : Nat} {ls st : List Value} {M : Mem} {Q : Out → Mem → Prop} (hm : m.1.cls = RL) (hr : (st.map fun v => v.category).sum ≤ 8) (hd : decode m.2.1 pc = .ok (.invokeinterface 94 1, 5)) (k : WPc d mJx35411_hasNext_aae02 [.ref (rf 34 i)] M (fun o M1 => ∃ r, o = .inl r ∧ WP m (d + 1) (pc + 5) ls (r.toList ++ st) M1 Q)) : WP m (d + 1) pc ls (.ref (rf 34 i) :: st) M Q :=
  WP.callF (k := 34) (args := []) (rest := st) (q := (RJx35411, TJx35411, 4)) rfl kJx35411_hasNext_aae02 (by rw [hm]; exact ml_L_94) (by decide +kernel) (gt_i 1020 (by decide +kernel) rfl) inJx35411_hasNext_aae02 (by decide +kernel) rfl hr hd k
theorem ic_L_100 {i : Nat} {m : MRec} {d pc : Nat} {ls st : List Value} {M : Mem} {Q : Out → Mem → Prop} (hm : m.1.cls = RL) (hr : (st.map fun v => v.category).sum ≤ 8) (hd : decode m.2.1 pc = .ok (.invokeinterface 100 1, 5)) (k : WPc d mJx35411_next_0502b [.ref (rf 34 i)] M (fun o M1 => ∃ r, o = .inl r ∧ WP m (d + 1) (pc + 5) ls (r.toList ++ st) M1 Q)) : WP m (d + 1) pc ls (.ref (rf 34 i) :: st) M Q :=
  WP.callF (k := 34) (args := []) (rest := st) (q := (RJx35411, TJx35411, 4)) rfl kJx35411_next_0502b (by rw [hm]; exact ml_L_100) (by decide +kernel) (gt_i 1029 (by decide +kernel) rfl) inJx35411_next_0502b (by decide +kernel) rfl hr hd k
theorem ic_L_140 {i : Nat} {m : MRec} {d pc : Nat} {ls st : List Value} {M : Mem} {Q : Out → Mem → Prop} (hm : m.1.cls = RL) (hr : (st.map fun v => v.category).sum ≤ 8) (hd : decode m.2.1 pc = .ok (.invokeinterface 140 1, 5)) (k : WPc d mJx4a65c_size_8abf5 [.ref (rf 33 i)] M (fun o M1 => ∃ r, o = .inl r ∧ WP m (d + 1) (pc + 5) ls (r.toList ++ st) M1 Q)) : WP m (d + 1) pc ls (.ref (rf 33 i) :: st) M Q :=
  WP.callF (k := 33) (args := []) (rest := st) (q := (RJx4a65c, TJx4a65c, 3)) rfl kJx4a65c_size_8abf5 (by rw [hm]; exact ml_L_140) (by decide +kernel) (gt_i 1084 (by decide +kernel) rfl) inJx4a65c_size_8abf5 (by decide +kernel) rfl hr hd k
theorem ic_L_160 {i : Nat} {m : MRec} {d pc : Nat} {ls st : List Value} {M : Mem} {Q : Out → Mem → Prop} {a1 : Value} (hm : m.1.cls = RL) (hr : (st.map fun v => v.category).sum ≤ 8) (hd : decode m.2.1 pc = .ok (.invokeinterface 160 2, 5)) (k : WPc d mJx4a65c_get_915e3 [.ref (rf 33 i), a1] M (fun o M1 => ∃ r, o = .inl r ∧ WP m (d + 1) (pc + 5) ls (r.toList ++ st) M1 Q)) : WP m (d + 1) pc ls (a1 :: .ref (rf 33 i) :: st) M Q :=
  WP.callF (k := 33) (args := [a1]) (rest := st) (q := (RJx4a65c, TJx4a65c, 3)) rfl kJx4a65c_get_915e3 (by rw [hm]; exact ml_L_160) (by decide +kernel) (gt_i 1105 (by decide +kernel) rfl) inJx4a65c_get_915e3 (by decide +kernel) rfl hr hd k
theorem ic_L_164 {i : Nat} {m : MRec} {d pc : Nat} {ls st : List Value} {M : Mem} {Q : Out → Mem → Prop} (hm : m.1.cls = RL) (hr : (st.map fun v => v.category).sum ≤ 8) (hd : decode m.2.1 pc = .ok (.invokeinterface 164 1, 5)) (k : WPc d mJx4a65c_isEmpty_aae02 [.ref (rf 33 i)] M (fun o M1 => ∃ r, o = .inl r ∧ WP m (d + 1) (pc + 5) ls (r.toList ++ st) M1 Q)) : WP m (d + 1) pc ls (.ref (rf 33 i) :: st) M Q :=
  WP.callF (k := 33) (args := []) (rest := st) (q := (RJx4a65c, TJx4a65c, 3)) rfl kJx4a65c_isEmpty_aae02 (by rw [hm]; exact ml_L_164) (by decide +kernel) (gt_i 1122 (by decide +kernel) rfl) inJx4a65c_isEmpty_aae02 (by decide +kernel) rfl hr hd k
theorem ic_L_213 {i : Nat} {m : MRec} {d pc : Nat} {ls st : List Value} {M : Mem} {Q : Out → Mem → Prop} {a1 : Value} (hm : m.1.cls = RL) (hr : (st.map fun v => v.category).sum ≤ 8) (hd : decode m.2.1 pc = .ok (.invokeinterface 213 2, 5)) (k : WPc d mJx4a65c_add_9ea2d [.ref (rf 33 i), a1] M (fun o M1 => ∃ r, o = .inl r ∧ WP m (d + 1) (pc + 5) ls (r.toList ++ st) M1 Q)) : WP m (d + 1) pc ls (a1 :: .ref (rf 33 i) :: st) M Q :=
  WP.callF (k := 33) (args := [a1]) (rest := st) (q := (RJx4a65c, TJx4a65c, 3)) rfl kJx4a65c_add_9ea2d (by rw [hm]; exact ml_L_213) (by decide +kernel) (gt_i 1303 (by decide +kernel) rfl) inJx4a65c_add_9ea2d (by decide +kernel) rfl hr hd k
theorem ic_L_243 {i : Nat} {m : MRec} {d pc : Nat} {ls st : List Value} {M : Mem} {Q : Out → Mem → Prop} {a1 : Value} (hm : m.1.cls = RL) (hr : (st.map fun v => v.category).sum ≤ 8) (hd : decode m.2.1 pc = .ok (.invokeinterface 243 2, 5)) (k : WPc d mJx4a65c_remove_915e3 [.ref (rf 33 i), a1] M (fun o M1 => ∃ r, o = .inl r ∧ WP m (d + 1) (pc + 5) ls (r.toList ++ st) M1 Q)) : WP m (d + 1) pc ls (a1 :: .ref (rf 33 i) :: st) M Q :=
  WP.callF (k := 33) (args := [a1]) (rest := st) (q := (RJx4a65c, TJx4a65c, 3)) rfl kJx4a65c_remove_915e3 (by rw [hm]; exact ml_L_243) (by decide +kernel) (gt_i 1287 (by decide +kernel) rfl) inJx4a65c_remove_915e3 (by decide +kernel) rfl hr hd k
theorem ic_X13_29 {i : Nat} {m : MRec} {d pc : Nat} {ls st : List Value} {M : Mem} {Q : Out → Mem → Prop} (hm : m.1.cls = RX13) (hr : (st.map fun v => v.category).sum ≤ 8) (hd : decode m.2.1 pc = .ok (.invokeinterface 29 1, 5)) (k : WPc d mJx4a65c_iterator_32c93 [.ref (rf 33 i)] M (fun o M1 => ∃ r, o = .inl r ∧ WP m (d + 1) (pc + 5) ls (r.toList ++ st) M1 Q)) : WP m (d + 1) pc ls (.ref (rf 33 i) :: st) M Q :=
  WP.callF (k := 33) (args := []) (rest := st) (q := (RJx4a65c, TJx4a65c, 3)) rfl kJx4a65c_iterator_32c93 (by rw [hm]; exact ml_X13_29) (by decide +kernel) (gt_i 991 (by decide +kernel) rfl) inJx4a65c_iterator_32c93 (by decide +kernel) rfl hr hd k
theorem ic_X13_35 {i : Nat} {m : MRec} {d pc : Nat} {ls st : List Value} {M : Mem} {Q : Out → Mem → Prop} (hm : m.1.cls = RX13) (hr : (st.map fun v => v.category).sum ≤ 8) (hd : decode m.2.1 pc = .ok (.invokeinterface 35 1, 5)) (k : WPc d mJx35411_hasNext_aae02 [.ref (rf 34 i)] M (fun o M1 => ∃ r, o = .inl r ∧ WP m (d + 1) (pc + 5) ls (r.toList ++ st) M1 Q)) : WP m (d + 1) pc ls (.ref (rf 34 i) :: st) M Q :=
  WP.callF (k := 34) (args := []) (rest := st) (q := (RJx35411, TJx35411, 4)) rfl kJx35411_hasNext_aae02 (by rw [hm]; exact ml_X13_35) (by decide +kernel) (gt_i 1020 (by decide +kernel) rfl) inJx35411_hasNext_aae02 (by decide +kernel) rfl hr hd k
theorem ic_X13_41 {i : Nat} {m : MRec} {d pc : Nat} {ls st : List Value} {M : Mem} {Q : Out → Mem → Prop} (hm : m.1.cls = RX13) (hr : (st.map fun v => v.category).sum ≤ 8) (hd : decode m.2.1 pc = .ok (.invokeinterface 41 1, 5)) (k : WPc d mJx35411_next_0502b [.ref (rf 34 i)] M (fun o M1 => ∃ r, o = .inl r ∧ WP m (d + 1) (pc + 5) ls (r.toList ++ st) M1 Q)) : WP m (d + 1) pc ls (.ref (rf 34 i) :: st) M Q :=
  WP.callF (k := 34) (args := []) (rest := st) (q := (RJx35411, TJx35411, 4)) rfl kJx35411_next_0502b (by rw [hm]; exact ml_X13_41) (by decide +kernel) (gt_i 1029 (by decide +kernel) rfl) inJx35411_next_0502b (by decide +kernel) rfl hr hd k
theorem ic_X13_68 {i : Nat} {m : MRec} {d pc : Nat} {ls st : List Value} {M : Mem} {Q : Out → Mem → Prop} (hm : m.1.cls = RX13) (hr : (st.map fun v => v.category).sum ≤ 8) (hd : decode m.2.1 pc = .ok (.invokeinterface 68 1, 5)) (k : WPc d mJx4a65c_size_8abf5 [.ref (rf 33 i)] M (fun o M1 => ∃ r, o = .inl r ∧ WP m (d + 1) (pc + 5) ls (r.toList ++ st) M1 Q)) : WP m (d + 1) pc ls (.ref (rf 33 i) :: st) M Q :=
  WP.callF (k := 33) (args := []) (rest := st) (q := (RJx4a65c, TJx4a65c, 3)) rfl kJx4a65c_size_8abf5 (by rw [hm]; exact ml_X13_68) (by decide +kernel) (gt_i 1084 (by decide +kernel) rfl) inJx4a65c_size_8abf5 (by decide +kernel) rfl hr hd k
theorem ic_X13_71 {i : Nat} {m : MRec} {d pc : Nat} {ls st : List Value} {M : Mem} {Q : Out → Mem → Prop} (hm : m.1.cls = RX13) (hr : (st.map fun v => v.category).sum ≤ 8) (hd : decode m.2.1 pc = .ok (.invokeinterface 71 1, 5)) (k : WPc d mJx4a65c_clear_da8c8 [.ref (rf 33 i)] M (fun o M1 => ∃ r, o = .inl r ∧ WP m (d + 1) (pc + 5) ls (r.toList ++ st) M1 Q)) : WP m (d + 1) pc ls (.ref (rf 33 i) :: st) M Q :=
  WP.callF (k := 33) (args := []) (rest := st) (q := (RJx4a65c, TJx4a65c, 3)) rfl kJx4a65c_clear_da8c8 (by rw [hm]; exact ml_X13_71) (by decide +kernel) (gt_i 1187 (by decide +kernel) rfl) inJx4a65c_clear_da8c8 (by decide +kernel) rfl hr hd k
theorem ic_X14_52 {i : Nat} {m : MRec} {d pc : Nat} {ls st : List Value} {M : Mem} {Q : Out → Mem → Prop} {a1 : Value} (hm : m.1.cls = RX14) (hr : (st.map fun v => v.category).sum ≤ 8) (hd : decode m.2.1 pc = .ok (.invokeinterface 52 2, 5)) (k : WPc d mJx4a65c_add_9ea2d [.ref (rf 33 i), a1] M (fun o M1 => ∃ r, o = .inl r ∧ WP m (d + 1) (pc + 5) ls (r.toList ++ st) M1 Q)) : WP m (d + 1) pc ls (a1 :: .ref (rf 33 i) :: st) M Q :=
  WP.callF (k := 33) (args := [a1]) (rest := st) (q := (RJx4a65c, TJx4a65c, 3)) rfl kJx4a65c_add_9ea2d (by rw [hm]; exact ml_X14_52) (by decide +kernel) (gt_i 1303 (by decide +kernel) rfl) inJx4a65c_add_9ea2d (by decide +kernel) rfl hr hd k
theorem cl_Jx4a65c_73 {m : MRec} {d pc : Nat} {ls st : List Value} {M : Mem} {Q : Out → Mem → Prop} {a1 a2 a3 : Value} (hm : m.1.cls = RJx4a65c) (hh : m.2.2.2.2 = []) (hr : (st.map fun v => v.category).sum ≤ 8) (hd : decode m.2.1 pc = .ok (.invokestatic 73, 3)) (k : WPc d mJ8_newLength_cabcc [a1, a2, a3] M (fun o M1 => match o with | .inl r => WP m (d + 1) (pc + 3) ls (r.toList ++ st) M1 Q | .inr E => Q (.inr E) M1)) : WP m (d + 1) pc ls (a3 :: a2 :: a1 :: st) M Q :=
  WP.callG (CallK.S (args := [a1, a2, a3]) (rest := st) kJ8_newLength_cabcc (by rw [hm]; exact gt_i 1320 (by decide +kernel) rfl) stJ8_newLength_cabcc rfl hr hd) hh (hokS [a1, a2, a3] st) k
theorem cl_J15_105 {m : MRec} {d pc : Nat} {ls st : List Value} {M : Mem} {Q : Out → Mem → Prop} {a1 a2 a3 : Value} (hm : m.1.cls = RJ15) (hh : m.2.2.2.2 = []) (hr : (st.map fun v => v.category).sum ≤ 8) (hd : decode m.2.1 pc = .ok (.invokestatic 105, 3)) (k : WPc d mJ3_checkIndex_8e157 [a1, a2, a3] M (fun o M1 => match o with | .inl r => WP m (d + 1) (pc + 3) ls (r.toList ++ st) M1 Q | .inr E => Q (.inr E) M1)) : WP m (d + 1) pc ls (a3 :: a2 :: a1 :: st) M Q :=
  WP.callG (CallK.S (args := [a1, a2, a3]) (rest := st) kJ3_checkIndex_8e157 (by rw [hm]; exact gt_i 1113 (by decide +kernel) rfl) stJ3_checkIndex_8e157 rfl hr hd) hh (hokS [a1, a2, a3] st) k
set_option maxHeartbeats 1000000 in
set_option maxRecDepth 4000 in
theorem s_absC {d : Nat} {i : Nat} {M : Mem} {Q : Out → Mem → Prop} (hq : Q (.inl none) M) : WPc (d + 2) mJxa1e45_init_da8c8 [.ref (rf 33 i)] M Q := by
  refine WPc.of (by decide +kernel) (Nat.le_of_ble_eq_true rfl) rfl ?_
  refine R.aload_n dJxa1e45_init_da8c8_0 rfl (by first | rfl | exact rfv_rf _) ?_
  refine R.objInit (by decide) oi_Jxa1e45_1 oi_in oi_co (by omega) (by first | exact Nat.le_of_ble_eq_true rfl | simp [rf_cat, Value.category]) dJxa1e45_init_da8c8_1 ?_
  refine WP.ret (ov := none) dJxa1e45_init_da8c8_4 ⟨rfl, rfl⟩ ?_
  exact hq
set_option maxHeartbeats 1000000 in
set_option maxRecDepth 4000 in
theorem s_absL {d : Nat} {i : Nat} {M : Mem} {Q : Out → Mem → Prop} (hq : Q (.inl none) (sI M 33 i 0 0)) : WPc (d + 3) mJxc12de_init_da8c8 [.ref (rf 33 i)] M Q := by
  refine WPc.of (by decide +kernel) (Nat.le_of_ble_eq_true rfl) rfl ?_
  refine R.aload_n dJxc12de_init_da8c8_0 rfl (by first | rfl | exact rfv_rf _) ?_
  refine cl_Jxc12de_1 rfl rfl (by first | exact Nat.le_of_ble_eq_true rfl | simp [rf_cat, Value.category]) dJxc12de_init_da8c8_1 ?_
  refine s_absC ?_
  refine R.aload_n dJxc12de_init_da8c8_4 rfl (by first | rfl | exact rfv_rf _) ?_
  refine R.iconst (v := 0) dJxc12de_init_da8c8_5 rfl ?_
  refine R.putI dJxc12de_init_da8c8_6 fl_Jxc12de_7 (fun q hq => by cases hq; exact Or.inl rfl) (by decide) rfl rfl rfl ?_
  refine WP.ret (ov := none) dJxc12de_init_da8c8_9 ⟨rfl, rfl⟩ ?_
  exact hq
set_option maxHeartbeats 1000000 in
set_option maxRecDepth 4000 in
theorem s_alInit {d : Nat} {i : Nat} {M : Mem} {Q : Out → Mem → Prop} (hq : Q (.inl none) (sR (sI M 33 i 0 0) 33 i 1 (some (rf 31 0)))) : WPc (d + 4) mJx4a65c_init_da8c8 [.ref (rf 33 i)] M Q := by
  refine WPc.of (by decide +kernel) (Nat.le_of_ble_eq_true rfl) rfl ?_
  refine R.aload_n dJx4a65c_init_da8c8_0 rfl (by first | rfl | exact rfv_rf _) ?_
  refine cl_Jx4a65c_1 rfl rfl (by first | exact Nat.le_of_ble_eq_true rfl | simp [rf_cat, Value.category]) dJx4a65c_init_da8c8_1 ?_
  refine s_absL ?_
  refine R.aload_n dJx4a65c_init_da8c8_4 rfl (by first | rfl | exact rfv_rf _) ?_
  refine R.gsEmpty gs_Jx4a65c_39 dJx4a65c_init_da8c8_5 ?_
  first | refine R.putA dJx4a65c_init_da8c8_8 fl_Jx4a65c_9 (fun q hq => by cases hq; exact Or.inl rfl) rfl ?_ | refine R.putN dJx4a65c_init_da8c8_8 fl_Jx4a65c_9 (fun q hq => by cases hq; exact Or.inl rfl) rfl ?_ | refine R.putR dJx4a65c_init_da8c8_8 fl_Jx4a65c_9 (fun q hq => by cases hq; exact Or.inl rfl) rfl ?_
  refine WP.ret (ov := none) dJx4a65c_init_da8c8_11 ⟨rfl, rfl⟩ ?_
  exact hq
set_option maxHeartbeats 1000000 in
set_option maxRecDepth 4000 in
theorem s_alSize {d : Nat} {i : Nat} {xs : List Nat} {E : Option Nat} {M : Mem} {Q : Out → Mem → Prop} (h : Ls M i xs E) (hq : Q (.inl (some (.int (nI xs.length)))) M) : WPc d mJx4a65c_size_8abf5 [.ref (rf 33 i)] M Q := by
  refine WPc.of (by decide +kernel) (Nat.le_of_ble_eq_true rfl) rfl ?_
  refine R.aload_n dJx4a65c_size_8abf5_0 rfl (by first | rfl | exact rfv_rf _) ?_
  refine R.getI dJx4a65c_size_8abf5_1 fl_Jx4a65c_48 (by decide) rfl ?_
  refine WP.ret (ov := some (.int _)) dJx4a65c_size_8abf5_4 ⟨rfl, _, rfl, by first | rfl | assumption | exact nar_b01 (by assumption)⟩ ?_
  rw [h.2.1]
  exact hq
set_option maxHeartbeats 1000000 in
set_option maxRecDepth 4000 in
theorem s_alEmpty {d : Nat} {i : Nat} {xs : List Nat} {E : Option Nat} {M : Mem} {Q : Out → Mem → Prop} (h : Ls M i xs E) (hq : Q (.inl (some (.int (if xs = [] then 1 else 0)))) M) : WPc d mJx4a65c_isEmpty_aae02 [.ref (rf 33 i)] M Q := by
  refine WPc.of (by decide +kernel) (Nat.le_of_ble_eq_true rfl) rfl ?_
  refine R.aload_n dJx4a65c_isEmpty_aae02_0 rfl (by first | rfl | exact rfv_rf _) ?_
  refine R.getI dJx4a65c_isEmpty_aae02_1 fl_Jx4a65c_48 (by decide) rfl ?_
  refine R.if_ne (tgt := 11) dJx4a65c_isEmpty_aae02_4 (by decide) (fun c4 => ?_) (fun c4 => ?_)
  · refine R.iconst (v := 0) dJx4a65c_isEmpty_aae02_11 rfl ?_
    refine WP.ret (ov := some (.int _)) dJx4a65c_isEmpty_aae02_12 ⟨rfl, _, rfl, by first | rfl | assumption | exact nar_b01 (by assumption)⟩ ?_
    rw [if_neg (fun e => c4 (by rw [h.2.1, e]; rfl))] at hq
    exact hq
  · refine R.iconst (v := 1) dJx4a65c_isEmpty_aae02_7 rfl ?_
    refine R.goto (tgt := 12) dJx4a65c_isEmpty_aae02_8 (by decide) ?_
    refine WP.ret (ov := some (.int _)) dJx4a65c_isEmpty_aae02_12 ⟨rfl, _, rfl, by first | rfl | assumption | exact nar_b01 (by assumption)⟩ ?_
    rw [if_pos (List.length_eq_zero_iff.mp ((nI_inj (by have := h.len; omega) (by omega)).mp (h.2.1.symm.trans (c4.trans (rfl : (0 : Int32) = nI 0)))))] at hq
    exact hq
theorem s_preN {d : Nat} {x n : Int32} {M : Mem} {Q : Out → Mem → Prop} (h0 : ¬ x < 0) (h1 : x < n) (hq : Q (.inl (some (.int x))) M) : WPc d mJ3_checkIndex_8e157 [.int x, .int n, .null] M Q := by
  refine WPc.of (by decide +kernel) (Nat.le_of_ble_eq_true rfl) rfl ?_
  refine R.iload_n dJ3_checkIndex_8e157_0 rfl ?_
  refine R.if_lt (tgt := 9) dJ3_checkIndex_8e157_1 (by decide) (fun c => absurd c h0) (fun _ => ?_)
  refine R.iload_n dJ3_checkIndex_8e157_4 rfl ?_
  refine R.iload_n dJ3_checkIndex_8e157_5 rfl ?_
  refine R.icmp_lt (tgt := 16) dJ3_checkIndex_8e157_6 (by decide) (fun _ => ?_) (fun c => absurd h1 c)
  refine R.iload_n dJ3_checkIndex_8e157_16 rfl ?_
  refine WP.ret (ov := some (.int _)) dJ3_checkIndex_8e157_17 ⟨rfl, _, rfl, by first | rfl | assumption | exact nar_b01 (by assumption)⟩ ?_
  exact hq
set_option maxHeartbeats 1000000 in
set_option maxRecDepth 4000 in
theorem s_oCk {d : Nat} {x n : Int32} {M : Mem} {Q : Out → Mem → Prop} (h0 : ¬ x < 0) (h1 : x < n) (hq : Q (.inl (some (.int x))) M) : WPc (d + 1) mJ15_checkIndex_7cf53 [.int x, .int n] M Q := by
  refine WPc.of (by decide +kernel) (Nat.le_of_ble_eq_true rfl) rfl ?_
  refine R.iload_n dJ15_checkIndex_7cf53_0 rfl ?_
  refine R.iload_n dJ15_checkIndex_7cf53_1 rfl ?_
  refine R.null dJ15_checkIndex_7cf53_2 ?_
  refine cl_J15_105 rfl rfl (by first | exact Nat.le_of_ble_eq_true rfl | simp [rf_cat, Value.category]) dJ15_checkIndex_7cf53_3 ?_
  refine s_preN h0 h1 ?_
  refine WP.ret (ov := some (.int _)) dJ15_checkIndex_7cf53_6 ⟨rfl, _, rfl, by first | rfl | assumption | exact nar_b01 (by assumption)⟩ ?_
  exact hq
set_option maxHeartbeats 1000000 in
set_option maxRecDepth 4000 in
theorem s_alEl {d : Nat} {i : Nat} {xs : List Nat} {E : Option Nat} {j a : Nat} {M : Mem} {Q : Out → Mem → Prop} (h : Ls M i xs E) (hx : xs[j]? = some a) (hq : Q (.inl (some (.ref a))) M) : WPc d mJx4a65c_elementData_915e3 [.ref (rf 33 i), .int (nI j)] M Q := by
  refine WPc.of (by decide +kernel) (Nat.le_of_ble_eq_true rfl) rfl ?_
  obtain ⟨e, rfl, e1, e2, e3, e4, e5⟩ := h.at hx
  refine R.aload_n dJx4a65c_elementData_915e3_0 rfl (by first | rfl | exact rfv_rf _) ?_
  refine R.getS (e1) dJx4a65c_elementData_915e3_1 fl_Jx4a65c_9 (by decide) rfl ?_
  refine R.iload_n dJx4a65c_elementData_915e3_4 rfl ?_
  refine R.aalS (a := a) (by rw [nI_clamp (by omega)]; exact e2) (by decide) (by decide) dJx4a65c_elementData_915e3_5 (nI_pos (by omega)) (by rw [nI_clamp (by omega)]; omega) ?_
  first | refine WP.ret (ov := some (.ref _)) dJx4a65c_elementData_915e3_6 ⟨rfl, _, rfl, Or.inl ⟨_, rfl⟩⟩ ?_ | refine WP.ret (ov := some .null) dJx4a65c_elementData_915e3_6 ⟨rfl, _, rfl, Or.inl ⟨_, rfl⟩⟩ ?_
  exact hq
set_option maxHeartbeats 1000000 in
set_option maxRecDepth 4000 in
theorem s_alGet {d : Nat} {i : Nat} {xs : List Nat} {E : Option Nat} {j a : Nat} {M : Mem} {Q : Out → Mem → Prop} (h : Ls M i xs E) (hx : xs[j]? = some a) (hq : Q (.inl (some (.ref a))) M) : WPc (d + 3) mJx4a65c_get_915e3 [.ref (rf 33 i), .int (nI j)] M Q := by
  refine WPc.of (by decide +kernel) (Nat.le_of_ble_eq_true rfl) rfl ?_
  have hl := h.len
  have hj := (List.getElem?_eq_some_iff.mp hx).1
  refine R.iload_n dJx4a65c_get_915e3_0 rfl ?_
  refine R.aload_n dJx4a65c_get_915e3_1 rfl (by first | rfl | exact rfv_rf _) ?_
  refine R.getI dJx4a65c_get_915e3_2 fl_Jx4a65c_48 (by decide) rfl ?_
  refine cl_Jx4a65c_118 rfl rfl (by first | exact Nat.le_of_ble_eq_true rfl | simp [rf_cat, Value.category]) dJx4a65c_get_915e3_5 ?_
  refine s_oCk (nI_pos (by omega)) (by rw [h.2.1]; exact nI_lt hj (by omega)) ?_
  refine R.pop dJx4a65c_get_915e3_8 (by first | rfl | exact rf_cat _) ?_
  refine R.aload_n dJx4a65c_get_915e3_9 rfl (by first | rfl | exact rfv_rf _) ?_
  refine R.iload_n dJx4a65c_get_915e3_10 rfl ?_
  refine cl_Jx4a65c_123 rfl rfl (by first | exact Nat.le_of_ble_eq_true rfl | simp [rf_cat, Value.category]) dJx4a65c_get_915e3_11 ?_
  refine s_alEl h hx ?_
  first | refine WP.ret (ov := some (.ref _)) dJx4a65c_get_915e3_14 ⟨rfl, _, rfl, Or.inl ⟨_, rfl⟩⟩ ?_ | refine WP.ret (ov := some .null) dJx4a65c_get_915e3_14 ⟨rfl, _, rfl, Or.inl ⟨_, rfl⟩⟩ ?_
  exact hq
set_option maxHeartbeats 1000000 in
set_option maxRecDepth 4000 in
theorem s_itInit {d : Nat} {t i : Nat} {M : Mem} {Q : Out → Mem → Prop} (hq : Q (.inl none) (sI (sI (sR M 34 t 3 (some (rf 33 i))) 34 t 1 (-1)) 34 t 2 (mI M 33 i 0))) : WPc (d + 2) mJx35411_init_45d68 [.ref (rf 34 t), .ref (rf 33 i)] M Q := by
  refine WPc.of (by decide +kernel) (Nat.le_of_ble_eq_true rfl) rfl ?_
  refine R.aload_n dJx35411_init_45d68_0 rfl (by first | rfl | exact rfv_rf _) ?_
  refine R.aload_n dJx35411_init_45d68_1 rfl (by first | rfl | exact rfv_rf _) ?_
  first | refine R.putA dJx35411_init_45d68_2 fl_Jx35411_1 (fun q hq => by cases hq; exact Or.inr ⟨rfl, rfl⟩) rfl ?_ | refine R.putN dJx35411_init_45d68_2 fl_Jx35411_1 (fun q hq => by cases hq; exact Or.inr ⟨rfl, rfl⟩) rfl ?_ | refine R.putR dJx35411_init_45d68_2 fl_Jx35411_1 (fun q hq => by cases hq; exact Or.inr ⟨rfl, rfl⟩) rfl ?_
  refine R.aload_n dJx35411_init_45d68_5 rfl (by first | rfl | exact rfv_rf _) ?_
  refine R.objInit (by decide) oi_Jx35411_7 oi_in oi_co (by omega) (by first | exact Nat.le_of_ble_eq_true rfl | simp [rf_cat, Value.category]) dJx35411_init_45d68_6 ?_
  refine R.aload_n dJx35411_init_45d68_9 rfl (by first | rfl | exact rfv_rf _) ?_
  refine R.iconst (v := (-1)) dJx35411_init_45d68_10 rfl ?_
  refine R.putI dJx35411_init_45d68_11 fl_Jx35411_13 (fun q hq => by cases hq; exact Or.inl rfl) (by decide) rfl rfl rfl ?_
  refine R.aload_n dJx35411_init_45d68_14 rfl (by first | rfl | exact rfv_rf _) ?_
  refine R.aload_n dJx35411_init_45d68_15 rfl (by first | rfl | exact rfv_rf _) ?_
  refine R.getS (a := rf 33 i) (by simp [mR_sR, mR_sI]) dJx35411_init_45d68_16 fl_Jx35411_1 (by decide) rfl ?_
  refine R.getI dJx35411_init_45d68_19 fl_Jx35411_17 (by decide) rfl ?_
  refine R.putI dJx35411_init_45d68_22 fl_Jx35411_22 (fun q hq => by cases hq; exact Or.inl rfl) (by decide) rfl rfl rfl ?_
  refine WP.ret (ov := none) dJx35411_init_45d68_25 ⟨rfl, rfl⟩ ?_
  simp only [mI_sI, mI_sR] at hq ⊢
  simpa using hq
theorem cl_al_269 {i j : Nat} {m : MRec} {d pc : Nat} {ls st : List Value} {M : Mem} {Q : Out → Mem → Prop} (hm : m.1.cls = RJx4a65c) (hh : m.2.2.2.2 = []) (hr : (st.map fun v => v.category).sum ≤ 8) (hd : decode m.2.1 pc = .ok (.invokespecial 269, 3)) (k : WPc d mJx35411_init_45d68 [.ref (rf 34 i), .ref (rf 33 j)] M (fun o M1 => match o with | .inl r => WP m (d + 1) (pc + 3) ls (r.toList ++ st) M1 Q | .inr E => Q (.inr E) M1)) : WP m (d + 1) pc ls (.ref (rf 33 j) :: .ref (rf 34 i) :: st) M Q := cl_Jx4a65c_269 hm hh hr hd k
set_option maxHeartbeats 1000000 in
set_option maxRecDepth 4000 in
theorem s_alIter {d : Nat} {i : Nat} {xs : List Nat} {E : Option Nat} {M : Mem} {Q : Out → Mem → Prop} (h : Ls M i xs E) (hq : ∀ M' t, t = mC M 34 → It M' t i 0 → Fx Sz 1 4 M M' → (∀ k, mC M' k = if k = 34 then mC M 34 + 1 else mC M k) → Q (.inl (some (.ref (rf 34 t)))) M') : WPc (d + 3) mJx4a65c_iterator_32c93 [.ref (rf 33 i)] M Q := by
  refine WPc.of (by decide +kernel) (Nat.le_of_ble_eq_true rfl) rfl ?_
  refine R.new (k := 34) rfl cw_Jx4a65c_267 mk_34 iz_34 dJx4a65c_iterator_32c93_0 ?_
  refine R.dup dJx4a65c_iterator_32c93_3 (by first | rfl | exact rf_cat _) ?_
  refine R.aload_n dJx4a65c_iterator_32c93_4 rfl (by first | rfl | exact rfv_rf _) ?_
  refine cl_al_269 rfl rfl (by first | exact Nat.le_of_ble_eq_true rfl | simp [rf_cat, Value.category]) dJx4a65c_iterator_32c93_5 ?_
  refine s_itInit ?_
  refine WP.ret (ov := some (.ref _)) dJx4a65c_iterator_32c93_8 ⟨rfl, _, rfl, Or.inl ⟨_, rfl⟩⟩ ?_
  have hF : Fx Sz 1 4 M (al M 34 0 4) := (Fx.al (Fx.rf Sz 0 0 M) (by unfold inG; omega)).le (by omega) (by omega)
  have hn : ∀ k i : Nat, k = 34 → i = mC M 34 → Sz k i ∨ (inG k ∧ mC M k ≤ i) := fun k i h1 h2 => Or.inr ⟨by unfold inG; omega, by rw [h1, h2]; exact Nat.le_refl _⟩
  refine hq _ (mC M 34) rfl ⟨?_, ?_, ?_, ?_⟩ (((hF.sR (hn _ _ rfl rfl)).sI (hn _ _ rfl rfl)).sI (hn _ _ rfl rfl)) (fun k => rfl)
  · show mC (al M 34 0 4) 34 > _
    rw [mC_al, if_pos rfl]; omega
  · simp [mR_sR, mR_sI]
  · simp [mI_sR, mI_sI, mI_al]
    rfl
  · simp [mI_sR, mI_sI, mI_al]
set_option maxHeartbeats 1000000 in
set_option maxRecDepth 4000 in
theorem s_itHas {d : Nat} {i : Nat} {xs : List Nat} {E : Option Nat} {t c : Nat} {M : Mem} {Q : Out → Mem → Prop} (hI : It M t i c) (h : Ls M i xs E) (hc : c ≤ xs.length) (hq : Q (.inl (some (.int (if c = xs.length then 0 else 1)))) M) : WPc d mJx35411_hasNext_aae02 [.ref (rf 34 t)] M Q := by
  refine WPc.of (by decide +kernel) (Nat.le_of_ble_eq_true rfl) rfl ?_
  have hl := h.len
  refine R.aload_n dJx35411_hasNext_aae02_0 rfl (by first | rfl | exact rfv_rf _) ?_
  refine R.getI dJx35411_hasNext_aae02_1 fl_Jx35411_25 (by decide) rfl ?_
  refine R.aload_n dJx35411_hasNext_aae02_4 rfl (by first | rfl | exact rfv_rf _) ?_
  refine R.getS (hI.2.1) dJx35411_hasNext_aae02_5 fl_Jx35411_1 (by decide) rfl ?_
  refine R.getI dJx35411_hasNext_aae02_8 fl_Jx35411_28 (by decide) rfl ?_
  refine R.icmp_eq (tgt := 18) dJx35411_hasNext_aae02_11 (by decide) (fun c11 => ?_) (fun c11 => ?_)
  · refine R.iconst (v := 0) dJx35411_hasNext_aae02_18 rfl ?_
    refine WP.ret (ov := some (.int _)) dJx35411_hasNext_aae02_19 ⟨rfl, _, rfl, by first | rfl | assumption | exact nar_b01 (by assumption)⟩ ?_
    rw [hI.2.2.1, h.2.1] at c11
    rw [if_pos ((nI_inj (by omega) (by omega)).mp c11)] at hq
    exact hq
  · refine R.iconst (v := 1) dJx35411_hasNext_aae02_14 rfl ?_
    refine R.goto (tgt := 19) dJx35411_hasNext_aae02_15 (by decide) ?_
    refine WP.ret (ov := some (.int _)) dJx35411_hasNext_aae02_19 ⟨rfl, _, rfl, by first | rfl | assumption | exact nar_b01 (by assumption)⟩ ?_
    rw [hI.2.2.1, h.2.1] at c11
    rw [if_neg (fun e => c11 (by rw [e]))] at hq
    exact hq
set_option maxHeartbeats 1000000 in
set_option maxRecDepth 4000 in
theorem s_itCk {d : Nat} {t i c : Nat} {M : Mem} {Q : Out → Mem → Prop} (hI : It M t i c) (hq : Q (.inl none) M) : WPc d mJx35411_checkForComodification_da8c8 [.ref (rf 34 t)] M Q := by
  refine WPc.of (by decide +kernel) (Nat.le_of_ble_eq_true rfl) rfl ?_
  refine R.aload_n dJx35411_checkForComodification_da8c8_0 rfl (by first | rfl | exact rfv_rf _) ?_
  refine R.getS (hI.2.1) dJx35411_checkForComodification_da8c8_1 fl_Jx35411_1 (by decide) rfl ?_
  refine R.getI dJx35411_checkForComodification_da8c8_4 fl_Jx35411_17 (by decide) rfl ?_
  refine R.aload_n dJx35411_checkForComodification_da8c8_7 rfl (by first | rfl | exact rfv_rf _) ?_
  refine R.getI dJx35411_checkForComodification_da8c8_8 fl_Jx35411_22 (by decide) rfl ?_
  refine R.icmp_eq (tgt := 22) dJx35411_checkForComodification_da8c8_11 (by decide) (fun _ => ?_) (fun c => absurd hI.2.2.2.symm c)
  refine WP.ret (ov := none) dJx35411_checkForComodification_da8c8_22 ⟨rfl, rfl⟩ ?_
  exact hq
set_option maxHeartbeats 1000000 in
set_option maxRecDepth 4000 in
theorem s_itNext {d : Nat} {i : Nat} {xs : List Nat} {E : Option Nat} {t c a : Nat} {M : Mem} {Q : Out → Mem → Prop} (hI : It M t i c) (h : Ls M i xs E) (hx : xs[c]? = some a) (hq : ∀ M', It M' t i (c + 1) → Fx (fun k j => k = 34 ∧ j = t) 0 0 M M' → mC M' = mC M → Q (.inl (some (.ref a))) M') : WPc (d + 1) mJx35411_next_0502b [.ref (rf 34 t)] M Q := by
  refine WPc.of (by decide +kernel) (Nat.le_of_ble_eq_true rfl) rfl ?_
  have hl := h.len
  obtain ⟨e, rfl, e1, e2, e3, e4, e5⟩ := h.at hx
  refine R.aload_n dJx35411_next_0502b_0 rfl (by first | rfl | exact rfv_rf _) ?_
  refine cl_Jx35411_31 rfl rfl (by first | exact Nat.le_of_ble_eq_true rfl | simp [rf_cat, Value.category]) dJx35411_next_0502b_1 ?_
  refine s_itCk hI ?_
  refine R.aload_n dJx35411_next_0502b_4 rfl (by first | rfl | exact rfv_rf _) ?_
  refine R.getI dJx35411_next_0502b_5 fl_Jx35411_25 (by decide) rfl ?_
  rw [hI.2.2.1]
  refine R.istore_n dJx35411_next_0502b_8 (Nat.le_of_ble_eq_true rfl) (by decide) (by first | rfl | simp [lft, rf_cat]) rfl ?_
  refine R.iload_n dJx35411_next_0502b_9 rfl ?_
  refine R.aload_n dJx35411_next_0502b_10 rfl (by first | rfl | exact rfv_rf _) ?_
  refine R.getS (hI.2.1) dJx35411_next_0502b_11 fl_Jx35411_1 (by decide) rfl ?_
  refine R.getI dJx35411_next_0502b_14 fl_Jx35411_28 (by decide) rfl ?_
  rw [h.2.1]
  refine R.icmp_lt (tgt := 28) dJx35411_next_0502b_17 (by decide) (fun _ => ?_) (fun c => absurd (nI_lt e3 (by omega)) c)
  refine R.aload_n dJx35411_next_0502b_28 rfl (by first | rfl | exact rfv_rf _) ?_
  refine R.getS (hI.2.1) dJx35411_next_0502b_29 fl_Jx35411_1 (by decide) rfl ?_
  refine R.getS (e1) dJx35411_next_0502b_32 fl_Jx35411_37 (by decide) rfl ?_
  refine R.astore_n dJx35411_next_0502b_35 (by first | rfl | exact rfv_rf _) (Nat.le_of_ble_eq_true rfl) (by decide) (by first | rfl | simp [lft, rf_cat]) rfl ?_
  refine R.iload_n dJx35411_next_0502b_36 rfl ?_
  refine R.aload_n dJx35411_next_0502b_37 rfl (by first | rfl | exact rfv_rf _) ?_
  refine R.alen (by decide) (by decide) dJx35411_next_0502b_38 ?_
  refine R.icmp_lt (tgt := 50) dJx35411_next_0502b_39 (by decide) (fun _ => ?_) (fun c => absurd (nI_lt (by omega) (by omega)) c)
  refine R.aload_n dJx35411_next_0502b_50 rfl (by first | rfl | exact rfv_rf _) ?_
  refine R.iload_n dJx35411_next_0502b_51 rfl ?_
  refine R.iconst (v := 1) dJx35411_next_0502b_52 rfl ?_
  refine R.iadd dJx35411_next_0502b_53 ?_
  rw [show nI c + 1 = nI (c + 1) from inc_nI c]
  refine R.putI dJx35411_next_0502b_54 fl_Jx35411_25 (fun q hq => by cases hq; exact Or.inl rfl) (by decide) rfl rfl rfl ?_
  refine R.aload_n dJx35411_next_0502b_57 rfl (by first | rfl | exact rfv_rf _) ?_
  refine R.aload_n dJx35411_next_0502b_58 rfl (by first | rfl | exact rfv_rf _) ?_
  refine R.iload_n dJx35411_next_0502b_59 rfl ?_
  refine R.dup_x1 dJx35411_next_0502b_60 rfl rfl ?_
  refine R.putI dJx35411_next_0502b_61 fl_Jx35411_13 (fun q hq => by cases hq; exact Or.inl rfl) (by decide) rfl rfl rfl ?_
  refine R.aalS (a := a) (by simp only [mR_sI]; rw [nI_clamp (by omega)]; exact e2) (by decide) (by decide) dJx35411_next_0502b_64 (nI_pos (by omega)) (by show _ < mN M 16 e; rw [nI_clamp (by omega)]; omega) ?_
  first | refine WP.ret (ov := some (.ref _)) dJx35411_next_0502b_65 ⟨rfl, _, rfl, Or.inl ⟨_, rfl⟩⟩ ?_ | refine WP.ret (ov := some .null) dJx35411_next_0502b_65 ⟨rfl, _, rfl, Or.inl ⟨_, rfl⟩⟩ ?_
  refine hq _ ⟨hI.1, hI.2.1, ?_, ?_⟩ (((Fx.rf _ 0 0 M).sI (Or.inl ⟨rfl, rfl⟩)).sI (Or.inl ⟨rfl, rfl⟩)) rfl
  · simp [mI_sI]
  · simp [mI_sI]
    exact hI.2.2.2
set_option maxHeartbeats 1000000 in
set_option maxRecDepth 4000 in
theorem s_numI {d : Nat} {i : Nat} {M : Mem} {Q : Out → Mem → Prop} (hq : Q (.inl none) M) : WPc (d + 2) mJxd2413_init_da8c8 [.ref (rf 35 i)] M Q := by
  refine WPc.of (by decide +kernel) (Nat.le_of_ble_eq_true rfl) rfl ?_
  refine R.aload_n dJxd2413_init_da8c8_0 rfl (by first | rfl | exact rfv_rf _) ?_
  refine R.objInit (by decide) oi_Jxd2413_1 oi_in oi_co (by omega) (by first | exact Nat.le_of_ble_eq_true rfl | simp [rf_cat, Value.category]) dJxd2413_init_da8c8_1 ?_
  refine WP.ret (ov := none) dJxd2413_init_da8c8_4 ⟨rfl, rfl⟩ ?_
  exact hq
set_option maxHeartbeats 1000000 in
set_option maxRecDepth 4000 in
theorem s_intI {d : Nat} {i : Nat} {v : Int32} {M : Mem} {Q : Out → Mem → Prop} (hq : Q (.inl none) (sI M 35 i 0 v)) : WPc (d + 3) mJ6_init_d00df [.ref (rf 35 i), .int v] M Q := by
  refine WPc.of (by decide +kernel) (Nat.le_of_ble_eq_true rfl) rfl ?_
  refine R.aload_n dJ6_init_d00df_0 rfl (by first | rfl | exact rfv_rf _) ?_
  refine cl_J6_202 rfl rfl (by first | exact Nat.le_of_ble_eq_true rfl | simp [rf_cat, Value.category]) dJ6_init_d00df_1 ?_
  refine s_numI ?_
  refine R.aload_n dJ6_init_d00df_4 rfl (by first | rfl | exact rfv_rf _) ?_
  refine R.iload_n dJ6_init_d00df_5 rfl ?_
  refine R.putI dJ6_init_d00df_6 fl_J6_205 (fun q hq => by cases hq; exact Or.inr ⟨rfl, rfl⟩) (by decide) rfl rfl rfl ?_
  refine WP.ret (ov := none) dJ6_init_d00df_9 ⟨rfl, rfl⟩ ?_
  exact hq
set_option maxHeartbeats 1000000 in
set_option maxRecDepth 4000 in
theorem s_valOf {d : Nat} {v : Int32} {M : Mem} {Q : Out → Mem → Prop} (hq : ∀ a M', IvA M' a v → Fx Sz 1 1 M M' → (∀ k, k ≠ 35 → mC M' k = mC M k) → Q (.inl (some (.ref a))) M') : WPc (d + 4) mJ6_valueOf_2dffe [.int v] M Q := by
  refine WPc.of (by decide +kernel) (Nat.le_of_ble_eq_true rfl) rfl ?_
  have new : WP mJ6_valueOf_2dffe (d + 4) 23 [.int v] [] M Q := by
    refine R.new (k := 35) rfl cw_J6_1 mk_35 iz_35 dJ6_valueOf_2dffe_23 ?_
    refine R.dup dJ6_valueOf_2dffe_26 (by first | rfl | exact rf_cat _) ?_
    refine R.iload_n dJ6_valueOf_2dffe_27 rfl ?_
    refine cl_J6_199 rfl rfl (by first | exact Nat.le_of_ble_eq_true rfl | simp [rf_cat, Value.category]) dJ6_valueOf_2dffe_28 ?_
    refine s_intI ?_
    refine WP.ret (ov := some (.ref _)) dJ6_valueOf_2dffe_31 ⟨rfl, _, rfl, Or.inl ⟨_, rfl⟩⟩ ?_
    refine hq _ _ (Or.inr ⟨mC M 35, ?_, rfl, ?_⟩) (((Fx.al (N := 0) (sl := 1) (Fx.rf Sz 0 0 M) (k := 35) (by unfold inG; omega)).le (by omega) (by omega)).sI (Or.inr ⟨by unfold inG; omega, Nat.le_refl _⟩)) (fun k hk => ?_)
    · show mC (al M 35 0 1) 35 > _
      rw [mC_al, if_pos rfl]; omega
    · simp [mI_sI]
    · show mC (al M 35 0 1) k = _
      rw [mC_al, if_neg hk]
  refine R.iload_n dJ6_valueOf_2dffe_0 rfl ?_
  refine R.bipush (v := -128) dJ6_valueOf_2dffe_1 (by decide) ?_
  refine R.icmp_lt (tgt := 23) dJ6_valueOf_2dffe_3 (by decide) (fun _ => new) (fun c1 => ?_)
  refine R.iload_n dJ6_valueOf_2dffe_6 rfl ?_
  refine R.gsHigh gs_J6_191 dJ6_valueOf_2dffe_7 ?_
  refine R.icmp_gt (tgt := 23) dJ6_valueOf_2dffe_10 (by decide) (fun _ => new) (fun c2 => ?_)
  have h1 : (-128 : Int) ≤ v.toInt := Int32.le_iff_toInt_le.mp (Int32.not_lt.mp c1)
  have h2 : v.toInt ≤ 127 := Int32.le_iff_toInt_le.mp (Int32.not_lt.mp c2)
  obtain ⟨j, hj⟩ : ∃ j : Nat, (j : Int) = v.toInt + 128 := ⟨(v.toInt + 128).toNat, by omega⟩
  have hv : v + 128 = nI j := by
    apply Int32.toInt_inj.mp
    rw [nI_toInt (by omega), Int32.toInt_add, show (128 : Int32).toInt = 128 by decide, hj]
    rw [Int.bmod_eq_of_le (by omega) (by omega)]
  refine R.gsCache gs_J6_195 dJ6_valueOf_2dffe_13 ?_
  refine R.iload_n dJ6_valueOf_2dffe_16 rfl ?_
  refine R.sipush (v := 128) dJ6_valueOf_2dffe_17 (by decide) ?_
  refine R.iadd dJ6_valueOf_2dffe_20 ?_
  rw [hv]
  refine R.cacheAald dJ6_valueOf_2dffe_21 (nI_pos (by omega)) (by rw [nI_clamp (by omega)]; omega) ?_
  rw [nI_clamp (by omega)]
  refine WP.ret (ov := some (.ref _)) dJ6_valueOf_2dffe_22 ⟨rfl, _, rfl, Or.inl ⟨_, rfl⟩⟩ ?_
  refine hq _ _ (Or.inl ⟨j, by omega, rfl, ?_⟩) (Fx.rf Sz 1 1 M) (fun _ _ => rfl)
  rw [← hv]
  exact (Int32.add_sub_cancel _ _).symm
set_option maxHeartbeats 1000000 in
set_option maxRecDepth 4000 in
theorem s_intV {d : Nat} {a : Nat} {v : Int32} {M : Mem} {Q : Out → Mem → Prop} (h : IvA M a v) (hq : Q (.inl (some (.int v))) M) : WPc d mJ6_intValue_8abf5 [.ref a] M Q := by
  refine WPc.of (by decide +kernel) (Nat.le_of_ble_eq_true rfl) rfl ?_
  refine R.aload_n dJ6_intValue_8abf5_0 rfl (by first | rfl | exact rfv_rf _) ?_
  rcases h with ⟨j, h1, rfl, h2⟩ | ⟨j, h1, rfl, h2⟩
  · refine R.cacheVal h1 (gt_i 1502 (by decide +kernel) rfl) dJ6_intValue_8abf5_1 ?_
    rw [← h2]
    exact WP.ret (ov := some (.int _)) dJ6_intValue_8abf5_4 ⟨rfl, _, rfl, rfl⟩ hq
  · refine R.getI dJ6_intValue_8abf5_1 fl_J6_205 (by decide) rfl ?_
    rw [h2]
    exact WP.ret (ov := some (.int _)) dJ6_intValue_8abf5_4 ⟨rfl, _, rfl, rfl⟩ hq
