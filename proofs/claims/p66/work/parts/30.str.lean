/-! String constants and verbs: the JDK's methods on them -/
theorem CallK.U {m : MRec} {d : Nat} {y : MRec} {x : MethodName} {pc n a idx : Nat} {C owner : String} {args rest : List Value} {M : Mem} (hc : CalOk y n) (hl : Cond.methodLink m.1.cls idx x ∈ gtbl) (hsm : Cond.sameMethod x.cls owner x.name x.desc ∈ gtbl) (hi : Cond.instanceMethod y.1 ∈ gtbl) (hs : Cond.selects C x y.1 ∈ gtbl) (hyx : y.1 = ⟨owner, x.name, x.desc⟩) (hrc : RcvOk M C a) (hn : args.length = n) (hr : (rest.map fun v => v.category).sum ≤ 8) (hd : decode m.2.1 pc = .ok (.invokevirtual idx, 3)) : CallK m d y pc (args.reverse ++ .ref a :: rest) rest (.ref a :: args) M := by
  intro p l e R s mid args0 below meth c D cA A hcx φ H locs cells slots lsA hiv hsz hst Pc Qc XC mc ms free hM hbl hpc hcs
  obtain ⟨hx, hb, hml, hlk, hown, hts, htr, hin, hK, hd1, hd2, hA, hex⟩ := hcx
  obtain ⟨b, cellB, eb, hcB, hoB, hclB⟩ := hrc s D cA A φ H locs hK hiv (hst (.ref a) (by simp) a rfl)
  have hG : GoodIn gtbl (va_wsU m.1.cls idx C owner x y.1 (wcode y :: gtbl)) := by
    intro w hw
    unfold va_wsU at hw
    rcases List.mem_append.mp hw with hw | hw
    · simp only [List.mem_cons, List.mem_nil_iff, or_false] at hw
      rcases hw with rfl | rfl | rfl | rfl | rfl
      · exact gt_good hl
      · exact gt_good hsm
      · exact gt_good hs
      · exact gt_good hi
      · exact gt_good hc.2.2.1
    · exact good_cal hc w hw
  have ho : owner = y.1.cls := by rw [hyx]
  have hds : x.desc = y.1.desc := by rw [hyx]
  rw [rev_map, List.map_cons, List.map_cons, eb]
  exact vx_runU (As := args.map (cv φ)) (rest := rest.map (cv φ)) (b := b) (C := C) (owner := owner) (x := x) (bytes := y.2.1) (maxL := y.2.2.1) (ret := y.2.2.2.1) (g := F0 mid pc lsA ((args.map (cv φ)).reverse ++ Value.ref b :: rest.map (cv φ))) (H := H) (locs := locs) (cells := cells) (slots := slots) ⟨hx, hb, hml, hown, hts⟩ hM (va_cwU n hts hG (by rw [wc_code hc.1]) rfl rfl hyx (by rw [ho, hds]; exact hc.2.2.2.1) ⟨hd1, by have := hc.2.2.2.2; show 8 + (y.2.2.1 + 11) + 41 * d ≤ R.locals; omega⟩)
    ⟨hbl, ⟨cellB, hcB, hoB, hclB⟩, by rw [List.map_cons, eb] at hpc; exact hpc⟩ rfl (by rw [List.length_map]; exact hn) hsz rfl (lv_room (cat_map hr)) hd hcs
def mJ0_length_8abf5 : MRec := (yJ0_length_8abf5, cJ0_length_8abf5, 1, some .int, [])
theorem kJ0_length_8abf5 : CalOk mJ0_length_8abf5 0 := ⟨rfl, gt_i 425 (by decide +kernel) rfl, gt_i 16 (by decide +kernel) rfl, ⟨by decide +kernel, by decide +kernel, by decide +kernel⟩, by decide⟩
theorem inJ0_length_8abf5 : Cond.instanceMethod yJ0_length_8abf5 ∈ gtbl := gt_i 423 (by decide +kernel) rfl
def mJ0_coder_7d493 : MRec := (yJ0_coder_7d493, cJ0_coder_7d493, 1, some .byte, [])
theorem kJ0_coder_7d493 : CalOk mJ0_coder_7d493 0 := ⟨rfl, gt_i 429 (by decide +kernel) rfl, gt_i 16 (by decide +kernel) rfl, ⟨by decide +kernel, by decide +kernel, by decide +kernel⟩, by decide⟩
theorem inJ0_coder_7d493 : Cond.instanceMethod yJ0_coder_7d493 ∈ gtbl := gt_i 427 (by decide +kernel) rfl
def mJ0_isLatin1_aae02 : MRec := (yJ0_isLatin1_aae02, cJ0_isLatin1_aae02, 1, some .boolean, [])
theorem kJ0_isLatin1_aae02 : CalOk mJ0_isLatin1_aae02 0 := ⟨rfl, gt_i 438 (by decide +kernel) rfl, gt_i 16 (by decide +kernel) rfl, ⟨by decide +kernel, by decide +kernel, by decide +kernel⟩, by decide⟩
theorem inJ0_isLatin1_aae02 : Cond.instanceMethod yJ0_isLatin1_aae02 ∈ gtbl := gt_i 436 (by decide +kernel) rfl
def mJ0_charAt_5068e : MRec := (yJ0_charAt_5068e, cJ0_charAt_5068e, 2, some .char, [])
theorem kJ0_charAt_5068e : CalOk mJ0_charAt_5068e 1 := ⟨rfl, gt_i 434 (by decide +kernel) rfl, gt_i 16 (by decide +kernel) rfl, ⟨by decide +kernel, by decide +kernel, by decide +kernel⟩, by decide⟩
theorem inJ0_charAt_5068e : Cond.instanceMethod yJ0_charAt_5068e ∈ gtbl := gt_i 432 (by decide +kernel) rfl
def mJ1_charAt_3b067 : MRec := (yJ1_charAt_3b067, cJ1_charAt_3b067, 2, some .char, [])
theorem kJ1_charAt_3b067 : CalOk mJ1_charAt_3b067 2 := ⟨rfl, gt_i 441 (by decide +kernel) rfl, gt_i 18 (by decide +kernel) rfl, ⟨by decide +kernel, by decide +kernel, by decide +kernel⟩, by decide⟩
theorem stJ1_charAt_3b067 : Cond.static yJ1_charAt_3b067 ∈ gtbl := gt_i 440 (by decide +kernel) rfl
def mJ0_checkIndex_df160 : MRec := (yJ0_checkIndex_df160, cJ0_checkIndex_df160, 2, none, [])
theorem kJ0_checkIndex_df160 : CalOk mJ0_checkIndex_df160 2 := ⟨rfl, gt_i 444 (by decide +kernel) rfl, gt_i 16 (by decide +kernel) rfl, ⟨by decide +kernel, by decide +kernel, by decide +kernel⟩, by decide⟩
theorem stJ0_checkIndex_df160 : Cond.static yJ0_checkIndex_df160 ∈ gtbl := gt_i 443 (by decide +kernel) rfl
def mJ3_checkIndex_8e157 : MRec := (yJ3_checkIndex_8e157, cJ3_checkIndex_8e157, 3, some .int, [])
theorem kJ3_checkIndex_8e157 : CalOk mJ3_checkIndex_8e157 3 := ⟨rfl, gt_i 449 (by decide +kernel) rfl, gt_i 19 (by decide +kernel) rfl, ⟨by decide +kernel, by decide +kernel, by decide +kernel⟩, by decide⟩
theorem stJ3_checkIndex_8e157 : Cond.static yJ3_checkIndex_8e157 ∈ gtbl := gt_i 448 (by decide +kernel) rfl
theorem cl_X8_29 {i : Nat} {m : MRec} {d pc : Nat} {ls st : List Value} {M : Mem} {Q : Out → Mem → Prop} (hi : i < 23) (hm : m.1.cls = RX8) (hh : m.2.2.2.2 = []) (hr : (st.map fun v => v.category).sum ≤ 8) (hd : decode m.2.1 pc = .ok (.invokevirtual 29, 3)) (k : WPc d mJ0_length_8abf5 [.ref (rf 21 i)] M (fun o M1 => match o with | .inl r => WP m (d + 1) (pc + 3) ls (r.toList ++ st) M1 Q | .inr E => Q (.inr E) M1)) : WP m (d + 1) pc ls (.ref (rf 21 i) :: st) M Q :=
  WP.callG (CallK.V (args := []) (rest := st) kJ0_length_8abf5 (by rw [hm]; exact gt_i 422 (by decide +kernel) rfl) inJ0_length_8abf5 (gt_i 424 (by decide +kernel) rfl) (rcv_str hi) rfl hr hd) hh (hokV [] st _) k
theorem cl_X8_34 {i : Nat} {m : MRec} {d pc : Nat} {ls st : List Value} {M : Mem} {Q : Out → Mem → Prop} {a1 : Value} (hi : i < 23) (hm : m.1.cls = RX8) (hh : m.2.2.2.2 = []) (hr : (st.map fun v => v.category).sum ≤ 8) (hd : decode m.2.1 pc = .ok (.invokevirtual 34, 3)) (k : WPc d mJ0_charAt_5068e [.ref (rf 21 i), a1] M (fun o M1 => match o with | .inl r => WP m (d + 1) (pc + 3) ls (r.toList ++ st) M1 Q | .inr E => Q (.inr E) M1)) : WP m (d + 1) pc ls (a1 :: .ref (rf 21 i) :: st) M Q :=
  WP.callG (CallK.V (args := [a1]) (rest := st) kJ0_charAt_5068e (by rw [hm]; exact gt_i 431 (by decide +kernel) rfl) inJ0_charAt_5068e (gt_i 433 (by decide +kernel) rfl) (rcv_str hi) rfl hr hd) hh (hokV [a1] st _) k
theorem cl_J0_335 {i : Nat} {m : MRec} {d pc : Nat} {ls st : List Value} {M : Mem} {Q : Out → Mem → Prop} (hi : i < 23) (hm : m.1.cls = RJ0) (hh : m.2.2.2.2 = []) (hr : (st.map fun v => v.category).sum ≤ 8) (hd : decode m.2.1 pc = .ok (.invokevirtual 335, 3)) (k : WPc d mJ0_coder_7d493 [.ref (rf 21 i)] M (fun o M1 => match o with | .inl r => WP m (d + 1) (pc + 3) ls (r.toList ++ st) M1 Q | .inr E => Q (.inr E) M1)) : WP m (d + 1) pc ls (.ref (rf 21 i) :: st) M Q :=
  WP.callG (CallK.V (args := []) (rest := st) kJ0_coder_7d493 (by rw [hm]; exact gt_i 426 (by decide +kernel) rfl) inJ0_coder_7d493 (gt_i 428 (by decide +kernel) rfl) (rcv_str hi) rfl hr hd) hh (hokV [] st _) k
theorem cl_J0_492 {i : Nat} {m : MRec} {d pc : Nat} {ls st : List Value} {M : Mem} {Q : Out → Mem → Prop} (hi : i < 23) (hm : m.1.cls = RJ0) (hh : m.2.2.2.2 = []) (hr : (st.map fun v => v.category).sum ≤ 8) (hd : decode m.2.1 pc = .ok (.invokevirtual 492, 3)) (k : WPc d mJ0_isLatin1_aae02 [.ref (rf 21 i)] M (fun o M1 => match o with | .inl r => WP m (d + 1) (pc + 3) ls (r.toList ++ st) M1 Q | .inr E => Q (.inr E) M1)) : WP m (d + 1) pc ls (.ref (rf 21 i) :: st) M Q :=
  WP.callG (CallK.V (args := []) (rest := st) kJ0_isLatin1_aae02 (by rw [hm]; exact gt_i 435 (by decide +kernel) rfl) inJ0_isLatin1_aae02 (gt_i 437 (by decide +kernel) rfl) (rcv_str hi) rfl hr hd) hh (hokV [] st _) k
theorem cl_J0_495 {m : MRec} {d pc : Nat} {ls st : List Value} {M : Mem} {Q : Out → Mem → Prop} {a1 a2 : Value} (hm : m.1.cls = RJ0) (hh : m.2.2.2.2 = []) (hr : (st.map fun v => v.category).sum ≤ 8) (hd : decode m.2.1 pc = .ok (.invokestatic 495, 3)) (k : WPc d mJ1_charAt_3b067 [a1, a2] M (fun o M1 => match o with | .inl r => WP m (d + 1) (pc + 3) ls (r.toList ++ st) M1 Q | .inr E => Q (.inr E) M1)) : WP m (d + 1) pc ls (a2 :: a1 :: st) M Q :=
  WP.callG (CallK.S (args := [a1, a2]) (rest := st) kJ1_charAt_3b067 (by rw [hm]; exact gt_i 439 (by decide +kernel) rfl) stJ1_charAt_3b067 rfl hr hd) hh (hokS [a1, a2] st) k
theorem cl_J1_9 {m : MRec} {d pc : Nat} {ls st : List Value} {M : Mem} {Q : Out → Mem → Prop} {a1 a2 : Value} (hm : m.1.cls = RJ1) (hh : m.2.2.2.2 = []) (hr : (st.map fun v => v.category).sum ≤ 8) (hd : decode m.2.1 pc = .ok (.invokestatic 9, 3)) (k : WPc d mJ0_checkIndex_df160 [a1, a2] M (fun o M1 => match o with | .inl r => WP m (d + 1) (pc + 3) ls (r.toList ++ st) M1 Q | .inr E => Q (.inr E) M1)) : WP m (d + 1) pc ls (a2 :: a1 :: st) M Q :=
  WP.callG (CallK.S (args := [a1, a2]) (rest := st) kJ0_checkIndex_df160 (by rw [hm]; exact gt_i 442 (by decide +kernel) rfl) stJ0_checkIndex_df160 rfl hr hd) hh (hokS [a1, a2] st) k
theorem cl_J0_1059 {m : MRec} {d pc : Nat} {ls st : List Value} {M : Mem} {Q : Out → Mem → Prop} {a1 a2 a3 : Value} (hm : m.1.cls = RJ0) (hh : m.2.2.2.2 = []) (hr : (st.map fun v => v.category).sum ≤ 8) (hd : decode m.2.1 pc = .ok (.invokestatic 1059, 3)) (k : WPc d mJ3_checkIndex_8e157 [a1, a2, a3] M (fun o M1 => match o with | .inl r => WP m (d + 1) (pc + 3) ls (r.toList ++ st) M1 Q | .inr E => Q (.inr E) M1)) : WP m (d + 1) pc ls (a3 :: a2 :: a1 :: st) M Q :=
  WP.callG (CallK.S (args := [a1, a2, a3]) (rest := st) kJ3_checkIndex_8e157 (by rw [hm]; exact gt_i 447 (by decide +kernel) rfl) stJ3_checkIndex_8e157 rfl hr hd) hh (hokS [a1, a2, a3] st) k
theorem chr_b (x : Int32) : True := trivial
set_option maxHeartbeats 1000000 in
set_option maxRecDepth 4000 in
theorem s_strCoder {d : Nat} {i : Nat} {M : Mem} {Q : Out → Mem → Prop} (hi : i < 23) (hq : Q (.inl (some (.int 0))) M) : WPc d mJ0_coder_7d493 [.ref (rf 21 i)] M Q := by
  refine WPc.of (by decide +kernel) (Nat.le_of_ble_eq_true rfl) rfl ?_
  refine R.gsCompact (gt_i 430 (by decide +kernel) rfl) dJ0_coder_7d493_0 ?_
  refine R.if_eq (tgt := 13) dJ0_coder_7d493_3 (by decide) (fun c => absurd c (by decide)) (fun _ => ?_)
  refine R.aload_n dJ0_coder_7d493_6 rfl (by first | rfl | exact rfv_rf _) ?_
  refine R.strCoder hi (gt_i 1681 (by decide +kernel) rfl) dJ0_coder_7d493_7 ?_
  refine R.goto (tgt := 14) dJ0_coder_7d493_10 (by decide) ?_
  refine WP.ret (ov := some (.int _)) dJ0_coder_7d493_14 ⟨rfl, _, rfl, by first | rfl | assumption | exact nar_b01 (by assumption)⟩ ?_
  exact hq
theorem sh0 (x : Int32) : x >>> ((0 : Int32) &&& 31) = x := by
  rw [show ((0 : Int32) &&& 31) = 0 by decide]
  exact Int32.shiftRight_zero
set_option maxHeartbeats 1000000 in
set_option maxRecDepth 4000 in
theorem s_strLen {d : Nat} {i : Nat} {M : Mem} {Q : Out → Mem → Prop} (hi : i < 23) (hq : Q (.inl (some (.int (nI (sLn i))))) M) : WPc (d + 1) mJ0_length_8abf5 [.ref (rf 21 i)] M Q := by
  refine WPc.of (by decide +kernel) (Nat.le_of_ble_eq_true rfl) rfl ?_
  refine R.aload_n dJ0_length_8abf5_0 rfl (by first | rfl | exact rfv_rf _) ?_
  refine R.strValue hi (gt_i 1680 (by decide +kernel) rfl) dJ0_length_8abf5_1 ?_
  refine R.strAlen hi dJ0_length_8abf5_4 ?_
  refine R.aload_n dJ0_length_8abf5_5 rfl (by first | rfl | exact rfv_rf _) ?_
  refine cl_J0_335 hi rfl rfl (by first | exact Nat.le_of_ble_eq_true rfl | simp [rf_cat, Value.category]) dJ0_length_8abf5_6 ?_
  refine s_strCoder hi ?_
  refine R.ishr dJ0_length_8abf5_9 ?_
  refine WP.ret (ov := some (.int _)) dJ0_length_8abf5_10 ⟨rfl, _, rfl, by first | rfl | assumption | exact nar_b01 (by assumption)⟩ ?_
  rw [show nI (sLn i) >>> ((0 : Int32) &&& 31) = nI (sLn i) from sh0 _]
  exact hq
set_option maxHeartbeats 1000000 in
set_option maxRecDepth 4000 in
theorem s_strLat {d : Nat} {i : Nat} {M : Mem} {Q : Out → Mem → Prop} (hi : i < 23) (hq : Q (.inl (some (.int 1))) M) : WPc d mJ0_isLatin1_aae02 [.ref (rf 21 i)] M Q := by
  refine WPc.of (by decide +kernel) (Nat.le_of_ble_eq_true rfl) rfl ?_
  refine R.gsCompact (gt_i 430 (by decide +kernel) rfl) dJ0_isLatin1_aae02_0 ?_
  refine R.if_eq (tgt := 17) dJ0_isLatin1_aae02_3 (by decide) (fun c => absurd c (by decide)) (fun _ => ?_)
  refine R.aload_n dJ0_isLatin1_aae02_6 rfl (by first | rfl | exact rfv_rf _) ?_
  refine R.strCoder hi (gt_i 1681 (by decide +kernel) rfl) dJ0_isLatin1_aae02_7 ?_
  refine R.if_ne (tgt := 17) dJ0_isLatin1_aae02_10 (by decide) (fun c => absurd rfl c) (fun _ => ?_)
  refine R.iconst (v := 1) dJ0_isLatin1_aae02_13 rfl ?_
  refine R.goto (tgt := 18) dJ0_isLatin1_aae02_14 (by decide) ?_
  refine WP.ret (ov := some (.int _)) dJ0_isLatin1_aae02_18 ⟨rfl, _, rfl, by first | rfl | assumption | exact nar_b01 (by assumption)⟩ ?_
  exact hq
set_option maxHeartbeats 1000000 in
set_option maxRecDepth 4000 in
theorem s_pre {d : Nat} {x n : Int32} {M : Mem} {Q : Out → Mem → Prop} (h0 : ¬ x < 0) (h1 : x < n) (hq : Q (.inl (some (.int x))) M) : WPc d mJ3_checkIndex_8e157 [.int x, .int n, .ref (rf 29 0)] M Q := by
  refine WPc.of (by decide +kernel) (Nat.le_of_ble_eq_true rfl) rfl ?_
  refine R.iload_n dJ3_checkIndex_8e157_0 rfl ?_
  refine R.if_lt (tgt := 9) dJ3_checkIndex_8e157_1 (by decide) (fun c1 => ?_) (fun c1 => ?_)
  · have n1 := i_nle c1
    exact absurd c1 h0
  · have n1 := i_nlt c1
    refine R.iload_n dJ3_checkIndex_8e157_4 rfl ?_
    refine R.iload_n dJ3_checkIndex_8e157_5 rfl ?_
    refine R.icmp_lt (tgt := 16) dJ3_checkIndex_8e157_6 (by decide) (fun c6 => ?_) (fun c6 => ?_)
    · have n6 := i_nle c6
      refine R.iload_n dJ3_checkIndex_8e157_16 rfl ?_
      refine WP.ret (ov := some (.int _)) dJ3_checkIndex_8e157_17 ⟨rfl, _, rfl, by first | rfl | assumption | exact nar_b01 (by assumption)⟩ ?_
      exact hq
    · have n6 := i_nlt c6
      exact absurd h1 c6
set_option maxHeartbeats 1000000 in
set_option maxRecDepth 4000 in
theorem s_chk {d : Nat} {x n : Int32} {M : Mem} {Q : Out → Mem → Prop} (h0 : ¬ x < 0) (h1 : x < n) (hq : Q (.inl none) M) : WPc (d + 1) mJ0_checkIndex_df160 [.int x, .int n] M Q := by
  refine WPc.of (by decide +kernel) (Nat.le_of_ble_eq_true rfl) rfl ?_
  refine R.iload_n dJ0_checkIndex_df160_0 rfl ?_
  refine R.iload_n dJ0_checkIndex_df160_1 rfl ?_
  refine R.gsFmt (gt_i 445 (by decide +kernel) rfl) dJ0_checkIndex_df160_2 ?_
  refine cl_J0_1059 rfl rfl (by first | exact Nat.le_of_ble_eq_true rfl | simp [rf_cat, Value.category]) dJ0_checkIndex_df160_5 ?_
  refine s_pre h0 h1 ?_
  refine R.pop dJ0_checkIndex_df160_8 (by first | rfl | exact rf_cat _) ?_
  refine WP.ret (ov := none) dJ0_checkIndex_df160_9 ⟨rfl, rfl⟩ ?_
  exact hq
theorem sLn_lt : ∀ i, i < 23 → sLn i < 1000 := by decide +kernel
theorem sB_ok : ∀ i, i < 23 → ∀ j, j < sLn i → (((sB i j) &&& 255).toUInt32 % 65536).toInt32 = sB i j := by decide +kernel
theorem sB_ch : ∀ i, i < 23 → ∀ j, j < sLn i → ((sB i j).toUInt32 % 65536).toInt32 = sB i j := by decide +kernel
theorem nar_ch {v : Int32} (h : (v.toUInt32 % 65536).toInt32 = v) : narrow .char (.int v) = .int v := congrArg Value.int h
set_option maxHeartbeats 1000000 in
set_option maxRecDepth 4000 in
theorem s_latAt {d : Nat} {i j : Nat} {M : Mem} {Q : Out → Mem → Prop} (hi : i < 23) (hj : j < sLn i) (hq : Q (.inl (some (.int (sB i j)))) M) : WPc (d + 2) mJ1_charAt_3b067 [.ref (rf 23 i), .int (nI j)] M Q := by
  refine WPc.of (by decide +kernel) (Nat.le_of_ble_eq_true rfl) rfl ?_
  have hs := sLn_lt i hi
  refine R.iload_n dJ1_charAt_3b067_0 rfl ?_
  refine R.aload_n dJ1_charAt_3b067_1 rfl (by first | rfl | exact rfv_rf _) ?_
  refine R.strAlen hi dJ1_charAt_3b067_2 ?_
  refine cl_J1_9 rfl rfl (by first | exact Nat.le_of_ble_eq_true rfl | simp [rf_cat, Value.category]) dJ1_charAt_3b067_3 ?_
  refine s_chk (nI_pos (by omega)) (nI_lt hj (by omega)) ?_
  refine R.aload_n dJ1_charAt_3b067_6 rfl (by first | rfl | exact rfv_rf _) ?_
  refine R.iload_n dJ1_charAt_3b067_7 rfl ?_
  refine R.strBald hi dJ1_charAt_3b067_8 (nI_pos (by omega)) (by rw [nI_clamp (by omega)]; exact hj) ?_
  rw [nI_clamp (by omega)]
  refine R.sipush (v := 255) dJ1_charAt_3b067_9 (by decide) ?_
  refine R.iand dJ1_charAt_3b067_12 ?_
  refine R.i2c dJ1_charAt_3b067_13 ?_
  rw [sB_ok i hi j hj]
  refine WP.ret (ov := some (.int _)) dJ1_charAt_3b067_14 ⟨rfl, _, rfl, nar_ch (sB_ch i hi j hj)⟩ hq
set_option maxHeartbeats 1000000 in
set_option maxRecDepth 4000 in
theorem s_chAt {d : Nat} {i j : Nat} {M : Mem} {Q : Out → Mem → Prop} (hi : i < 23) (hj : j < sLn i) (hq : Q (.inl (some (.int (sB i j)))) M) : WPc (d + 3) mJ0_charAt_5068e [.ref (rf 21 i), .int (nI j)] M Q := by
  refine WPc.of (by decide +kernel) (Nat.le_of_ble_eq_true rfl) rfl ?_
  refine R.aload_n dJ0_charAt_5068e_0 rfl (by first | rfl | exact rfv_rf _) ?_
  refine cl_J0_492 hi rfl rfl (by first | exact Nat.le_of_ble_eq_true rfl | simp [rf_cat, Value.category]) dJ0_charAt_5068e_1 ?_
  refine s_strLat hi ?_
  refine R.if_eq (tgt := 16) dJ0_charAt_5068e_4 (by decide) (fun c => absurd c (by decide)) (fun _ => ?_)
  refine R.aload_n dJ0_charAt_5068e_7 rfl (by first | rfl | exact rfv_rf _) ?_
  refine R.strValue hi (gt_i 1680 (by decide +kernel) rfl) dJ0_charAt_5068e_8 ?_
  refine R.iload_n dJ0_charAt_5068e_11 rfl ?_
  refine cl_J0_495 rfl rfl (by first | exact Nat.le_of_ble_eq_true rfl | simp [rf_cat, Value.category]) dJ0_charAt_5068e_12 ?_
  refine s_latAt hi hj ?_
  refine WP.ret (ov := some (.int _)) dJ0_charAt_5068e_15 ⟨rfl, _, rfl, nar_ch (sB_ch i hi j hj)⟩ hq