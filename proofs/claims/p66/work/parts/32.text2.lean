/-! what is read of the tokens -/
set_option maxHeartbeats 1000000 in
set_option maxRecDepth 4000 in
theorem s_tIsW {d : Nat} {b : Nat → Int32} {n s e : Nat} {k c q : Int32} {v : Nat} {M : Mem} {Q : Out → Mem → Prop} (h : Tx M b n (s, e, k, c, q)) (hv : v < 23) (hse : s ≤ e) (hq : Q (.inl (some (.int (if isW b s e k v = true then 1 else 0)))) M) : WPc (d + 4) mX8_isWord [.ref (rf 7 0), .ref (rf 21 v)] M Q := by
  refine WPc.of (by decide +kernel) (Nat.le_of_ble_eq_true rfl) rfl ?_
  have hv9 := sLn_lt v hv
  have hn6 := h.hn
  have hen := h.hen
  by_cases hk : k = 2
  · by_cases hln : e - s = sLn v
    · have key : ∀ (f i : Nat), i + f = sLn v → Q (.inl (some (.int (if eqW b s v f i = true then 1 else 0)))) M → WP mX8_isWord (d + 4) 28 [.ref (rf 7 0), .ref (rf 21 v), .int (nI i)] [] M Q := by
        intro f
        induction f with
        | zero =>
          intro i hik hq
          have e9 : i = sLn v := by omega
          subst e9
          refine R.iload_n dX8_isWord_28 rfl ?_
          refine R.aload_n dX8_isWord_29 rfl (by first | rfl | exact rfv_rf _) ?_
          refine cl_X8_29 hv rfl rfl (by first | exact Nat.le_of_ble_eq_true rfl | simp [rf_cat, Value.category]) dX8_isWord_30 ?_
          refine s_strLen hv ?_
          refine R.geT (tgt := 62) (Int32.le_refl _) dX8_isWord_33 (by decide) ?_
          refine R.iconst (v := 1) dX8_isWord_62 rfl ?_
          refine WP.ret (ov := some (.int _)) dX8_isWord_63 ⟨rfl, _, rfl, by first | rfl | assumption | exact nar_b01 (by assumption)⟩ ?_
          exact hq
        | succ f ih =>
          intro i hik hq
          have hi : i < sLn v := by omega
          refine R.iload_n dX8_isWord_28 rfl ?_
          refine R.aload_n dX8_isWord_29 rfl (by first | rfl | exact rfv_rf _) ?_
          refine cl_X8_29 hv rfl rfl (by first | exact Nat.le_of_ble_eq_true rfl | simp [rf_cat, Value.category]) dX8_isWord_30 ?_
          refine s_strLen hv ?_
          refine R.geF (tgt := 62) (nI_ge hi (by omega)) dX8_isWord_33 (by decide) ?_
          refine R.aload_n dX8_isWord_36 rfl (by first | rfl | exact rfv_rf _) ?_
          refine R.aload_n dX8_isWord_37 rfl (by first | rfl | exact rfv_rf _) ?_
          refine R.getI dX8_isWord_38 fl_X8_41 (by decide) rfl ?_
          rw [h.hs]
          refine R.iload_n dX8_isWord_41 rfl ?_
          refine R.iadd dX8_isWord_42 ?_
          rw [nI_add]
          refine cl_X8_54 rfl rfl (by first | exact Nat.le_of_ble_eq_true rfl | simp [rf_cat, Value.category]) dX8_isWord_43 ?_
          refine s_tByte h (by omega) ?_
          refine R.aload_n dX8_isWord_46 rfl (by first | rfl | exact rfv_rf _) ?_
          refine R.iload_n dX8_isWord_47 rfl ?_
          refine cl_X8_34 hv rfl rfl (by first | exact Nat.le_of_ble_eq_true rfl | simp [rf_cat, Value.category]) dX8_isWord_48 ?_
          refine s_chAt hv hi ?_
          refine R.icmp_eq (tgt := 56) dX8_isWord_51 (by decide) (fun c51 => ?_) (fun c51 => ?_)
          · refine R.iinc dX8_isWord_56 (Nat.le_of_ble_eq_true rfl) (by decide) (by first | rfl | simp [lft, rf_cat]) rfl (inc_nI _) rfl ?_
            refine R.goto (tgt := 28) dX8_isWord_59 (by decide) ?_
            refine ih (i + 1) (by omega) ?_
            rw [eqW, show decide (b (s + i) = sB v i) = true from decide_eq_true c51] at hq
            exact hq
          · refine R.iconst (v := 0) dX8_isWord_54 rfl ?_
            refine WP.ret (ov := some (.int _)) dX8_isWord_55 ⟨rfl, _, rfl, by first | rfl | assumption | exact nar_b01 (by assumption)⟩ ?_
            rw [eqW, show decide (b (s + i) = sB v i) = false from decide_eq_false c51] at hq
            exact hq
      have hq' : Q (.inl (some (.int (if eqW b s v (sLn v) 0 = true then 1 else 0)))) M := by
        unfold isW at hq
        rw [show decide (k = 2) = true from decide_eq_true hk, show decide (e - s = sLn v) = true from decide_eq_true hln] at hq
        exact hq
      refine R.aload_n dX8_isWord_0 rfl (by first | rfl | exact rfv_rf _) ?_
      refine R.getI dX8_isWord_1 fl_X8_48 (by decide) rfl ?_
      rw [h.hk]
      refine R.iconst (v := 2) dX8_isWord_4 rfl ?_
      refine R.icmp_ne (tgt := 24) dX8_isWord_5 (by decide) (fun c => absurd hk c) (fun _ => ?_)
      refine R.aload_n dX8_isWord_8 rfl (by first | rfl | exact rfv_rf _) ?_
      refine R.getI dX8_isWord_9 fl_X8_38 (by decide) rfl ?_
      rw [h.he]
      refine R.aload_n dX8_isWord_12 rfl (by first | rfl | exact rfv_rf _) ?_
      refine R.getI dX8_isWord_13 fl_X8_41 (by decide) rfl ?_
      rw [h.hs]
      refine R.isub dX8_isWord_16 ?_
      rw [nI_sub hse]
      refine R.aload_n dX8_isWord_17 rfl (by first | rfl | exact rfv_rf _) ?_
      refine cl_X8_29 hv rfl rfl (by first | exact Nat.le_of_ble_eq_true rfl | simp [rf_cat, Value.category]) dX8_isWord_18 ?_
      refine s_strLen hv ?_
      refine R.icmp_eq (tgt := 26) dX8_isWord_21 (by decide) (fun _ => ?_) (fun c => absurd (by rw [hln]) c)
      refine R.iconst (v := 0) dX8_isWord_26 rfl ?_
      refine R.istore_n dX8_isWord_27 (Nat.le_of_ble_eq_true rfl) (by decide) (by first | rfl | simp [lft, rf_cat]) rfl ?_
      exact key (sLn v) 0 (by omega) hq'
    · rw [show isW b s e k v = false by simp [isW, hln]] at hq
      refine R.aload_n dX8_isWord_0 rfl (by first | rfl | exact rfv_rf _) ?_
      refine R.getI dX8_isWord_1 fl_X8_48 (by decide) rfl ?_
      rw [h.hk]
      refine R.iconst (v := 2) dX8_isWord_4 rfl ?_
      refine R.icmp_ne (tgt := 24) dX8_isWord_5 (by decide) (fun c => absurd hk c) (fun _ => ?_)
      refine R.aload_n dX8_isWord_8 rfl (by first | rfl | exact rfv_rf _) ?_
      refine R.getI dX8_isWord_9 fl_X8_38 (by decide) rfl ?_
      rw [h.he]
      refine R.aload_n dX8_isWord_12 rfl (by first | rfl | exact rfv_rf _) ?_
      refine R.getI dX8_isWord_13 fl_X8_41 (by decide) rfl ?_
      rw [h.hs]
      refine R.isub dX8_isWord_16 ?_
      rw [nI_sub hse]
      refine R.aload_n dX8_isWord_17 rfl (by first | rfl | exact rfv_rf _) ?_
      refine cl_X8_29 hv rfl rfl (by first | exact Nat.le_of_ble_eq_true rfl | simp [rf_cat, Value.category]) dX8_isWord_18 ?_
      refine s_strLen hv ?_
      refine R.icmp_eq (tgt := 26) dX8_isWord_21 (by decide) (fun c => absurd ((nI_inj (by omega) (by omega)).mp c) hln) (fun _ => ?_)
      refine R.iconst (v := 0) dX8_isWord_24 rfl ?_
      refine WP.ret (ov := some (.int _)) dX8_isWord_25 ⟨rfl, _, rfl, by first | rfl | assumption | exact nar_b01 (by assumption)⟩ ?_
      exact hq
  · rw [show isW b s e k v = false by simp [isW, hk]] at hq
    refine R.aload_n dX8_isWord_0 rfl (by first | rfl | exact rfv_rf _) ?_
    refine R.getI dX8_isWord_1 fl_X8_48 (by decide) rfl ?_
    rw [h.hk]
    refine R.iconst (v := 2) dX8_isWord_4 rfl ?_
    refine R.icmp_ne (tgt := 24) dX8_isWord_5 (by decide) (fun _ => ?_) (fun c => absurd c hk)
    refine R.iconst (v := 0) dX8_isWord_24 rfl ?_
    refine WP.ret (ov := some (.int _)) dX8_isWord_25 ⟨rfl, _, rfl, by first | rfl | assumption | exact nar_b01 (by assumption)⟩ ?_
    exact hq
set_option maxHeartbeats 1000000 in
set_option maxRecDepth 4000 in
theorem s_tNum {d : Nat} {b : Nat → Int32} {n s e : Nat} {k c q : Int32} {M : Mem} {Q : Out → Mem → Prop} (h : Tx M b n (s, e, k, c, q)) (hse : s ≤ e) (hq : Q (.inl (some (.int (nuF b s e)))) M) : WPc (d + 1) mX8_number [.ref (rf 7 0)] M Q := by
  refine WPc.of (by decide +kernel) (Nat.le_of_ble_eq_true rfl) rfl ?_
  have hn6 := h.hn
  have hen := h.hen
  have key : ∀ (f i : Nat) (a : Int32), i + f = e → Q (.inl (some (.int (nuG b f i a)))) M → WP mX8_number (d + 1) 7 [.ref (rf 7 0), .int a, .int (nI i)] [] M Q := by
    intro f
    induction f with
    | zero =>
      intro i a hik hq2
      have e9 : i = e := by omega
      subst e9
      refine R.iload_n dX8_number_7 rfl ?_
      refine R.aload_n dX8_number_8 rfl (by first | rfl | exact rfv_rf _) ?_
      refine R.getI dX8_number_9 fl_X8_38 (by decide) rfl ?_
      rw [h.he]
      refine R.geT (tgt := 35) (Int32.le_refl _) dX8_number_12 (by decide) ?_
      refine R.iload_n dX8_number_35 rfl ?_
      refine WP.ret (ov := some (.int _)) dX8_number_36 ⟨rfl, _, rfl, by first | rfl | assumption | exact nar_b01 (by assumption)⟩ ?_
      exact hq2
    | succ f ih =>
      intro i a hik hq
      refine R.iload_n dX8_number_7 rfl ?_
      refine R.aload_n dX8_number_8 rfl (by first | rfl | exact rfv_rf _) ?_
      refine R.getI dX8_number_9 fl_X8_38 (by decide) rfl ?_
      rw [h.he]
      refine R.geF (tgt := 35) (nI_ge (show i < e by omega) (by omega)) dX8_number_12 (by decide) ?_
      refine R.iload_n dX8_number_15 rfl ?_
      refine R.bipush (v := 10) dX8_number_16 (by decide) ?_
      refine R.imul dX8_number_18 ?_
      refine R.aload_n dX8_number_19 rfl (by first | rfl | exact rfv_rf _) ?_
      refine R.iload_n dX8_number_20 rfl ?_
      refine cl_X8_54 rfl rfl (by first | exact Nat.le_of_ble_eq_true rfl | simp [rf_cat, Value.category]) dX8_number_21 ?_
      refine s_tByte h (by omega) ?_
      refine R.iadd dX8_number_24 ?_
      refine R.bipush (v := 48) dX8_number_25 (by decide) ?_
      refine R.isub dX8_number_27 ?_
      refine R.istore_n dX8_number_28 (Nat.le_of_ble_eq_true rfl) (by decide) (by first | rfl | simp [lft, rf_cat]) rfl ?_
      refine R.iinc dX8_number_29 (Nat.le_of_ble_eq_true rfl) (by decide) (by first | rfl | simp [lft, rf_cat]) rfl (inc_nI _) rfl ?_
      refine R.goto (tgt := 7) dX8_number_32 (by decide) ?_
      exact ih (i + 1) _ (by omega) hq
  refine R.iconst (v := 0) dX8_number_0 rfl ?_
  refine R.istore_n dX8_number_1 (Nat.le_of_ble_eq_true rfl) (by decide) (by first | rfl | simp [lft, rf_cat]) rfl ?_
  refine R.aload_n dX8_number_2 rfl (by first | rfl | exact rfv_rf _) ?_
  refine R.getI dX8_number_3 fl_X8_41 (by decide) rfl ?_
  rw [h.hs]
  refine R.istore_n dX8_number_6 (Nat.le_of_ble_eq_true rfl) (by decide) (by first | rfl | simp [lft, rf_cat]) rfl ?_
  exact key (e - s) s 0 (by omega) hq
theorem pr_lt (s : Nat) (h : s < 2 ^ 31) : nI s - 1 < nI s := by
  cases s with
  | zero => decide
  | succ s => rw [nI_pred]; exact nI_lt (Nat.lt_succ_self s) h
theorem pr_nlt {s i : Nat} (h : s < i) (hi : i < 2 ^ 31) : ¬ nI i - 1 < nI s := by
  rw [tI_pred (by omega)]
  exact nI_nlt (by omega) (by omega)
theorem pr_dec (x : Int32) : x + Int32.ofInt (-1) = x - 1 := (Int32.sub_eq_add_neg x 1).symm
set_option maxHeartbeats 1000000 in
set_option maxRecDepth 4000 in
theorem s_tName {d : Nat} {b : Nat → Int32} {n s e : Nat} {k c q : Int32} {M : Mem} {Q : Out → Mem → Prop} (h : Tx M b n (s, e, k, c, q)) (hse : s ≤ e) (hq : Q (.inl (some (.int (nmF b s e)))) M) : WPc (d + 1) mX8_name [.ref (rf 7 0)] M Q := by
  refine WPc.of (by decide +kernel) (Nat.le_of_ble_eq_true rfl) rfl ?_
  have hn6 := h.hn
  have hen := h.hen
  have key : ∀ (f i : Nat) (a : Int32), s + f = i → i ≤ e → Q (.inl (some (.int (nmG b f i a)))) M → WP mX8_name (d + 1) 9 [.ref (rf 7 0), .int a, .int (nI i - 1)] [] M Q := by
    intro f
    induction f with
    | zero =>
      intro i a hik hie hq2
      have e9 : i = s := by omega
      subst e9
      refine R.iload_n dX8_name_9 rfl ?_
      refine R.aload_n dX8_name_10 rfl (by first | rfl | exact rfv_rf _) ?_
      refine R.getI dX8_name_11 fl_X8_41 (by decide) rfl ?_
      rw [h.hs]
      refine R.icmp_lt (tgt := 38) dX8_name_14 (by decide) (fun _ => ?_) (fun c => absurd (pr_lt _ (by omega)) c)
      refine R.iload_n dX8_name_38 rfl ?_
      refine WP.ret (ov := some (.int _)) dX8_name_39 ⟨rfl, _, rfl, by first | rfl | assumption | exact nar_b01 (by assumption)⟩ ?_
      exact hq2
    | succ f ih =>
      intro i a hik hie hq
      refine R.iload_n dX8_name_9 rfl ?_
      refine R.aload_n dX8_name_10 rfl (by first | rfl | exact rfv_rf _) ?_
      refine R.getI dX8_name_11 fl_X8_41 (by decide) rfl ?_
      rw [h.hs]
      refine R.icmp_lt (tgt := 38) dX8_name_14 (by decide) (fun c => absurd c (pr_nlt (by omega) (by omega))) (fun _ => ?_)
      refine R.iload_n dX8_name_17 rfl ?_
      refine R.iconst (v := 5) dX8_name_18 rfl ?_
      refine R.ishl dX8_name_19 ?_
      refine R.aload_n dX8_name_20 rfl (by first | rfl | exact rfv_rf _) ?_
      refine R.iload_n dX8_name_21 rfl ?_
      rw [tI_pred (show 0 < i by omega)]
      refine cl_X8_54 rfl rfl (by first | exact Nat.le_of_ble_eq_true rfl | simp [rf_cat, Value.category]) dX8_name_22 ?_
      refine s_tByte h (by omega) ?_
      refine R.iadd dX8_name_25 ?_
      refine R.bipush (v := 97) dX8_name_26 (by decide) ?_
      refine R.isub dX8_name_28 ?_
      refine R.iconst (v := 1) dX8_name_29 rfl ?_
      refine R.iadd dX8_name_30 ?_
      refine R.istore_n dX8_name_31 (Nat.le_of_ble_eq_true rfl) (by decide) (by first | rfl | simp [lft, rf_cat]) rfl ?_
      refine R.iinc (x := nI (i - 1)) (v := nI (i - 1) - 1) dX8_name_32 (Nat.le_of_ble_eq_true rfl) (by decide) (by first | rfl | simp [lft, rf_cat]) rfl (pr_dec _) rfl ?_
      refine R.goto (tgt := 9) dX8_name_35 (by decide) ?_
      exact ih (i - 1) _ (by omega) (by omega) hq
  refine R.iconst (v := 0) dX8_name_0 rfl ?_
  refine R.istore_n dX8_name_1 (Nat.le_of_ble_eq_true rfl) (by decide) (by first | rfl | simp [lft, rf_cat]) rfl ?_
  refine R.aload_n dX8_name_2 rfl (by first | rfl | exact rfv_rf _) ?_
  refine R.getI dX8_name_3 fl_X8_38 (by decide) rfl ?_
  rw [h.he]
  refine R.iconst (v := 1) dX8_name_6 rfl ?_
  refine R.isub dX8_name_7 ?_
  refine R.istore_n dX8_name_8 (Nat.le_of_ble_eq_true rfl) (by decide) (by first | rfl | simp [lft, rf_cat]) rfl ?_
  exact key (e - s) e 0 (by omega) (Nat.le_refl _) hq
def scC (k : Int32) : Int32 := if k = 4 then 0 else 1
set_option maxHeartbeats 1000000 in
set_option maxRecDepth 4000 in
theorem s_tReq {d : Nat} {b : Nat → Int32} {n s e : Nat} {k c q : Int32} {M : Mem} {Q : Out → Mem → Prop} (h : Tx M b n (s, e, k, c, q)) (hq : ∀ M', Tx M' b n (erA (scC k) ((s, e, k, c, q))) → Fr inT M M' → Q (.inl (some (.int (erR (scC k))))) M') : WPc (d + 1) mX8_requireSemicolon [.ref (rf 7 0)] M Q := by
  refine WPc.of (by decide +kernel) (Nat.le_of_ble_eq_true rfl) rfl ?_
  refine R.aload_n dX8_requireSemicolon_0 rfl (by first | rfl | exact rfv_rf _) ?_
  refine R.getI dX8_requireSemicolon_1 fl_X8_48 (by decide) rfl ?_
  rw [h.hk]
  refine R.iconst (v := 4) dX8_requireSemicolon_4 rfl ?_
  refine R.icmp_eq (tgt := 16) dX8_requireSemicolon_5 (by decide) (fun c5 => ?_) (fun c5 => ?_)
  · refine R.iconst (v := 1) dX8_requireSemicolon_16 rfl ?_
    refine R.goto (tgt := 21) dX8_requireSemicolon_17 (by decide) ?_
    refine WP.ret (ov := some (.int _)) dX8_requireSemicolon_21 ⟨rfl, _, rfl, by first | rfl | assumption | exact nar_b01 (by assumption)⟩ ?_
    have hcd : scC k = 0 := if_pos c5
    rw [hcd] at hq
    exact hq _ h (Fr.rf _ _)
  · refine R.aload_n dX8_requireSemicolon_8 rfl (by first | rfl | exact rfv_rf _) ?_
    refine R.iconst (v := 1) dX8_requireSemicolon_9 rfl ?_
    refine cl_X8_61 rfl rfl (by first | exact Nat.le_of_ble_eq_true rfl | simp [rf_cat, Value.category]) dX8_requireSemicolon_10 ?_
    refine s_tFail h (fun M1 h1 F1 => ?_)
    refine R.if_eq (tgt := 20) dX8_requireSemicolon_13 (by decide) (fun _ => ?_) (fun c => absurd rfl c)
    refine R.iconst (v := 0) dX8_requireSemicolon_20 rfl ?_
    refine WP.ret (ov := some (.int _)) dX8_requireSemicolon_21 ⟨rfl, _, rfl, by first | rfl | assumption | exact nar_b01 (by assumption)⟩ ?_
    have hcd : scC k = 1 := if_neg c5
    rw [hcd] at hq
    exact hq _ h1 F1
theorem erR_b (cd : Int32) : erR cd = 0 ∨ erR cd = 1 := by
  unfold erR
  split
  · exact Or.inr rfl
  · exact Or.inl rfl
set_option maxHeartbeats 1000000 in
set_option maxRecDepth 4000 in
theorem s_tSemi {d : Nat} {b : Nat → Int32} {n s e : Nat} {k c q : Int32} {M : Mem} {Q : Out → Mem → Prop} (h : Tx M b n (s, e, k, c, q)) (hq : ∀ M', Tx M' b n (erA (scC (tK b n e)) (avA b n e c q)) → Fr inT M M' → Q (.inl (some (.int (erR (scC (tK b n e)))))) M') : WPc (d + 2) mX8_nextSemicolon [.ref (rf 7 0)] M Q := by
  refine WPc.of (by decide +kernel) (Nat.le_of_ble_eq_true rfl) rfl ?_
  refine R.aload_n dX8_nextSemicolon_0 rfl (by first | rfl | exact rfv_rf _) ?_
  refine cl_X8_51 rfl rfl (by first | exact Nat.le_of_ble_eq_true rfl | simp [rf_cat, Value.category]) dX8_nextSemicolon_1 ?_
  refine s_tAdv h (fun M1 h1 F1 => ?_)
  refine R.aload_n dX8_nextSemicolon_4 rfl (by first | rfl | exact rfv_rf _) ?_
  refine cl_X8_89 rfl rfl (by first | exact Nat.le_of_ble_eq_true rfl | simp [rf_cat, Value.category]) dX8_nextSemicolon_5 ?_
  refine s_tReq h1 (fun M2 h2 F2 => ?_)
  refine WP.ret (ov := some (.int _)) dX8_nextSemicolon_8 ⟨rfl, _, rfl, by first | rfl | assumption | exact nar_b01 (erR_b _)⟩ ?_
  exact hq _ h2 (F1.tr F2)
set_option maxHeartbeats 1000000 in
set_option maxRecDepth 4000 in
theorem s_tHas {d : Nat} {b : Nat → Int32} {n s e : Nat} {k c q : Int32} {M : Mem} {Q : Out → Mem → Prop} (h : Tx M b n (s, e, k, c, q)) (hq : ∀ M', Tx M' b n (avA b n e c q) → Fr inT M M' → Q (.inl (some (.int (if tK b n e = 0 then 0 else 1)))) M') : WPc (d + 2) mX8_hasNext [.ref (rf 7 0)] M Q := by
  refine WPc.of (by decide +kernel) (Nat.le_of_ble_eq_true rfl) rfl ?_
  refine R.aload_n dX8_hasNext_0 rfl (by first | rfl | exact rfv_rf _) ?_
  refine cl_X8_51 rfl rfl (by first | exact Nat.le_of_ble_eq_true rfl | simp [rf_cat, Value.category]) dX8_hasNext_1 ?_
  refine s_tAdv h (fun M1 h1 F1 => ?_)
  refine R.aload_n dX8_hasNext_4 rfl (by first | rfl | exact rfv_rf _) ?_
  refine R.getI dX8_hasNext_5 fl_X8_48 (by decide) rfl ?_
  rw [h1.hk]
  refine R.if_eq (tgt := 15) dX8_hasNext_8 (by decide) (fun c8 => ?_) (fun c8 => ?_)
  · refine R.iconst (v := 0) dX8_hasNext_15 rfl ?_
    refine WP.ret (ov := some (.int _)) dX8_hasNext_16 ⟨rfl, _, rfl, by first | rfl | assumption | exact nar_b01 (by assumption)⟩ ?_
    have h9 := hq _ h1 F1
    rw [if_pos c8] at h9
    exact h9
  · refine R.iconst (v := 1) dX8_hasNext_11 rfl ?_
    refine R.goto (tgt := 16) dX8_hasNext_12 (by decide) ?_
    refine WP.ret (ov := some (.int _)) dX8_hasNext_16 ⟨rfl, _, rfl, by first | rfl | assumption | exact nar_b01 (by assumption)⟩ ?_
    have h9 := hq _ h1 F1
    rw [if_neg c8] at h9
    exact h9
def nwC (b : Nat → Int32) (n e v : Nat) : Int32 := if isW b (tS b n e) (tE b n e) (tK b n e) v = true then 0 else 1
def nnC (b : Nat → Int32) (n e : Nat) : Int32 := if tK b n e = 2 ∧ tE b n e - tS b n e ≤ 6 then 0 else 1
set_option maxHeartbeats 1000000 in
set_option maxRecDepth 4000 in
theorem s_tNextN {d : Nat} {b : Nat → Int32} {n s e : Nat} {k c q : Int32} {M : Mem} {Q : Out → Mem → Prop} (h : Tx M b n (s, e, k, c, q)) (hq : ∀ M', Tx M' b n (erA (nnC b n e) (avA b n e c q)) → Fr inT M M' → Q (.inl (some (.int (erR (nnC b n e))))) M') : WPc (d + 2) mX8_nextName [.ref (rf 7 0)] M Q := by
  refine WPc.of (by decide +kernel) (Nat.le_of_ble_eq_true rfl) rfl ?_
  have hn6 := h.hn
  have hE9 := tE_le (b := b) h.hen
  refine R.aload_n dX8_nextName_0 rfl (by first | rfl | exact rfv_rf _) ?_
  refine cl_X8_51 rfl rfl (by first | exact Nat.le_of_ble_eq_true rfl | simp [rf_cat, Value.category]) dX8_nextName_1 ?_
  refine s_tAdv h (fun M1 h1 F1 => ?_)
  refine R.aload_n dX8_nextName_4 rfl (by first | rfl | exact rfv_rf _) ?_
  refine R.getI dX8_nextName_5 fl_X8_48 (by decide) rfl ?_
  rw [h1.hk]
  refine R.iconst (v := 2) dX8_nextName_8 rfl ?_
  refine R.icmp_ne (tgt := 26) dX8_nextName_9 (by decide) (fun c9 => ?_) (fun c9 => ?_)
  · refine R.aload_n dX8_nextName_26 rfl (by first | rfl | exact rfv_rf _) ?_
    refine R.iconst (v := 1) dX8_nextName_27 rfl ?_
    refine cl_X8_61 rfl rfl (by first | exact Nat.le_of_ble_eq_true rfl | simp [rf_cat, Value.category]) dX8_nextName_28 ?_
    refine s_tFail h1 (fun M2 h2 F2 => ?_)
    refine R.if_eq (tgt := 38) dX8_nextName_31 (by decide) (fun _ => ?_) (fun c => absurd rfl c)
    refine R.iconst (v := 0) dX8_nextName_38 rfl ?_
    refine WP.ret (ov := some (.int _)) dX8_nextName_39 ⟨rfl, _, rfl, by first | rfl | assumption | exact nar_b01 (by assumption)⟩ ?_
    have hcd : nnC b n e = 1 := if_neg (fun z => c9 z.1)
    rw [hcd] at hq
    exact hq _ h2 (F1.tr F2)
  · refine R.aload_n dX8_nextName_12 rfl (by first | rfl | exact rfv_rf _) ?_
    refine R.getI dX8_nextName_13 fl_X8_38 (by decide) rfl ?_
    rw [h1.he]
    refine R.aload_n dX8_nextName_16 rfl (by first | rfl | exact rfv_rf _) ?_
    refine R.getI dX8_nextName_17 fl_X8_41 (by decide) rfl ?_
    rw [h1.hs]
    refine R.isub dX8_nextName_20 ?_
    rw [nI_sub tS_tE]
    refine R.bipush (v := 6) dX8_nextName_21 (by decide) ?_
    refine R.icmp_le (tgt := 34) dX8_nextName_23 (by decide) (fun c23 => ?_) (fun c23 => ?_)
    · have n23 := i_nl2 c23
      refine R.iconst (v := 1) dX8_nextName_34 rfl ?_
      refine R.goto (tgt := 39) dX8_nextName_35 (by decide) ?_
      refine WP.ret (ov := some (.int _)) dX8_nextName_39 ⟨rfl, _, rfl, by first | rfl | assumption | exact nar_b01 (by assumption)⟩ ?_
      have hcd : nnC b n e = 0 := if_pos ⟨c9, Decidable.byContradiction (fun z => absurd c23 (nI_ge (a := 6) (by omega) (by omega)))⟩
      rw [hcd] at hq
      exact hq _ h1 F1
    · have n23 := i_lt c23
      refine R.aload_n dX8_nextName_26 rfl (by first | rfl | exact rfv_rf _) ?_
      refine R.iconst (v := 1) dX8_nextName_27 rfl ?_
      refine cl_X8_61 rfl rfl (by first | exact Nat.le_of_ble_eq_true rfl | simp [rf_cat, Value.category]) dX8_nextName_28 ?_
      refine s_tFail h1 (fun M2 h2 F2 => ?_)
      refine R.if_eq (tgt := 38) dX8_nextName_31 (by decide) (fun _ => ?_) (fun c => absurd rfl c)
      refine R.iconst (v := 0) dX8_nextName_38 rfl ?_
      refine WP.ret (ov := some (.int _)) dX8_nextName_39 ⟨rfl, _, rfl, by first | rfl | assumption | exact nar_b01 (by assumption)⟩ ?_
      have hcd : nnC b n e = 1 := if_neg (fun z => c23 (nI_le (b := 6) z.2 (by decide)))
      rw [hcd] at hq
      exact hq _ h2 (F1.tr F2)
def nbV (b : Nat → Int32) (n e : Nat) : Int32 := nuF b (tS b n e) (tE b n e)
def nbC (b : Nat → Int32) (n e : Nat) (lo hi : Int32) : Int32 := if tK b n e = 3 then (if lo ≤ nbV b n e ∧ nbV b n e ≤ hi then 0 else 2) else 1
set_option maxHeartbeats 1000000 in
set_option maxRecDepth 4000 in
theorem s_tNextI {d : Nat} {b : Nat → Int32} {n s e : Nat} {k c q : Int32} {lo hi : Int32} {M : Mem} {Q : Out → Mem → Prop} (h : Tx M b n (s, e, k, c, q)) (hq : ∀ M', Tx M' b n (erA (nbC b n e lo hi) (avA b n e c q)) → Fr inT M M' → Q (.inl (some (.int (erR (nbC b n e lo hi))))) M') : WPc (d + 2) mX8_nextNumber [.ref (rf 7 0), .int lo, .int hi] M Q := by
  refine WPc.of (by decide +kernel) (Nat.le_of_ble_eq_true rfl) rfl ?_
  refine R.aload_n dX8_nextNumber_0 rfl (by first | rfl | exact rfv_rf _) ?_
  refine cl_X8_51 rfl rfl (by first | exact Nat.le_of_ble_eq_true rfl | simp [rf_cat, Value.category]) dX8_nextNumber_1 ?_
  refine s_tAdv h (fun M1 h1 F1 => ?_)
  refine R.aload_n dX8_nextNumber_4 rfl (by first | rfl | exact rfv_rf _) ?_
  refine R.getI dX8_nextNumber_5 fl_X8_48 (by decide) rfl ?_
  rw [h1.hk]
  refine R.iconst (v := 3) dX8_nextNumber_8 rfl ?_
  refine R.icmp_eq (tgt := 18) dX8_nextNumber_9 (by decide) (fun c9 => ?_) (fun c9 => ?_)
  · refine R.aload_n dX8_nextNumber_18 rfl (by first | rfl | exact rfv_rf _) ?_
    refine cl_X8_86 rfl rfl (by first | exact Nat.le_of_ble_eq_true rfl | simp [rf_cat, Value.category]) dX8_nextNumber_19 ?_
    refine s_tNum h1 tS_tE ?_
    refine R.iload_n dX8_nextNumber_22 rfl ?_
    refine R.icmp_lt (tgt := 34) dX8_nextNumber_23 (by decide) (fun c23 => ?_) (fun c23 => ?_)
    · have n23 := i_nle c23
      refine R.aload_n dX8_nextNumber_34 rfl (by first | rfl | exact rfv_rf _) ?_
      refine R.iconst (v := 2) dX8_nextNumber_35 rfl ?_
      refine cl_X8_61 rfl rfl (by first | exact Nat.le_of_ble_eq_true rfl | simp [rf_cat, Value.category]) dX8_nextNumber_36 ?_
      refine s_tFail h1 (fun M2 h2 F2 => ?_)
      refine R.if_eq (tgt := 46) dX8_nextNumber_39 (by decide) (fun _ => ?_) (fun c => absurd rfl c)
      refine R.iconst (v := 0) dX8_nextNumber_46 rfl ?_
      refine WP.ret (ov := some (.int _)) dX8_nextNumber_47 ⟨rfl, _, rfl, by first | rfl | assumption | exact nar_b01 (by assumption)⟩ ?_
      have hcd : nbC b n e lo hi = 2 := by unfold nbC; rw [if_pos c9, if_neg (fun z => n23 z.1)]
      rw [hcd] at hq
      exact hq _ h2 (F1.tr F2)
    · have n23 := i_nlt c23
      refine R.aload_n dX8_nextNumber_26 rfl (by first | rfl | exact rfv_rf _) ?_
      refine cl_X8_86 rfl rfl (by first | exact Nat.le_of_ble_eq_true rfl | simp [rf_cat, Value.category]) dX8_nextNumber_27 ?_
      refine s_tNum h1 tS_tE ?_
      refine R.iload_n dX8_nextNumber_30 rfl ?_
      refine R.icmp_le (tgt := 42) dX8_nextNumber_31 (by decide) (fun c31 => ?_) (fun c31 => ?_)
      · have n31 := i_nl2 c31
        refine R.iconst (v := 1) dX8_nextNumber_42 rfl ?_
        refine R.goto (tgt := 47) dX8_nextNumber_43 (by decide) ?_
        refine WP.ret (ov := some (.int _)) dX8_nextNumber_47 ⟨rfl, _, rfl, by first | rfl | assumption | exact nar_b01 (by assumption)⟩ ?_
        have hcd : nbC b n e lo hi = 0 := by unfold nbC; rw [if_pos c9, if_pos ⟨i_nlt c23, c31⟩]
        rw [hcd] at hq
        exact hq _ h1 F1
      · have n31 := i_lt c31
        refine R.aload_n dX8_nextNumber_34 rfl (by first | rfl | exact rfv_rf _) ?_
        refine R.iconst (v := 2) dX8_nextNumber_35 rfl ?_
        refine cl_X8_61 rfl rfl (by first | exact Nat.le_of_ble_eq_true rfl | simp [rf_cat, Value.category]) dX8_nextNumber_36 ?_
        refine s_tFail h1 (fun M2 h2 F2 => ?_)
        refine R.if_eq (tgt := 46) dX8_nextNumber_39 (by decide) (fun _ => ?_) (fun c => absurd rfl c)
        refine R.iconst (v := 0) dX8_nextNumber_46 rfl ?_
        refine WP.ret (ov := some (.int _)) dX8_nextNumber_47 ⟨rfl, _, rfl, by first | rfl | assumption | exact nar_b01 (by assumption)⟩ ?_
        have hcd : nbC b n e lo hi = 2 := by unfold nbC; rw [if_pos c9, if_neg (fun z => c31 z.2)]
        rw [hcd] at hq
        exact hq _ h2 (F1.tr F2)
  · refine R.aload_n dX8_nextNumber_12 rfl (by first | rfl | exact rfv_rf _) ?_
    refine R.iconst (v := 1) dX8_nextNumber_13 rfl ?_
    refine cl_X8_61 rfl rfl (by first | exact Nat.le_of_ble_eq_true rfl | simp [rf_cat, Value.category]) dX8_nextNumber_14 ?_
    refine s_tFail h1 (fun M2 h2 F2 => ?_)
    refine WP.ret (ov := some (.int _)) dX8_nextNumber_17 ⟨rfl, _, rfl, by first | rfl | assumption | exact nar_b01 (by assumption)⟩ ?_
    have hcd : nbC b n e lo hi = 1 := if_neg c9
    rw [hcd] at hq
    exact hq _ h2 (F1.tr F2)
theorem Tz.app {M : Mem} {b : Nat → Int32} {n : Nat} {c q v : Int32} (h : Tz M b n c q) (hn : n < 600) : Tz (sI (sI M 13 0 n v) 7 0 1 (nI n + 1)) (upB b n v) (n + 1) c q := by
  obtain ⟨a1, a2, a3, a4, a5, a6, a8, a9⟩ := h
  refine ⟨a1, a2, fun i hi => ?_, ?_, by omega, a6, a8, a9⟩
  · rw [mI_sI, if_neg (by omega), mI_sI]
    unfold upB
    by_cases z : i = n
    · rw [if_pos ⟨rfl, rfl, z⟩, if_pos z]
    · rw [if_neg (fun w => z w.2.2), if_neg z]; exact a3 i hi
  · rw [mI_sI, if_pos ⟨rfl, rfl, rfl⟩]; exact (nI_succ n).symm
set_option maxHeartbeats 1000000 in
set_option maxRecDepth 4000 in
theorem s_tApp {d : Nat} {b : Nat → Int32} {n : Nat} {c q : Int32} {x : Int32} {M : Mem} {Q : Out → Mem → Prop} (h : Tz M b n c q) (hn : n < 600) (hq : ∀ M', Tz M' (upB b n (bt x)) (n + 1) c q → Fr inT M M' → Q (.inl none) M') : WPc d mX8_append [.ref (rf 7 0), .int x] M Q := by
  refine WPc.of (by decide +kernel) (Nat.le_of_ble_eq_true rfl) rfl ?_
  refine R.aload_n dX8_append_0 rfl (by first | rfl | exact rfv_rf _) ?_
  refine R.getI dX8_append_1 fl_X8_22 (by decide) rfl ?_
  rw [h.hl]
  refine R.if_lt (tgt := 40) dX8_append_4 (by decide) (fun c => absurd c (nI_pos (by omega))) (fun _ => ?_)
  refine R.aload_n dX8_append_7 rfl (by first | rfl | exact rfv_rf _) ?_
  refine R.getI dX8_append_8 fl_X8_22 (by decide) rfl ?_
  rw [h.hl]
  refine R.aload_n dX8_append_11 rfl (by first | rfl | exact rfv_rf _) ?_
  refine R.getS (h.hy) dX8_append_12 fl_X8_9 (by decide) rfl ?_
  refine R.alenS (h.hN) (by decide) (by decide) dX8_append_15 ?_
  refine R.geF (tgt := 40) (nI_ge (b := 600) hn (by decide)) dX8_append_16 (by decide) ?_
  refine R.aload_n dX8_append_19 rfl (by first | rfl | exact rfv_rf _) ?_
  refine R.getS (h.hy) dX8_append_20 fl_X8_9 (by decide) rfl ?_
  refine R.aload_n dX8_append_23 rfl (by first | rfl | exact rfv_rf _) ?_
  refine R.getI dX8_append_24 fl_X8_22 (by decide) rfl ?_
  rw [h.hl]
  refine R.iload_n dX8_append_27 rfl ?_
  refine R.i2b dX8_append_28 ?_
  refine R.bast dX8_append_29 (nI_pos (by omega)) (by rw [nI_clamp (by omega), h.hN]; exact hn) ?_
  rw [nI_clamp (by omega)]
  refine R.aload_n dX8_append_30 rfl (by first | rfl | exact rfv_rf _) ?_
  refine R.dup dX8_append_31 (by first | rfl | exact rf_cat _) ?_
  refine R.getI dX8_append_32 fl_X8_22 (by decide) rfl ?_
  rw [show mI (sI M 13 0 n (vp_nar .byte x.toInt8.toInt32)) 7 0 1 = nI n from h.hl]
  refine R.iconst (v := 1) dX8_append_35 rfl ?_
  refine R.iadd dX8_append_36 ?_
  refine R.putI dX8_append_37 fl_X8_22 (fun q hq => by cases hq; exact Or.inl rfl) (by decide) rfl rfl rfl ?_
  refine WP.ret (ov := none) dX8_append_40 ⟨rfl, rfl⟩ ?_
  exact hq _ (h.app hn) (Fr.sI (Fr.sI (Fr.rf _ _) inT_B) inT_F)
def ap4 (b : Nat → Int32) (n : Nat) (x : Int32) : Nat → Int32 := upB (upB (upB (upB b n (bt (x >>> ((24 : Int32) &&& 31)))) (n + 1) (bt (x >>> ((16 : Int32) &&& 31)))) (n + 2) (bt (x >>> ((8 : Int32) &&& 31)))) (n + 3) (bt x)
def apS (v : Nat) : Nat → Nat → (Nat → Int32) → Nat → (Nat → Int32)
  | 0, _, b, _ => b
  | f + 1, i, b, n => apS v f (i + 1) (upB b n (bt (sB v i))) (n + 1)
set_option maxHeartbeats 1000000 in
set_option maxRecDepth 4000 in
theorem s_tAppI {d : Nat} {b : Nat → Int32} {n : Nat} {c q : Int32} {x : Int32} {M : Mem} {Q : Out → Mem → Prop} (h : Tz M b n c q) (hn : n + 4 ≤ 600) (hq : ∀ M', Tz M' (ap4 b n x) (n + 4) c q → Fr inT M M' → Q (.inl none) M') : WPc (d + 1) mX8_appendInt [.ref (rf 7 0), .int x] M Q := by
  refine WPc.of (by decide +kernel) (Nat.le_of_ble_eq_true rfl) rfl ?_
  refine R.aload_n dX8_appendInt_0 rfl (by first | rfl | exact rfv_rf _) ?_
  refine R.iload_n dX8_appendInt_1 rfl ?_
  refine R.bipush (v := 24) dX8_appendInt_2 (by decide) ?_
  refine R.ishr dX8_appendInt_4 ?_
  refine cl_X8_25 rfl rfl (by first | exact Nat.le_of_ble_eq_true rfl | simp [rf_cat, Value.category]) dX8_appendInt_5 ?_
  refine s_tApp h (by omega) (fun M1 h1 F1 => ?_)
  refine R.aload_n dX8_appendInt_8 rfl (by first | rfl | exact rfv_rf _) ?_
  refine R.iload_n dX8_appendInt_9 rfl ?_
  refine R.bipush (v := 16) dX8_appendInt_10 (by decide) ?_
  refine R.ishr dX8_appendInt_12 ?_
  refine cl_X8_25 rfl rfl (by first | exact Nat.le_of_ble_eq_true rfl | simp [rf_cat, Value.category]) dX8_appendInt_13 ?_
  refine s_tApp h1 (by omega) (fun M2 h2 F2 => ?_)
  refine R.aload_n dX8_appendInt_16 rfl (by first | rfl | exact rfv_rf _) ?_
  refine R.iload_n dX8_appendInt_17 rfl ?_
  refine R.bipush (v := 8) dX8_appendInt_18 (by decide) ?_
  refine R.ishr dX8_appendInt_20 ?_
  refine cl_X8_25 rfl rfl (by first | exact Nat.le_of_ble_eq_true rfl | simp [rf_cat, Value.category]) dX8_appendInt_21 ?_
  refine s_tApp h2 (by omega) (fun M3 h3 F3 => ?_)
  refine R.aload_n dX8_appendInt_24 rfl (by first | rfl | exact rfv_rf _) ?_
  refine R.iload_n dX8_appendInt_25 rfl ?_
  refine cl_X8_25 rfl rfl (by first | exact Nat.le_of_ble_eq_true rfl | simp [rf_cat, Value.category]) dX8_appendInt_26 ?_
  refine s_tApp h3 (by omega) (fun M4 h4 F4 => ?_)
  refine WP.ret (ov := none) dX8_appendInt_29 ⟨rfl, rfl⟩ ?_
  exact hq _ h4 (((F1.tr F2).tr F3).tr F4)
set_option maxHeartbeats 1000000 in
set_option maxRecDepth 4000 in
theorem s_tAppS {d : Nat} {b : Nat → Int32} {n : Nat} {c q : Int32} {v : Nat} {M : Mem} {Q : Out → Mem → Prop} (h : Tz M b n c q) (hv : v < 23) (hn : n + sLn v ≤ 600) (hq : ∀ M', Tz M' (apS v (sLn v) 0 b n) (n + sLn v) c q → Fr inT M M' → Q (.inl none) M') : WPc (d + 4) mX8_appendText [.ref (rf 7 0), .ref (rf 21 v)] M Q := by
  refine WPc.of (by decide +kernel) (Nat.le_of_ble_eq_true rfl) rfl ?_
  have hv9 := sLn_lt v hv
  have key : ∀ (f i : Nat) (M1 : Mem) (b1 : Nat → Int32) (n1 : Nat), i + f = sLn v → Tz M1 b1 n1 c q → Fr inT M M1 → n1 + f ≤ 600 → (∀ M', Tz M' (apS v f i b1 n1) (n1 + f) c q → Fr inT M M' → Q (.inl none) M') → WP mX8_appendText (d + 4) 2 [.ref (rf 7 0), .ref (rf 21 v), .int (nI i)] [] M1 Q := by
    intro f
    induction f with
    | zero =>
      intro i M1 b1 n1 hik h hF hn1 hq
      have e9 : i = sLn v := by omega
      subst e9
      refine R.iload_n dX8_appendText_2 rfl ?_
      refine R.aload_n dX8_appendText_3 rfl (by first | rfl | exact rfv_rf _) ?_
      refine cl_X8_29 hv rfl rfl (by first | exact Nat.le_of_ble_eq_true rfl | simp [rf_cat, Value.category]) dX8_appendText_4 ?_
      refine s_strLen hv ?_
      refine R.geT (tgt := 25) (Int32.le_refl _) dX8_appendText_7 (by decide) ?_
      refine WP.ret (ov := none) dX8_appendText_25 ⟨rfl, rfl⟩ ?_
      exact hq _ h hF
    | succ f ih =>
      intro i M1 b1 n1 hik h hF hn1 hq
      have hi : i < sLn v := by omega
      rw [show n1 + (f + 1) = n1 + 1 + f by omega] at hq
      refine R.iload_n dX8_appendText_2 rfl ?_
      refine R.aload_n dX8_appendText_3 rfl (by first | rfl | exact rfv_rf _) ?_
      refine cl_X8_29 hv rfl rfl (by first | exact Nat.le_of_ble_eq_true rfl | simp [rf_cat, Value.category]) dX8_appendText_4 ?_
      refine s_strLen hv ?_
      refine R.geF (tgt := 25) (nI_ge hi (by omega)) dX8_appendText_7 (by decide) ?_
      refine R.aload_n dX8_appendText_10 rfl (by first | rfl | exact rfv_rf _) ?_
      refine R.aload_n dX8_appendText_11 rfl (by first | rfl | exact rfv_rf _) ?_
      refine R.iload_n dX8_appendText_12 rfl ?_
      refine cl_X8_34 hv rfl rfl (by first | exact Nat.le_of_ble_eq_true rfl | simp [rf_cat, Value.category]) dX8_appendText_13 ?_
      refine s_chAt hv hi ?_
      refine cl_X8_25 rfl rfl (by first | exact Nat.le_of_ble_eq_true rfl | simp [rf_cat, Value.category]) dX8_appendText_16 ?_
      refine s_tApp h (by omega) (fun M2 h2 F2 => ?_)
      refine R.iinc dX8_appendText_19 (Nat.le_of_ble_eq_true rfl) (by decide) (by first | rfl | simp [lft, rf_cat]) rfl (inc_nI _) rfl ?_
      refine R.goto (tgt := 2) dX8_appendText_22 (by decide) ?_
      exact ih (i + 1) M2 _ (n1 + 1) (by omega) h2 (hF.tr F2) (by omega) hq
  refine R.iconst (v := 0) dX8_appendText_0 rfl ?_
  refine R.istore_n dX8_appendText_1 (Nat.le_of_ble_eq_true rfl) (by decide) (by first | rfl | simp [lft, rf_cat]) rfl ?_
  exact key (sLn v) 0 M b n (by omega) h (Fr.rf _ _) hn hq
