/-! numbers and crates written out -/
def dgs : Nat → Nat → List Int32
  | 0, _ => []
  | f + 1, v => if v < 10 then [nI (48 + v)] else dgs f (v / 10) ++ [nI (48 + v % 10)]
/-- the decimal digits of a number below 10000 -/
def dgS (v : Nat) : List Int32 := dgs 5 v
theorem dgS_1 {v : Nat} (h : v < 10) : dgS v = [nI (48 + v)] := by
  unfold dgS
  rw [dgs, if_pos h]
theorem dgS_2 {v : Nat} (h1 : ¬ v < 10) (h : v < 100) : dgS v = [nI (48 + v / 10), nI (48 + v % 10)] := by
  unfold dgS
  rw [dgs, if_neg h1, dgs, if_pos (by omega)]
  rfl
theorem dgS_3 {v : Nat} (h1 : ¬ v < 100) (h : v < 1000) : dgS v = [nI (48 + v / 100), nI (48 + v % 100 / 10), nI (48 + v % 100 % 10)] := by
  unfold dgS
  rw [dgs, if_neg (by omega), dgs, if_neg (by omega), dgs, if_pos (by omega)]
  rw [show v / 10 / 10 = v / 100 by omega, show v / 10 % 10 = v % 100 / 10 by omega, show v % 10 = v % 100 % 10 by omega]
  rfl
theorem dgS_4 {v : Nat} (h1 : ¬ v < 1000) (h : v < 10000) : dgS v = [nI (48 + v / 100 / 10), nI (48 + v / 100 % 10), nI (48 + v % 100 / 10), nI (48 + v % 100 % 10)] := by
  unfold dgS
  rw [dgs, if_neg (by omega), dgs, if_neg (by omega), dgs, if_neg (by omega), dgs, if_pos (by omega)]
  rw [show v / 10 / 10 / 10 = v / 100 / 10 by omega, show v / 10 / 10 % 10 = v / 100 % 10 by omega, show v / 10 % 10 = v % 100 / 10 by omega, show v % 10 = v % 100 % 10 by omega]
  rfl
def szF (v : Nat) : Nat := if v < 10 then 1 else if v < 100 then 2 else if v < 1000 then 3 else 4
theorem dgS_len {v : Nat} (h : v < 10000) : (dgS v).length = szF v := by
  unfold szF
  by_cases h1 : v < 10
  · rw [if_pos h1, dgS_1 h1]; rfl
  · rw [if_neg h1]
    by_cases h2 : v < 100
    · rw [if_pos h2, dgS_2 h1 h2]; rfl
    · rw [if_neg h2]
      by_cases h3 : v < 1000
      · rw [if_pos h3, dgS_3 h2 h3]; rfl
      · rw [if_neg h3, dgS_4 h3 h]; rfl
theorem dgO_v : ∀ r, r < 100 → dgO r = nI (48 + r % 10) := by decide +kernel
theorem dgT_v : ∀ r, r < 100 → dgT r = nI (48 + r / 10) := by decide +kernel
def gc2 (M : Mem) (a p w : Nat) : Mem := if w < 10 then sI M 13 a (p - 1) (nI (48 + w)) else sI (sI M 13 a (p - 1) (nI (48 + w % 10))) 13 a (p - 1 - 1) (nI (48 + w / 10))
def gcM (M : Mem) (a p v : Nat) : Mem := if v < 100 then gc2 M a p v else gc2 (sI (sI M 13 a (p - 1) (nI (48 + v % 100 % 10))) 13 a (p - 1 - 1) (nI (48 + v % 100 / 10))) a (p - 1 - 1) (v / 100)
theorem neg_neg32 (x : Int32) : - -x = x := by
  apply Int32.toBitVec_inj.1
  show -(-x.toBitVec) = x.toBitVec
  exact BitVec.neg_neg
set_option maxHeartbeats 1000000 in
set_option maxRecDepth 4000 in
theorem s_strSz {d : Nat} {v : Nat} {M : Mem} {Q : Out → Mem → Prop} (hv : v < 10000) (hq : Q (.inl (some (.int (nI (szF v))))) M) : WPc d mJ6_stringSize_0f7a4 [.int (nI v)] M Q := by
  refine WPc.of (by decide +kernel) (Nat.le_of_ble_eq_true rfl) rfl ?_
  unfold szF at hq
  by_cases h1 : v < 10
  · rw [if_pos h1] at hq
    refine R.iconst (v := 1) dJ6_stringSize_0f7a4_0 rfl ?_
    refine R.istore_n dJ6_stringSize_0f7a4_1 (Nat.le_of_ble_eq_true rfl) (by decide) (by first | rfl | simp [lft, rf_cat]) rfl ?_
    refine R.iload_n dJ6_stringSize_0f7a4_2 rfl ?_
    refine R.if_lt (tgt := 11) dJ6_stringSize_0f7a4_3 (by decide) (fun c => absurd c (nI_pos (by omega))) (fun _ => ?_)
    refine R.iconst (v := 0) dJ6_stringSize_0f7a4_6 rfl ?_
    refine R.istore_n dJ6_stringSize_0f7a4_7 (Nat.le_of_ble_eq_true rfl) (by decide) (by first | rfl | simp [lft, rf_cat]) rfl ?_
    refine R.iload_n dJ6_stringSize_0f7a4_8 rfl ?_
    refine R.ineg dJ6_stringSize_0f7a4_9 ?_
    refine R.istore_n dJ6_stringSize_0f7a4_10 (Nat.le_of_ble_eq_true rfl) (by decide) (by first | rfl | simp [lft, rf_cat]) rfl ?_
    refine R.bipush (v := -nI 10) dJ6_stringSize_0f7a4_11 (by decide) ?_
    refine R.istore_n dJ6_stringSize_0f7a4_13 (Nat.le_of_ble_eq_true rfl) (by decide) (by first | rfl | simp [lft, rf_cat]) rfl ?_
    refine R.iconst (v := 1) dJ6_stringSize_0f7a4_14 rfl ?_
    refine R.istore_n dJ6_stringSize_0f7a4_15 (Nat.le_of_ble_eq_true rfl) (by decide) (by first | rfl | simp [lft, rf_cat]) rfl ?_
    refine R.iload_n dJ6_stringSize_0f7a4_16 rfl ?_
    refine R.bipush (v := nI 10) dJ6_stringSize_0f7a4_17 (by decide) ?_
    refine R.icmp_ge (tgt := 42) dJ6_stringSize_0f7a4_19 (by decide) (fun c => absurd c (by decide)) (fun _ => ?_)
    refine R.iload_n dJ6_stringSize_0f7a4_22 rfl ?_
    refine R.iload_n dJ6_stringSize_0f7a4_23 rfl ?_
    refine R.icmp_le (tgt := 31) dJ6_stringSize_0f7a4_24 (by decide) (fun c => absurd ((sb_nle (a := v) (b := 10) (by omega) (by decide)).mp c) (by omega)) (fun _ => ?_)
    refine R.iload_n dJ6_stringSize_0f7a4_27 rfl ?_
    refine R.iload_n dJ6_stringSize_0f7a4_28 rfl ?_
    refine R.iadd dJ6_stringSize_0f7a4_29 ?_
    refine WP.ret (ov := some (.int _)) dJ6_stringSize_0f7a4_30 ⟨rfl, _, rfl, by first | rfl | assumption | exact nar_b01 (by assumption)⟩ ?_
    exact hq
  · rw [if_neg h1] at hq
    by_cases h2 : v < 100
    · rw [if_pos h2] at hq
      refine R.iconst (v := 1) dJ6_stringSize_0f7a4_0 rfl ?_
      refine R.istore_n dJ6_stringSize_0f7a4_1 (Nat.le_of_ble_eq_true rfl) (by decide) (by first | rfl | simp [lft, rf_cat]) rfl ?_
      refine R.iload_n dJ6_stringSize_0f7a4_2 rfl ?_
      refine R.if_lt (tgt := 11) dJ6_stringSize_0f7a4_3 (by decide) (fun c => absurd c (nI_pos (by omega))) (fun _ => ?_)
      refine R.iconst (v := 0) dJ6_stringSize_0f7a4_6 rfl ?_
      refine R.istore_n dJ6_stringSize_0f7a4_7 (Nat.le_of_ble_eq_true rfl) (by decide) (by first | rfl | simp [lft, rf_cat]) rfl ?_
      refine R.iload_n dJ6_stringSize_0f7a4_8 rfl ?_
      refine R.ineg dJ6_stringSize_0f7a4_9 ?_
      refine R.istore_n dJ6_stringSize_0f7a4_10 (Nat.le_of_ble_eq_true rfl) (by decide) (by first | rfl | simp [lft, rf_cat]) rfl ?_
      refine R.bipush (v := -nI 10) dJ6_stringSize_0f7a4_11 (by decide) ?_
      refine R.istore_n dJ6_stringSize_0f7a4_13 (Nat.le_of_ble_eq_true rfl) (by decide) (by first | rfl | simp [lft, rf_cat]) rfl ?_
      refine R.iconst (v := 1) dJ6_stringSize_0f7a4_14 rfl ?_
      refine R.istore_n dJ6_stringSize_0f7a4_15 (Nat.le_of_ble_eq_true rfl) (by decide) (by first | rfl | simp [lft, rf_cat]) rfl ?_
      refine R.iload_n dJ6_stringSize_0f7a4_16 rfl ?_
      refine R.bipush (v := nI 10) dJ6_stringSize_0f7a4_17 (by decide) ?_
      refine R.icmp_ge (tgt := 42) dJ6_stringSize_0f7a4_19 (by decide) (fun c => absurd c (by decide)) (fun _ => ?_)
      refine R.iload_n dJ6_stringSize_0f7a4_22 rfl ?_
      refine R.iload_n dJ6_stringSize_0f7a4_23 rfl ?_
      refine R.icmp_le (tgt := 31) dJ6_stringSize_0f7a4_24 (by decide) (fun _ => ?_) (fun c => absurd ((sb_nle (a := v) (b := 10) (by omega) (by decide)).mpr (by omega)) c)
      refine R.bipush (v := 10) dJ6_stringSize_0f7a4_31 (by decide) ?_
      refine R.iload_n dJ6_stringSize_0f7a4_33 rfl ?_
      refine R.imul dJ6_stringSize_0f7a4_34 ?_
      rw [show (10 : Int32) * -nI 10 = -nI 100 by decide]
      refine R.istore_n dJ6_stringSize_0f7a4_35 (Nat.le_of_ble_eq_true rfl) (by decide) (by first | rfl | simp [lft, rf_cat]) rfl ?_
      refine R.iinc dJ6_stringSize_0f7a4_36 (Nat.le_of_ble_eq_true rfl) (by decide) (by first | rfl | simp [lft, rf_cat]) rfl (v := 2) (by decide) rfl ?_
      refine R.goto (tgt := 16) dJ6_stringSize_0f7a4_39 (by decide) ?_
      refine R.iload_n dJ6_stringSize_0f7a4_16 rfl ?_
      refine R.bipush (v := nI 10) dJ6_stringSize_0f7a4_17 (by decide) ?_
      refine R.icmp_ge (tgt := 42) dJ6_stringSize_0f7a4_19 (by decide) (fun c => absurd c (by decide)) (fun _ => ?_)
      refine R.iload_n dJ6_stringSize_0f7a4_22 rfl ?_
      refine R.iload_n dJ6_stringSize_0f7a4_23 rfl ?_
      refine R.icmp_le (tgt := 31) dJ6_stringSize_0f7a4_24 (by decide) (fun c => absurd ((sb_nle (a := v) (b := 100) (by omega) (by decide)).mp c) (by omega)) (fun _ => ?_)
      refine R.iload_n dJ6_stringSize_0f7a4_27 rfl ?_
      refine R.iload_n dJ6_stringSize_0f7a4_28 rfl ?_
      refine R.iadd dJ6_stringSize_0f7a4_29 ?_
      refine WP.ret (ov := some (.int _)) dJ6_stringSize_0f7a4_30 ⟨rfl, _, rfl, by first | rfl | assumption | exact nar_b01 (by assumption)⟩ ?_
      exact hq
    · rw [if_neg h2] at hq
      by_cases h3 : v < 1000
      · rw [if_pos h3] at hq
        refine R.iconst (v := 1) dJ6_stringSize_0f7a4_0 rfl ?_
        refine R.istore_n dJ6_stringSize_0f7a4_1 (Nat.le_of_ble_eq_true rfl) (by decide) (by first | rfl | simp [lft, rf_cat]) rfl ?_
        refine R.iload_n dJ6_stringSize_0f7a4_2 rfl ?_
        refine R.if_lt (tgt := 11) dJ6_stringSize_0f7a4_3 (by decide) (fun c => absurd c (nI_pos (by omega))) (fun _ => ?_)
        refine R.iconst (v := 0) dJ6_stringSize_0f7a4_6 rfl ?_
        refine R.istore_n dJ6_stringSize_0f7a4_7 (Nat.le_of_ble_eq_true rfl) (by decide) (by first | rfl | simp [lft, rf_cat]) rfl ?_
        refine R.iload_n dJ6_stringSize_0f7a4_8 rfl ?_
        refine R.ineg dJ6_stringSize_0f7a4_9 ?_
        refine R.istore_n dJ6_stringSize_0f7a4_10 (Nat.le_of_ble_eq_true rfl) (by decide) (by first | rfl | simp [lft, rf_cat]) rfl ?_
        refine R.bipush (v := -nI 10) dJ6_stringSize_0f7a4_11 (by decide) ?_
        refine R.istore_n dJ6_stringSize_0f7a4_13 (Nat.le_of_ble_eq_true rfl) (by decide) (by first | rfl | simp [lft, rf_cat]) rfl ?_
        refine R.iconst (v := 1) dJ6_stringSize_0f7a4_14 rfl ?_
        refine R.istore_n dJ6_stringSize_0f7a4_15 (Nat.le_of_ble_eq_true rfl) (by decide) (by first | rfl | simp [lft, rf_cat]) rfl ?_
        refine R.iload_n dJ6_stringSize_0f7a4_16 rfl ?_
        refine R.bipush (v := nI 10) dJ6_stringSize_0f7a4_17 (by decide) ?_
        refine R.icmp_ge (tgt := 42) dJ6_stringSize_0f7a4_19 (by decide) (fun c => absurd c (by decide)) (fun _ => ?_)
        refine R.iload_n dJ6_stringSize_0f7a4_22 rfl ?_
        refine R.iload_n dJ6_stringSize_0f7a4_23 rfl ?_
        refine R.icmp_le (tgt := 31) dJ6_stringSize_0f7a4_24 (by decide) (fun _ => ?_) (fun c => absurd ((sb_nle (a := v) (b := 10) (by omega) (by decide)).mpr (by omega)) c)
        refine R.bipush (v := 10) dJ6_stringSize_0f7a4_31 (by decide) ?_
        refine R.iload_n dJ6_stringSize_0f7a4_33 rfl ?_
        refine R.imul dJ6_stringSize_0f7a4_34 ?_
        rw [show (10 : Int32) * -nI 10 = -nI 100 by decide]
        refine R.istore_n dJ6_stringSize_0f7a4_35 (Nat.le_of_ble_eq_true rfl) (by decide) (by first | rfl | simp [lft, rf_cat]) rfl ?_
        refine R.iinc dJ6_stringSize_0f7a4_36 (Nat.le_of_ble_eq_true rfl) (by decide) (by first | rfl | simp [lft, rf_cat]) rfl (v := 2) (by decide) rfl ?_
        refine R.goto (tgt := 16) dJ6_stringSize_0f7a4_39 (by decide) ?_
        refine R.iload_n dJ6_stringSize_0f7a4_16 rfl ?_
        refine R.bipush (v := nI 10) dJ6_stringSize_0f7a4_17 (by decide) ?_
        refine R.icmp_ge (tgt := 42) dJ6_stringSize_0f7a4_19 (by decide) (fun c => absurd c (by decide)) (fun _ => ?_)
        refine R.iload_n dJ6_stringSize_0f7a4_22 rfl ?_
        refine R.iload_n dJ6_stringSize_0f7a4_23 rfl ?_
        refine R.icmp_le (tgt := 31) dJ6_stringSize_0f7a4_24 (by decide) (fun _ => ?_) (fun c => absurd ((sb_nle (a := v) (b := 100) (by omega) (by decide)).mpr (by omega)) c)
        refine R.bipush (v := 10) dJ6_stringSize_0f7a4_31 (by decide) ?_
        refine R.iload_n dJ6_stringSize_0f7a4_33 rfl ?_
        refine R.imul dJ6_stringSize_0f7a4_34 ?_
        rw [show (10 : Int32) * -nI 100 = -nI 1000 by decide]
        refine R.istore_n dJ6_stringSize_0f7a4_35 (Nat.le_of_ble_eq_true rfl) (by decide) (by first | rfl | simp [lft, rf_cat]) rfl ?_
        refine R.iinc dJ6_stringSize_0f7a4_36 (Nat.le_of_ble_eq_true rfl) (by decide) (by first | rfl | simp [lft, rf_cat]) rfl (v := 3) (by decide) rfl ?_
        refine R.goto (tgt := 16) dJ6_stringSize_0f7a4_39 (by decide) ?_
        refine R.iload_n dJ6_stringSize_0f7a4_16 rfl ?_
        refine R.bipush (v := nI 10) dJ6_stringSize_0f7a4_17 (by decide) ?_
        refine R.icmp_ge (tgt := 42) dJ6_stringSize_0f7a4_19 (by decide) (fun c => absurd c (by decide)) (fun _ => ?_)
        refine R.iload_n dJ6_stringSize_0f7a4_22 rfl ?_
        refine R.iload_n dJ6_stringSize_0f7a4_23 rfl ?_
        refine R.icmp_le (tgt := 31) dJ6_stringSize_0f7a4_24 (by decide) (fun c => absurd ((sb_nle (a := v) (b := 1000) (by omega) (by decide)).mp c) (by omega)) (fun _ => ?_)
        refine R.iload_n dJ6_stringSize_0f7a4_27 rfl ?_
        refine R.iload_n dJ6_stringSize_0f7a4_28 rfl ?_
        refine R.iadd dJ6_stringSize_0f7a4_29 ?_
        refine WP.ret (ov := some (.int _)) dJ6_stringSize_0f7a4_30 ⟨rfl, _, rfl, by first | rfl | assumption | exact nar_b01 (by assumption)⟩ ?_
        exact hq
      · rw [if_neg h3] at hq
        refine R.iconst (v := 1) dJ6_stringSize_0f7a4_0 rfl ?_
        refine R.istore_n dJ6_stringSize_0f7a4_1 (Nat.le_of_ble_eq_true rfl) (by decide) (by first | rfl | simp [lft, rf_cat]) rfl ?_
        refine R.iload_n dJ6_stringSize_0f7a4_2 rfl ?_
        refine R.if_lt (tgt := 11) dJ6_stringSize_0f7a4_3 (by decide) (fun c => absurd c (nI_pos (by omega))) (fun _ => ?_)
        refine R.iconst (v := 0) dJ6_stringSize_0f7a4_6 rfl ?_
        refine R.istore_n dJ6_stringSize_0f7a4_7 (Nat.le_of_ble_eq_true rfl) (by decide) (by first | rfl | simp [lft, rf_cat]) rfl ?_
        refine R.iload_n dJ6_stringSize_0f7a4_8 rfl ?_
        refine R.ineg dJ6_stringSize_0f7a4_9 ?_
        refine R.istore_n dJ6_stringSize_0f7a4_10 (Nat.le_of_ble_eq_true rfl) (by decide) (by first | rfl | simp [lft, rf_cat]) rfl ?_
        refine R.bipush (v := -nI 10) dJ6_stringSize_0f7a4_11 (by decide) ?_
        refine R.istore_n dJ6_stringSize_0f7a4_13 (Nat.le_of_ble_eq_true rfl) (by decide) (by first | rfl | simp [lft, rf_cat]) rfl ?_
        refine R.iconst (v := 1) dJ6_stringSize_0f7a4_14 rfl ?_
        refine R.istore_n dJ6_stringSize_0f7a4_15 (Nat.le_of_ble_eq_true rfl) (by decide) (by first | rfl | simp [lft, rf_cat]) rfl ?_
        refine R.iload_n dJ6_stringSize_0f7a4_16 rfl ?_
        refine R.bipush (v := nI 10) dJ6_stringSize_0f7a4_17 (by decide) ?_
        refine R.icmp_ge (tgt := 42) dJ6_stringSize_0f7a4_19 (by decide) (fun c => absurd c (by decide)) (fun _ => ?_)
        refine R.iload_n dJ6_stringSize_0f7a4_22 rfl ?_
        refine R.iload_n dJ6_stringSize_0f7a4_23 rfl ?_
        refine R.icmp_le (tgt := 31) dJ6_stringSize_0f7a4_24 (by decide) (fun _ => ?_) (fun c => absurd ((sb_nle (a := v) (b := 10) (by omega) (by decide)).mpr (by omega)) c)
        refine R.bipush (v := 10) dJ6_stringSize_0f7a4_31 (by decide) ?_
        refine R.iload_n dJ6_stringSize_0f7a4_33 rfl ?_
        refine R.imul dJ6_stringSize_0f7a4_34 ?_
        rw [show (10 : Int32) * -nI 10 = -nI 100 by decide]
        refine R.istore_n dJ6_stringSize_0f7a4_35 (Nat.le_of_ble_eq_true rfl) (by decide) (by first | rfl | simp [lft, rf_cat]) rfl ?_
        refine R.iinc dJ6_stringSize_0f7a4_36 (Nat.le_of_ble_eq_true rfl) (by decide) (by first | rfl | simp [lft, rf_cat]) rfl (v := 2) (by decide) rfl ?_
        refine R.goto (tgt := 16) dJ6_stringSize_0f7a4_39 (by decide) ?_
        refine R.iload_n dJ6_stringSize_0f7a4_16 rfl ?_
        refine R.bipush (v := nI 10) dJ6_stringSize_0f7a4_17 (by decide) ?_
        refine R.icmp_ge (tgt := 42) dJ6_stringSize_0f7a4_19 (by decide) (fun c => absurd c (by decide)) (fun _ => ?_)
        refine R.iload_n dJ6_stringSize_0f7a4_22 rfl ?_
        refine R.iload_n dJ6_stringSize_0f7a4_23 rfl ?_
        refine R.icmp_le (tgt := 31) dJ6_stringSize_0f7a4_24 (by decide) (fun _ => ?_) (fun c => absurd ((sb_nle (a := v) (b := 100) (by omega) (by decide)).mpr (by omega)) c)
        refine R.bipush (v := 10) dJ6_stringSize_0f7a4_31 (by decide) ?_
        refine R.iload_n dJ6_stringSize_0f7a4_33 rfl ?_
        refine R.imul dJ6_stringSize_0f7a4_34 ?_
        rw [show (10 : Int32) * -nI 100 = -nI 1000 by decide]
        refine R.istore_n dJ6_stringSize_0f7a4_35 (Nat.le_of_ble_eq_true rfl) (by decide) (by first | rfl | simp [lft, rf_cat]) rfl ?_
        refine R.iinc dJ6_stringSize_0f7a4_36 (Nat.le_of_ble_eq_true rfl) (by decide) (by first | rfl | simp [lft, rf_cat]) rfl (v := 3) (by decide) rfl ?_
        refine R.goto (tgt := 16) dJ6_stringSize_0f7a4_39 (by decide) ?_
        refine R.iload_n dJ6_stringSize_0f7a4_16 rfl ?_
        refine R.bipush (v := nI 10) dJ6_stringSize_0f7a4_17 (by decide) ?_
        refine R.icmp_ge (tgt := 42) dJ6_stringSize_0f7a4_19 (by decide) (fun c => absurd c (by decide)) (fun _ => ?_)
        refine R.iload_n dJ6_stringSize_0f7a4_22 rfl ?_
        refine R.iload_n dJ6_stringSize_0f7a4_23 rfl ?_
        refine R.icmp_le (tgt := 31) dJ6_stringSize_0f7a4_24 (by decide) (fun _ => ?_) (fun c => absurd ((sb_nle (a := v) (b := 1000) (by omega) (by decide)).mpr (by omega)) c)
        refine R.bipush (v := 10) dJ6_stringSize_0f7a4_31 (by decide) ?_
        refine R.iload_n dJ6_stringSize_0f7a4_33 rfl ?_
        refine R.imul dJ6_stringSize_0f7a4_34 ?_
        rw [show (10 : Int32) * -nI 1000 = -nI 10000 by decide]
        refine R.istore_n dJ6_stringSize_0f7a4_35 (Nat.le_of_ble_eq_true rfl) (by decide) (by first | rfl | simp [lft, rf_cat]) rfl ?_
        refine R.iinc dJ6_stringSize_0f7a4_36 (Nat.le_of_ble_eq_true rfl) (by decide) (by first | rfl | simp [lft, rf_cat]) rfl (v := 4) (by decide) rfl ?_
        refine R.goto (tgt := 16) dJ6_stringSize_0f7a4_39 (by decide) ?_
        refine R.iload_n dJ6_stringSize_0f7a4_16 rfl ?_
        refine R.bipush (v := nI 10) dJ6_stringSize_0f7a4_17 (by decide) ?_
        refine R.icmp_ge (tgt := 42) dJ6_stringSize_0f7a4_19 (by decide) (fun c => absurd c (by decide)) (fun _ => ?_)
        refine R.iload_n dJ6_stringSize_0f7a4_22 rfl ?_
        refine R.iload_n dJ6_stringSize_0f7a4_23 rfl ?_
        refine R.icmp_le (tgt := 31) dJ6_stringSize_0f7a4_24 (by decide) (fun c => absurd ((sb_nle (a := v) (b := 10000) (by omega) (by decide)).mp c) (by omega)) (fun _ => ?_)
        refine R.iload_n dJ6_stringSize_0f7a4_27 rfl ?_
        refine R.iload_n dJ6_stringSize_0f7a4_28 rfl ?_
        refine R.iadd dJ6_stringSize_0f7a4_29 ?_
        refine WP.ret (ov := some (.int _)) dJ6_stringSize_0f7a4_30 ⟨rfl, _, rfl, by first | rfl | assumption | exact nar_b01 (by assumption)⟩ ?_
        exact hq
set_option maxHeartbeats 1000000 in
set_option maxRecDepth 4000 in
theorem s_getCh {d : Nat} {v p a : Nat} {M : Mem} {Q : Out → Mem → Prop} (hv : v < 10000) (hp : szF v ≤ p) (hp2 : p ≤ mN M 13 a) (hn : mN M 13 a < 5000) (hq : ∀ r : Int32, Q (.inl (some (.int r))) (gcM M a p v)) : WPc d mJ6_getChars_ba4f3 [.int (nI v), .int (nI p), .ref (rf 13 a)] M Q := by
  refine WPc.of (by decide +kernel) (Nat.le_of_ble_eq_true rfl) rfl ?_
  unfold szF at hp
  by_cases h1 : v < 100
  · by_cases h2 : v < 10
    · rw [gcM, if_pos h1, gc2, if_pos h2] at hq
      rw [if_pos h2] at hp
      refine R.iload_n dJ6_getChars_ba4f3_0 rfl ?_
      refine R.istore dJ6_getChars_ba4f3_1 (Nat.le_of_ble_eq_true rfl) (by decide) (by first | rfl | simp [lft, rf_cat]) rfl ?_
      refine R.iload_n dJ6_getChars_ba4f3_3 rfl ?_
      refine R.if_ge (tgt := 11) dJ6_getChars_ba4f3_4 (by decide) (fun _ => ?_) (fun c => absurd (nI_pos' (by omega)) c)
      refine R.iconst (v := 0) dJ6_getChars_ba4f3_11 rfl ?_
      refine R.istore dJ6_getChars_ba4f3_12 (Nat.le_of_ble_eq_true rfl) (by decide) (by first | rfl | simp [lft, rf_cat]) rfl ?_
      refine R.iload dJ6_getChars_ba4f3_14 rfl ?_
      refine R.if_ne (tgt := 22) dJ6_getChars_ba4f3_16 (by decide) (fun c => absurd rfl c) (fun _ => ?_)
      refine R.iload_n dJ6_getChars_ba4f3_19 rfl ?_
      refine R.ineg dJ6_getChars_ba4f3_20 ?_
      refine R.istore_n dJ6_getChars_ba4f3_21 (Nat.le_of_ble_eq_true rfl) (by decide) (by first | rfl | simp [lft, rf_cat]) rfl ?_
      refine R.iload_n dJ6_getChars_ba4f3_22 rfl ?_
      refine R.bipush (v := -nI 100) dJ6_getChars_ba4f3_23 (by decide) ?_
      refine R.icmp_gt (tgt := 72) dJ6_getChars_ba4f3_25 (by decide) (fun _ => ?_) (fun c => absurd ((sb_nlt (by omega) (by omega)).mpr (by omega)) c)
      refine R.aload_n dJ6_getChars_ba4f3_72 rfl (by first | rfl | exact rfv_rf _) ?_
      refine R.iinc dJ6_getChars_ba4f3_73 (Nat.le_of_ble_eq_true rfl) (by decide) (by first | rfl | simp [lft, rf_cat]) rfl (v := nI (p - 1)) (sb_m1 (by omega)) rfl ?_
      refine R.iload dJ6_getChars_ba4f3_76 rfl ?_
      refine R.gsOnes (gt_i 1622 (by decide +kernel) rfl) dJ6_getChars_ba4f3_78 ?_
      refine R.iload_n dJ6_getChars_ba4f3_81 rfl ?_
      refine R.ineg dJ6_getChars_ba4f3_82 ?_
      rw [neg_neg32]
      refine R.dgOald dJ6_getChars_ba4f3_83 (nI_pos (by omega)) (by rw [nI_clamp (by omega)]; omega) ?_
      rw [nI_clamp (by omega), dgO_v _ (by omega)]
      rw [show v % 10 = v from Nat.mod_eq_of_lt (by omega)]
      refine R.bast dJ6_getChars_ba4f3_84 (nI_pos (by omega)) (by rw [nI_clamp (by omega)]; show p - 1 < mN M 13 a; omega) ?_
      rw [nI_clamp (by omega), vp_byte (by omega)]
      refine R.iload_n dJ6_getChars_ba4f3_85 rfl ?_
      refine R.bipush (v := -nI 9) dJ6_getChars_ba4f3_86 (by decide) ?_
      refine R.icmp_ge (tgt := 104) dJ6_getChars_ba4f3_88 (by decide) (fun _ => ?_) (fun c => absurd ((sb_nle (by omega) (by omega)).mpr (by omega)) c)
      refine R.iload dJ6_getChars_ba4f3_104 rfl ?_
      refine R.if_eq (tgt := 118) dJ6_getChars_ba4f3_106 (by decide) (fun _ => ?_) (fun c => absurd rfl c)
      refine R.iload dJ6_getChars_ba4f3_118 rfl ?_
      refine WP.ret (ov := some (.int _)) dJ6_getChars_ba4f3_120 ⟨rfl, _, rfl, by first | rfl | assumption | exact nar_b01 (by assumption)⟩ ?_
      exact hq _
    · rw [gcM, if_pos h1, gc2, if_neg h2] at hq
      rw [if_neg h2, if_pos h1] at hp
      refine R.iload_n dJ6_getChars_ba4f3_0 rfl ?_
      refine R.istore dJ6_getChars_ba4f3_1 (Nat.le_of_ble_eq_true rfl) (by decide) (by first | rfl | simp [lft, rf_cat]) rfl ?_
      refine R.iload_n dJ6_getChars_ba4f3_3 rfl ?_
      refine R.if_ge (tgt := 11) dJ6_getChars_ba4f3_4 (by decide) (fun _ => ?_) (fun c => absurd (nI_pos' (by omega)) c)
      refine R.iconst (v := 0) dJ6_getChars_ba4f3_11 rfl ?_
      refine R.istore dJ6_getChars_ba4f3_12 (Nat.le_of_ble_eq_true rfl) (by decide) (by first | rfl | simp [lft, rf_cat]) rfl ?_
      refine R.iload dJ6_getChars_ba4f3_14 rfl ?_
      refine R.if_ne (tgt := 22) dJ6_getChars_ba4f3_16 (by decide) (fun c => absurd rfl c) (fun _ => ?_)
      refine R.iload_n dJ6_getChars_ba4f3_19 rfl ?_
      refine R.ineg dJ6_getChars_ba4f3_20 ?_
      refine R.istore_n dJ6_getChars_ba4f3_21 (Nat.le_of_ble_eq_true rfl) (by decide) (by first | rfl | simp [lft, rf_cat]) rfl ?_
      refine R.iload_n dJ6_getChars_ba4f3_22 rfl ?_
      refine R.bipush (v := -nI 100) dJ6_getChars_ba4f3_23 (by decide) ?_
      refine R.icmp_gt (tgt := 72) dJ6_getChars_ba4f3_25 (by decide) (fun _ => ?_) (fun c => absurd ((sb_nlt (by omega) (by omega)).mpr (by omega)) c)
      refine R.aload_n dJ6_getChars_ba4f3_72 rfl (by first | rfl | exact rfv_rf _) ?_
      refine R.iinc dJ6_getChars_ba4f3_73 (Nat.le_of_ble_eq_true rfl) (by decide) (by first | rfl | simp [lft, rf_cat]) rfl (v := nI (p - 1)) (sb_m1 (by omega)) rfl ?_
      refine R.iload dJ6_getChars_ba4f3_76 rfl ?_
      refine R.gsOnes (gt_i 1622 (by decide +kernel) rfl) dJ6_getChars_ba4f3_78 ?_
      refine R.iload_n dJ6_getChars_ba4f3_81 rfl ?_
      refine R.ineg dJ6_getChars_ba4f3_82 ?_
      rw [neg_neg32]
      refine R.dgOald dJ6_getChars_ba4f3_83 (nI_pos (by omega)) (by rw [nI_clamp (by omega)]; omega) ?_
      rw [nI_clamp (by omega), dgO_v _ (by omega)]
      refine R.bast dJ6_getChars_ba4f3_84 (nI_pos (by omega)) (by rw [nI_clamp (by omega)]; show p - 1 < mN M 13 a; omega) ?_
      rw [nI_clamp (by omega), vp_byte (by omega)]
      refine R.iload_n dJ6_getChars_ba4f3_85 rfl ?_
      refine R.bipush (v := -nI 9) dJ6_getChars_ba4f3_86 (by decide) ?_
      refine R.icmp_ge (tgt := 104) dJ6_getChars_ba4f3_88 (by decide) (fun c => absurd ((sb_nle (by omega) (by omega)).mp c) (by omega)) (fun _ => ?_)
      refine R.aload_n dJ6_getChars_ba4f3_91 rfl (by first | rfl | exact rfv_rf _) ?_
      refine R.iinc dJ6_getChars_ba4f3_92 (Nat.le_of_ble_eq_true rfl) (by decide) (by first | rfl | simp [lft, rf_cat]) rfl (v := nI (p - 1 - 1)) (sb_m1 (by omega)) rfl ?_
      refine R.iload dJ6_getChars_ba4f3_95 rfl ?_
      refine R.gsTens (gt_i 1624 (by decide +kernel) rfl) dJ6_getChars_ba4f3_97 ?_
      refine R.iload_n dJ6_getChars_ba4f3_100 rfl ?_
      refine R.ineg dJ6_getChars_ba4f3_101 ?_
      rw [neg_neg32]
      refine R.dgTald dJ6_getChars_ba4f3_102 (nI_pos (by omega)) (by rw [nI_clamp (by omega)]; omega) ?_
      rw [nI_clamp (by omega), dgT_v _ (by omega)]
      refine R.bast dJ6_getChars_ba4f3_103 (nI_pos (by omega)) (by rw [nI_clamp (by omega)]; show p - 1 - 1 < mN M 13 a; omega) ?_
      rw [nI_clamp (by omega), vp_byte (by omega)]
      refine R.iload dJ6_getChars_ba4f3_104 rfl ?_
      refine R.if_eq (tgt := 118) dJ6_getChars_ba4f3_106 (by decide) (fun _ => ?_) (fun c => absurd rfl c)
      refine R.iload dJ6_getChars_ba4f3_118 rfl ?_
      refine WP.ret (ov := some (.int _)) dJ6_getChars_ba4f3_120 ⟨rfl, _, rfl, by first | rfl | assumption | exact nar_b01 (by assumption)⟩ ?_
      exact hq _
  · by_cases h2 : v / 100 < 10
    · rw [gcM, if_neg h1, gc2, if_pos h2] at hq
      rw [if_neg (by omega), if_neg h1, if_pos (by omega)] at hp
      refine R.iload_n dJ6_getChars_ba4f3_0 rfl ?_
      refine R.istore dJ6_getChars_ba4f3_1 (Nat.le_of_ble_eq_true rfl) (by decide) (by first | rfl | simp [lft, rf_cat]) rfl ?_
      refine R.iload_n dJ6_getChars_ba4f3_3 rfl ?_
      refine R.if_ge (tgt := 11) dJ6_getChars_ba4f3_4 (by decide) (fun _ => ?_) (fun c => absurd (nI_pos' (by omega)) c)
      refine R.iconst (v := 0) dJ6_getChars_ba4f3_11 rfl ?_
      refine R.istore dJ6_getChars_ba4f3_12 (Nat.le_of_ble_eq_true rfl) (by decide) (by first | rfl | simp [lft, rf_cat]) rfl ?_
      refine R.iload dJ6_getChars_ba4f3_14 rfl ?_
      refine R.if_ne (tgt := 22) dJ6_getChars_ba4f3_16 (by decide) (fun c => absurd rfl c) (fun _ => ?_)
      refine R.iload_n dJ6_getChars_ba4f3_19 rfl ?_
      refine R.ineg dJ6_getChars_ba4f3_20 ?_
      refine R.istore_n dJ6_getChars_ba4f3_21 (Nat.le_of_ble_eq_true rfl) (by decide) (by first | rfl | simp [lft, rf_cat]) rfl ?_
      refine R.iload_n dJ6_getChars_ba4f3_22 rfl ?_
      refine R.bipush (v := -nI 100) dJ6_getChars_ba4f3_23 (by decide) ?_
      refine R.icmp_gt (tgt := 72) dJ6_getChars_ba4f3_25 (by decide) (fun c => absurd ((sb_nlt (by omega) (by omega)).mp c) (by omega)) (fun _ => ?_)
      refine R.iload_n dJ6_getChars_ba4f3_28 rfl ?_
      refine R.bipush (v := 100) dJ6_getChars_ba4f3_29 (by decide) ?_
      refine R.idiv dJ6_getChars_ba4f3_31 (by decide) ?_
      rw [sb_ndiv (by omega)]
      refine R.istore_n dJ6_getChars_ba4f3_32 (Nat.le_of_ble_eq_true rfl) (by decide) (by first | rfl | simp [lft, rf_cat]) rfl ?_
      refine R.iload_n dJ6_getChars_ba4f3_33 rfl ?_
      refine R.bipush (v := 100) dJ6_getChars_ba4f3_34 (by decide) ?_
      refine R.imul dJ6_getChars_ba4f3_36 ?_
      refine R.iload_n dJ6_getChars_ba4f3_37 rfl ?_
      refine R.isub dJ6_getChars_ba4f3_38 ?_
      rw [sb_nrem (by omega)]
      refine R.istore dJ6_getChars_ba4f3_39 (Nat.le_of_ble_eq_true rfl) (by decide) (by first | rfl | simp [lft, rf_cat]) rfl ?_
      refine R.iload_n dJ6_getChars_ba4f3_41 rfl ?_
      refine R.istore_n dJ6_getChars_ba4f3_42 (Nat.le_of_ble_eq_true rfl) (by decide) (by first | rfl | simp [lft, rf_cat]) rfl ?_
      refine R.aload_n dJ6_getChars_ba4f3_43 rfl (by first | rfl | exact rfv_rf _) ?_
      refine R.iinc dJ6_getChars_ba4f3_44 (Nat.le_of_ble_eq_true rfl) (by decide) (by first | rfl | simp [lft, rf_cat]) rfl (v := nI (p - 1)) (sb_m1 (by omega)) rfl ?_
      refine R.iload dJ6_getChars_ba4f3_47 rfl ?_
      refine R.gsOnes (gt_i 1622 (by decide +kernel) rfl) dJ6_getChars_ba4f3_49 ?_
      refine R.iload dJ6_getChars_ba4f3_52 rfl ?_
      refine R.dgOald dJ6_getChars_ba4f3_54 (nI_pos (by omega)) (by rw [nI_clamp (by omega)]; omega) ?_
      rw [nI_clamp (by omega), dgO_v _ (by omega)]
      refine R.bast dJ6_getChars_ba4f3_55 (nI_pos (by omega)) (by rw [nI_clamp (by omega)]; show p - 1 < mN M 13 a; omega) ?_
      rw [nI_clamp (by omega), vp_byte (by omega)]
      refine R.aload_n dJ6_getChars_ba4f3_56 rfl (by first | rfl | exact rfv_rf _) ?_
      refine R.iinc dJ6_getChars_ba4f3_57 (Nat.le_of_ble_eq_true rfl) (by decide) (by first | rfl | simp [lft, rf_cat]) rfl (v := nI (p - 1 - 1)) (sb_m1 (by omega)) rfl ?_
      refine R.iload dJ6_getChars_ba4f3_60 rfl ?_
      refine R.gsTens (gt_i 1624 (by decide +kernel) rfl) dJ6_getChars_ba4f3_62 ?_
      refine R.iload dJ6_getChars_ba4f3_65 rfl ?_
      refine R.dgTald dJ6_getChars_ba4f3_67 (nI_pos (by omega)) (by rw [nI_clamp (by omega)]; omega) ?_
      rw [nI_clamp (by omega), dgT_v _ (by omega)]
      refine R.bast dJ6_getChars_ba4f3_68 (nI_pos (by omega)) (by rw [nI_clamp (by omega)]; show p - 1 - 1 < mN M 13 a; omega) ?_
      rw [nI_clamp (by omega), vp_byte (by omega)]
      refine R.goto (tgt := 22) dJ6_getChars_ba4f3_69 (by decide) ?_
      refine R.iload_n dJ6_getChars_ba4f3_22 rfl ?_
      refine R.bipush (v := -nI 100) dJ6_getChars_ba4f3_23 (by decide) ?_
      refine R.icmp_gt (tgt := 72) dJ6_getChars_ba4f3_25 (by decide) (fun _ => ?_) (fun c => absurd ((sb_nlt (by omega) (by omega)).mpr (by omega)) c)
      refine R.aload_n dJ6_getChars_ba4f3_72 rfl (by first | rfl | exact rfv_rf _) ?_
      refine R.iinc dJ6_getChars_ba4f3_73 (Nat.le_of_ble_eq_true rfl) (by decide) (by first | rfl | simp [lft, rf_cat]) rfl (v := nI (p - 1 - 1 - 1)) (sb_m1 (by omega)) rfl ?_
      refine R.iload dJ6_getChars_ba4f3_76 rfl ?_
      refine R.gsOnes (gt_i 1622 (by decide +kernel) rfl) dJ6_getChars_ba4f3_78 ?_
      refine R.iload_n dJ6_getChars_ba4f3_81 rfl ?_
      refine R.ineg dJ6_getChars_ba4f3_82 ?_
      rw [neg_neg32]
      refine R.dgOald dJ6_getChars_ba4f3_83 (nI_pos (by omega)) (by rw [nI_clamp (by omega)]; omega) ?_
      rw [nI_clamp (by omega), dgO_v _ (by omega)]
      rw [show (v / 100) % 10 = (v / 100) from Nat.mod_eq_of_lt (by omega)]
      refine R.bast dJ6_getChars_ba4f3_84 (nI_pos (by omega)) (by rw [nI_clamp (by omega)]; show p - 1 - 1 - 1 < mN M 13 a; omega) ?_
      rw [nI_clamp (by omega), vp_byte (by omega)]
      refine R.iload_n dJ6_getChars_ba4f3_85 rfl ?_
      refine R.bipush (v := -nI 9) dJ6_getChars_ba4f3_86 (by decide) ?_
      refine R.icmp_ge (tgt := 104) dJ6_getChars_ba4f3_88 (by decide) (fun _ => ?_) (fun c => absurd ((sb_nle (by omega) (by omega)).mpr (by omega)) c)
      refine R.iload dJ6_getChars_ba4f3_104 rfl ?_
      refine R.if_eq (tgt := 118) dJ6_getChars_ba4f3_106 (by decide) (fun _ => ?_) (fun c => absurd rfl c)
      refine R.iload dJ6_getChars_ba4f3_118 rfl ?_
      refine WP.ret (ov := some (.int _)) dJ6_getChars_ba4f3_120 ⟨rfl, _, rfl, by first | rfl | assumption | exact nar_b01 (by assumption)⟩ ?_
      exact hq _
    · rw [gcM, if_neg h1, gc2, if_neg h2] at hq
      rw [if_neg (by omega), if_neg h1, if_neg (by omega)] at hp
      refine R.iload_n dJ6_getChars_ba4f3_0 rfl ?_
      refine R.istore dJ6_getChars_ba4f3_1 (Nat.le_of_ble_eq_true rfl) (by decide) (by first | rfl | simp [lft, rf_cat]) rfl ?_
      refine R.iload_n dJ6_getChars_ba4f3_3 rfl ?_
      refine R.if_ge (tgt := 11) dJ6_getChars_ba4f3_4 (by decide) (fun _ => ?_) (fun c => absurd (nI_pos' (by omega)) c)
      refine R.iconst (v := 0) dJ6_getChars_ba4f3_11 rfl ?_
      refine R.istore dJ6_getChars_ba4f3_12 (Nat.le_of_ble_eq_true rfl) (by decide) (by first | rfl | simp [lft, rf_cat]) rfl ?_
      refine R.iload dJ6_getChars_ba4f3_14 rfl ?_
      refine R.if_ne (tgt := 22) dJ6_getChars_ba4f3_16 (by decide) (fun c => absurd rfl c) (fun _ => ?_)
      refine R.iload_n dJ6_getChars_ba4f3_19 rfl ?_
      refine R.ineg dJ6_getChars_ba4f3_20 ?_
      refine R.istore_n dJ6_getChars_ba4f3_21 (Nat.le_of_ble_eq_true rfl) (by decide) (by first | rfl | simp [lft, rf_cat]) rfl ?_
      refine R.iload_n dJ6_getChars_ba4f3_22 rfl ?_
      refine R.bipush (v := -nI 100) dJ6_getChars_ba4f3_23 (by decide) ?_
      refine R.icmp_gt (tgt := 72) dJ6_getChars_ba4f3_25 (by decide) (fun c => absurd ((sb_nlt (by omega) (by omega)).mp c) (by omega)) (fun _ => ?_)
      refine R.iload_n dJ6_getChars_ba4f3_28 rfl ?_
      refine R.bipush (v := 100) dJ6_getChars_ba4f3_29 (by decide) ?_
      refine R.idiv dJ6_getChars_ba4f3_31 (by decide) ?_
      rw [sb_ndiv (by omega)]
      refine R.istore_n dJ6_getChars_ba4f3_32 (Nat.le_of_ble_eq_true rfl) (by decide) (by first | rfl | simp [lft, rf_cat]) rfl ?_
      refine R.iload_n dJ6_getChars_ba4f3_33 rfl ?_
      refine R.bipush (v := 100) dJ6_getChars_ba4f3_34 (by decide) ?_
      refine R.imul dJ6_getChars_ba4f3_36 ?_
      refine R.iload_n dJ6_getChars_ba4f3_37 rfl ?_
      refine R.isub dJ6_getChars_ba4f3_38 ?_
      rw [sb_nrem (by omega)]
      refine R.istore dJ6_getChars_ba4f3_39 (Nat.le_of_ble_eq_true rfl) (by decide) (by first | rfl | simp [lft, rf_cat]) rfl ?_
      refine R.iload_n dJ6_getChars_ba4f3_41 rfl ?_
      refine R.istore_n dJ6_getChars_ba4f3_42 (Nat.le_of_ble_eq_true rfl) (by decide) (by first | rfl | simp [lft, rf_cat]) rfl ?_
      refine R.aload_n dJ6_getChars_ba4f3_43 rfl (by first | rfl | exact rfv_rf _) ?_
      refine R.iinc dJ6_getChars_ba4f3_44 (Nat.le_of_ble_eq_true rfl) (by decide) (by first | rfl | simp [lft, rf_cat]) rfl (v := nI (p - 1)) (sb_m1 (by omega)) rfl ?_
      refine R.iload dJ6_getChars_ba4f3_47 rfl ?_
      refine R.gsOnes (gt_i 1622 (by decide +kernel) rfl) dJ6_getChars_ba4f3_49 ?_
      refine R.iload dJ6_getChars_ba4f3_52 rfl ?_
      refine R.dgOald dJ6_getChars_ba4f3_54 (nI_pos (by omega)) (by rw [nI_clamp (by omega)]; omega) ?_
      rw [nI_clamp (by omega), dgO_v _ (by omega)]
      refine R.bast dJ6_getChars_ba4f3_55 (nI_pos (by omega)) (by rw [nI_clamp (by omega)]; show p - 1 < mN M 13 a; omega) ?_
      rw [nI_clamp (by omega), vp_byte (by omega)]
      refine R.aload_n dJ6_getChars_ba4f3_56 rfl (by first | rfl | exact rfv_rf _) ?_
      refine R.iinc dJ6_getChars_ba4f3_57 (Nat.le_of_ble_eq_true rfl) (by decide) (by first | rfl | simp [lft, rf_cat]) rfl (v := nI (p - 1 - 1)) (sb_m1 (by omega)) rfl ?_
      refine R.iload dJ6_getChars_ba4f3_60 rfl ?_
      refine R.gsTens (gt_i 1624 (by decide +kernel) rfl) dJ6_getChars_ba4f3_62 ?_
      refine R.iload dJ6_getChars_ba4f3_65 rfl ?_
      refine R.dgTald dJ6_getChars_ba4f3_67 (nI_pos (by omega)) (by rw [nI_clamp (by omega)]; omega) ?_
      rw [nI_clamp (by omega), dgT_v _ (by omega)]
      refine R.bast dJ6_getChars_ba4f3_68 (nI_pos (by omega)) (by rw [nI_clamp (by omega)]; show p - 1 - 1 < mN M 13 a; omega) ?_
      rw [nI_clamp (by omega), vp_byte (by omega)]
      refine R.goto (tgt := 22) dJ6_getChars_ba4f3_69 (by decide) ?_
      refine R.iload_n dJ6_getChars_ba4f3_22 rfl ?_
      refine R.bipush (v := -nI 100) dJ6_getChars_ba4f3_23 (by decide) ?_
      refine R.icmp_gt (tgt := 72) dJ6_getChars_ba4f3_25 (by decide) (fun _ => ?_) (fun c => absurd ((sb_nlt (by omega) (by omega)).mpr (by omega)) c)
      refine R.aload_n dJ6_getChars_ba4f3_72 rfl (by first | rfl | exact rfv_rf _) ?_
      refine R.iinc dJ6_getChars_ba4f3_73 (Nat.le_of_ble_eq_true rfl) (by decide) (by first | rfl | simp [lft, rf_cat]) rfl (v := nI (p - 1 - 1 - 1)) (sb_m1 (by omega)) rfl ?_
      refine R.iload dJ6_getChars_ba4f3_76 rfl ?_
      refine R.gsOnes (gt_i 1622 (by decide +kernel) rfl) dJ6_getChars_ba4f3_78 ?_
      refine R.iload_n dJ6_getChars_ba4f3_81 rfl ?_
      refine R.ineg dJ6_getChars_ba4f3_82 ?_
      rw [neg_neg32]
      refine R.dgOald dJ6_getChars_ba4f3_83 (nI_pos (by omega)) (by rw [nI_clamp (by omega)]; omega) ?_
      rw [nI_clamp (by omega), dgO_v _ (by omega)]
      refine R.bast dJ6_getChars_ba4f3_84 (nI_pos (by omega)) (by rw [nI_clamp (by omega)]; show p - 1 - 1 - 1 < mN M 13 a; omega) ?_
      rw [nI_clamp (by omega), vp_byte (by omega)]
      refine R.iload_n dJ6_getChars_ba4f3_85 rfl ?_
      refine R.bipush (v := -nI 9) dJ6_getChars_ba4f3_86 (by decide) ?_
      refine R.icmp_ge (tgt := 104) dJ6_getChars_ba4f3_88 (by decide) (fun c => absurd ((sb_nle (by omega) (by omega)).mp c) (by omega)) (fun _ => ?_)
      refine R.aload_n dJ6_getChars_ba4f3_91 rfl (by first | rfl | exact rfv_rf _) ?_
      refine R.iinc dJ6_getChars_ba4f3_92 (Nat.le_of_ble_eq_true rfl) (by decide) (by first | rfl | simp [lft, rf_cat]) rfl (v := nI (p - 1 - 1 - 1 - 1)) (sb_m1 (by omega)) rfl ?_
      refine R.iload dJ6_getChars_ba4f3_95 rfl ?_
      refine R.gsTens (gt_i 1624 (by decide +kernel) rfl) dJ6_getChars_ba4f3_97 ?_
      refine R.iload_n dJ6_getChars_ba4f3_100 rfl ?_
      refine R.ineg dJ6_getChars_ba4f3_101 ?_
      rw [neg_neg32]
      refine R.dgTald dJ6_getChars_ba4f3_102 (nI_pos (by omega)) (by rw [nI_clamp (by omega)]; omega) ?_
      rw [nI_clamp (by omega), dgT_v _ (by omega)]
      refine R.bast dJ6_getChars_ba4f3_103 (nI_pos (by omega)) (by rw [nI_clamp (by omega)]; show p - 1 - 1 - 1 - 1 < mN M 13 a; omega) ?_
      rw [nI_clamp (by omega), vp_byte (by omega)]
      refine R.iload dJ6_getChars_ba4f3_104 rfl ?_
      refine R.if_eq (tgt := 118) dJ6_getChars_ba4f3_106 (by decide) (fun _ => ?_) (fun c => absurd rfl c)
      refine R.iload dJ6_getChars_ba4f3_118 rfl ?_
      refine WP.ret (ov := some (.int _)) dJ6_getChars_ba4f3_120 ⟨rfl, _, rfl, by first | rfl | assumption | exact nar_b01 (by assumption)⟩ ?_
      exact hq _
/-- digits laid ahead of place p -/
theorem gc2_r (M : Mem) (a p w : Nat) (hw : w < 100) (hp : (if w < 10 then 1 else 2) ≤ p) : (∀ k i f, ¬ (k = 13 ∧ i = a ∧ p - (if w < 10 then 1 else 2) ≤ f ∧ f < p) → mI (gc2 M a p w) k i f = mI M k i f) ∧ ∀ j x, (dgS w)[j]? = some x → mI (gc2 M a p w) 13 a (p - (if w < 10 then 1 else 2) + j) = x := by
  unfold gc2
  by_cases h : w < 10
  · rw [if_pos h] at hp
    simp only [if_pos h]
    refine ⟨fun k i f hn => by rw [mI_sI, if_neg (by omega)], fun j x hx => ?_⟩
    rw [dgS_1 h] at hx
    have hj : j = 0 := by
      by_cases z : j = 0
      · exact z
      · obtain ⟨k, rfl⟩ : ∃ k, j = k + 1 := ⟨j - 1, by omega⟩
        simp at hx
    subst hj
    rw [mI_sI, if_pos ⟨rfl, rfl, by omega⟩]
    simpa using hx
  · rw [if_neg h] at hp
    simp only [if_neg h]
    refine ⟨fun k i f hn => by rw [mI_sI, if_neg (by omega), mI_sI, if_neg (by omega)], fun j x hx => ?_⟩
    rw [dgS_2 h hw] at hx
    match j, hx with
    | 0, hx => rw [mI_sI, if_pos ⟨rfl, rfl, by omega⟩]; simpa using hx
    | 1, hx => rw [mI_sI, if_neg (by omega), mI_sI, if_pos ⟨rfl, rfl, by omega⟩]; simpa using hx
    | (j + 2), hx => simp at hx
theorem gcM_r (M : Mem) (a p v : Nat) (hv : v < 10000) (hp : szF v ≤ p) : (∀ k i f, ¬ (k = 13 ∧ i = a ∧ p - szF v ≤ f ∧ f < p) → mI (gcM M a p v) k i f = mI M k i f) ∧ ∀ j x, (dgS v)[j]? = some x → mI (gcM M a p v) 13 a (p - szF v + j) = x := by
  unfold gcM
  by_cases h : v < 100
  · rw [if_pos h]
    have e : szF v = if v < 10 then 1 else 2 := by unfold szF; rw [if_pos h]
    rw [e] at hp ⊢
    exact gc2_r M a p v h hp
  · rw [if_neg h]
    have hw : v / 100 < 100 := by omega
    have e : szF v = (if v / 100 < 10 then 1 else 2) + 2 := by
      unfold szF
      rw [if_neg (by omega), if_neg h]
      by_cases z : v < 1000
      · rw [if_pos z, if_pos (by omega)]
      · rw [if_neg z, if_neg (by omega)]
    rw [e] at hp ⊢
    obtain ⟨g1, g2⟩ := gc2_r (sI (sI M 13 a (p - 1) (nI (48 + v % 100 % 10))) 13 a (p - 1 - 1) (nI (48 + v % 100 / 10))) a (p - 1 - 1) (v / 100) hw (by omega)
    have hz : (if v / 100 < 10 then 1 else 2) ≤ 2 := by split <;> omega
    have hz1 : 1 ≤ (if v / 100 < 10 then 1 else 2) := by split <;> omega
    generalize hzz : (if v / 100 < 10 then 1 else 2) = z9 at *
    have hdl : (dgS (v / 100)).length = z9 := by
      rw [dgS_len (by omega)]
      unfold szF
      rw [← hzz]
      by_cases z : v / 100 < 10
      · rw [if_pos z, if_pos z]
      · rw [if_neg z, if_pos hw, if_neg z]
    have hd : dgS v = dgS (v / 100) ++ [nI (48 + v % 100 / 10), nI (48 + v % 100 % 10)] := by
      by_cases z : v < 1000
      · rw [dgS_3 h z, dgS_1 (by omega)]; rfl
      · rw [dgS_4 z hv, dgS_2 (by omega) hw]; rfl
    refine ⟨fun k i f hn => ?_, fun j x hx => ?_⟩
    · rw [g1 k i f (by omega), mI_sI, if_neg (by omega), mI_sI, if_neg (by omega)]
    · rw [hd, List.getElem?_append] at hx
      by_cases hj : j < (dgS (v / 100)).length
      · rw [if_pos hj] at hx
        have := g2 j x hx
        rw [show p - (z9 + 2) + j = p - 1 - 1 - z9 + j by omega]
        exact this
      · rw [if_neg hj] at hx
        rw [hdl] at hx hj
        obtain ⟨i, rfl⟩ : ∃ i, j = z9 + i := ⟨j - z9, by omega⟩
        rw [show z9 + i - z9 = i by omega] at hx
        rw [g1 13 a _ (by omega)]
        match i, hx with
        | 0, hx => rw [mI_sI, if_pos ⟨rfl, rfl, by omega⟩]; simpa using hx
        | 1, hx => rw [mI_sI, if_neg (by omega), mI_sI, if_pos ⟨rfl, rfl, by omega⟩]; simpa using hx
        | (i + 2), hx => simp at hx
theorem gc_o (M : Mem) (a p v : Nat) : mN (gcM M a p v) = mN M ∧ mC (gcM M a p v) = mC M ∧ mR (gcM M a p v) = mR M ∧ mL (gcM M a p v) = mL M ∧ mD (gcM M a p v) = mD M ∧ mK (gcM M a p v) = mK M ∧ mS (gcM M a p v) = mS M := by
  unfold gcM gc2
  repeat' split
  all_goals exact ⟨rfl, rfl, rfl, rfl, rfl, rfl, rfl⟩
theorem dg_byte {v j : Nat} {x : Int32} (hv : v < 10000) (hx : (dgS v)[j]? = some x) : ∃ k, x = nI k ∧ k < 128 := by
  have h : ∀ f v, ∀ x ∈ dgs f v, ∃ k, x = nI k ∧ k < 128 := by
    intro f
    induction f with
    | zero => intro v x h; cases h
    | succ f ih =>
      intro v x h
      rw [dgs] at h
      split at h
      · rw [List.mem_singleton.mp h]; exact ⟨_, rfl, by omega⟩
      · rcases List.mem_append.mp h with h | h
        · exact ih _ x h
        · rw [List.mem_singleton.mp h]; exact ⟨_, rfl, by omega⟩
  exact h 5 v x (List.mem_of_getElem? hx)
theorem Sb.dig {M : Mem} {cap : Nat} {O : List Int32} {v a : Nat} (h : Sb M cap O) (a1 : mR M 12 0 0 = some (rf 13 a)) (hv : v < 10000) (hl : O.length + szF v ≤ cap) : Sb (sI (gcM M a (O.length + szF v) v) 12 0 3 (nI (O.length + szF v))) cap (O ++ dgS v) ∧ FrS M (sI (gcM M a (O.length + szF v) v) 12 0 3 (nI (O.length + szF v))) ∧ Gw M (sI (gcM M a (O.length + szF v) v) 12 0 3 (nI (O.length + szF v))) cap cap := by
  obtain ⟨⟨a', a1', a2, a3, a4, a5, a6⟩, b1, b2, b3, b4⟩ := h
  have ev : a' = a := (rf_inj (by decide) (by decide) (Option.some.inj (a1'.symm.trans a1))).2
  subst ev
  obtain ⟨g1, g2⟩ := gcM_r M a' (O.length + szF v) v hv (by omega)
  obtain ⟨e1, e2, e3, e4, e5, e6, e7⟩ := gc_o M a' (O.length + szF v) v
  rw [show O.length + szF v - szF v = O.length by omega] at g1 g2
  have hdl := dgS_len hv
  refine ⟨⟨⟨a', ?_, a2, ?_, ?_, fun i x hx => ?_, fun j hj => ?_⟩, ?_, ?_, by rw [List.length_append, hdl]; exact hl, b4⟩, ⟨fun k i h1 h2 => ?_, fun k hk => by show mC (gcM _ _ _ _) k = _; rw [e2], by show _ ≤ mC (gcM _ _ _ _) 13; rw [e2]; exact Nat.le_refl _⟩, Nat.le_refl _, ?_, ?_⟩
  · show mR (gcM _ _ _ _) 12 0 0 = _
    rw [e3]; exact a1'
  · show _ < mC (gcM _ _ _ _) 13
    rw [e2]; exact a3
  · show mN (gcM _ _ _ _) 13 a' = _
    rw [e1]; exact a4
  · rw [mI_sI, if_neg (by omega)]
    rw [List.getElem?_append] at hx
    by_cases z : i < O.length
    · rw [if_pos z] at hx
      rw [g1 _ _ _ (by omega)]; exact a5 i x hx
    · rw [if_neg z] at hx
      have := g2 _ x hx
      rw [show O.length + (i - O.length) = i by omega] at this
      exact this
  · rw [mI_sI, if_neg (by omega)]
    by_cases z : O.length ≤ j ∧ j < O.length + szF v
    · have hj2 : j - O.length < (dgS v).length := by omega
      obtain ⟨x, hx⟩ : ∃ x, (dgS v)[j - O.length]? = some x := ⟨_, List.getElem?_eq_getElem hj2⟩
      have := g2 _ x hx
      rw [show O.length + (j - O.length) = j by omega] at this
      rw [this]
      obtain ⟨k, rfl, hk⟩ := dg_byte hv hx
      exact fit_byte hk
    · rw [g1 _ _ _ (by omega)]; exact a6 j hj
  · rw [mI_sI, if_neg (by omega), g1 _ _ _ (by omega)]; exact b1
  · rw [mI_sI, if_pos ⟨rfl, rfl, rfl⟩, List.length_append, hdl]
  · refine ⟨?_, ?_, ?_, ?_, ?_⟩
    · funext f
      rw [mI_sI, if_neg (by omega), g1 _ _ _ (by intro z; have := h2 z.1; omega)]
    · show mL (gcM _ _ _ _) k i = _; rw [e4]
    · show mR (gcM _ _ _ _) k i = _; rw [e3]
    · show mD (gcM _ _ _ _) k i = _; rw [e5]
    · show mN (gcM _ _ _ _) k i = _; rw [e1]
  · show mK (gcM _ _ _ _) + cap ≤ _; rw [e6]; exact Nat.le_refl _
  · show mS (gcM _ _ _ _) + 2 * cap ≤ _; rw [e7]; exact Nat.le_refl _
set_option maxHeartbeats 1000000 in
set_option maxRecDepth 4000 in
theorem s_sbI5 {d : Nat} {cap : Nat} {O : List Int32} {v : Nat} {M : Mem} {Q : Out → Mem → Prop} (h : Sb M cap O) (hv : v < 10000) (hl : O.length + szF v ≤ 300) (hq : ∀ M' cap', Sb M' cap' (O ++ dgS v) → FrS M M' → Gw M M' cap cap' → Q (.inl (some (.ref (rf 12 0)))) M') : WPc (d + 5) mJ5_append_c97b9 [.ref (rf 12 0), .int (nI v)] M Q := by
  refine WPc.of (by decide +kernel) (Nat.le_of_ble_eq_true rfl) rfl ?_
  refine R.aload_n dJ5_append_c97b9_0 rfl (by first | rfl | exact rfv_rf _) ?_
  refine R.getI dJ5_append_c97b9_1 fl_J5_79 (by decide) rfl ?_
  rw [h.2.2.1]
  refine R.istore_n dJ5_append_c97b9_4 (Nat.le_of_ble_eq_true rfl) (by decide) (by first | rfl | simp [lft, rf_cat]) rfl ?_
  refine R.iload_n dJ5_append_c97b9_5 rfl ?_
  refine R.iload_n dJ5_append_c97b9_6 rfl ?_
  refine cl_J5_245 rfl rfl (by first | exact Nat.le_of_ble_eq_true rfl | simp [rf_cat, Value.category]) dJ5_append_c97b9_7 ?_
  refine s_strSz hv ?_
  refine R.iadd dJ5_append_c97b9_10 ?_
  rw [nI_add]
  refine R.istore_n dJ5_append_c97b9_11 (Nat.le_of_ble_eq_true rfl) (by decide) (by first | rfl | simp [lft, rf_cat]) rfl ?_
  refine R.aload_n dJ5_append_c97b9_12 rfl (by first | rfl | exact rfv_rf _) ?_
  refine R.iload_n dJ5_append_c97b9_13 rfl ?_
  refine cl_J5_100 rfl rfl (by first | exact Nat.le_of_ble_eq_true rfl | simp [rf_cat, Value.category]) dJ5_append_c97b9_14 ?_
  refine s_sbEns h (by omega) (fun M1 cap1 h1 hc1 F1 G1 => ?_)
  refine R.aload_n dJ5_append_c97b9_17 rfl (by first | rfl | exact rfv_rf _) ?_
  refine cl_J5_83 rfl rfl (by first | exact Nat.le_of_ble_eq_true rfl | simp [rf_cat, Value.category]) dJ5_append_c97b9_18 ?_
  refine s_sbLat h1 ?_
  obtain ⟨⟨a, a1, a2, a3, a4, a5, a6⟩, b1, b2, b3, b4⟩ := h1
  have h1 : Sb M1 cap1 O := ⟨⟨a, a1, a2, a3, a4, a5, a6⟩, b1, b2, b3, b4⟩
  refine R.if_eq (tgt := 37) dJ5_append_c97b9_21 (by decide) (fun c => absurd c (by decide)) (fun _ => ?_)
  refine R.iload_n dJ5_append_c97b9_24 rfl ?_
  refine R.iload_n dJ5_append_c97b9_25 rfl ?_
  refine R.aload_n dJ5_append_c97b9_26 rfl (by first | rfl | exact rfv_rf _) ?_
  refine R.getS (a1) dJ5_append_c97b9_27 fl_J5_15 (by decide) rfl ?_
  refine cl_J5_248 rfl rfl (by first | exact Nat.le_of_ble_eq_true rfl | simp [rf_cat, Value.category]) dJ5_append_c97b9_30 ?_
  refine s_getCh hv (by omega) (by rw [a4]; omega) (by rw [a4]; omega) (fun r => ?_)
  refine R.pop dJ5_append_c97b9_33 (by first | rfl | exact rf_cat _) ?_
  refine R.goto (tgt := 48) dJ5_append_c97b9_34 (by decide) ?_
  refine R.aload_n dJ5_append_c97b9_48 rfl (by first | rfl | exact rfv_rf _) ?_
  refine R.iload_n dJ5_append_c97b9_49 rfl ?_
  refine R.putI dJ5_append_c97b9_50 fl_J5_79 (fun q hq => by cases hq; exact Or.inl rfl) (by decide) rfl rfl rfl ?_
  refine R.aload_n dJ5_append_c97b9_53 rfl (by first | rfl | exact rfv_rf _) ?_
  obtain ⟨g1, g2, g3⟩ := h1.dig a1 hv hc1
  refine WP.ret (ov := some (.ref _)) dJ5_append_c97b9_54 ⟨rfl, _, rfl, Or.inl ⟨_, rfl⟩⟩ ?_
  exact hq _ _ g1 (F1.tr g2) (G1.tr g3)
set_option maxHeartbeats 1000000 in
set_option maxRecDepth 4000 in
theorem s_sbI {d : Nat} {cap : Nat} {O : List Int32} {v : Nat} {M : Mem} {Q : Out → Mem → Prop} (h : Sb M cap O) (hv : v < 10000) (hl : O.length + szF v ≤ 300) (hq : ∀ M' cap', Sb M' cap' (O ++ dgS v) → FrS M M' → Gw M M' cap cap' → Q (.inl (some (.ref (rf 12 0)))) M') : WPc (d + 6) mJ4_append_bf812 [.ref (rf 12 0), .int (nI v)] M Q := by
  refine WPc.of (by decide +kernel) (Nat.le_of_ble_eq_true rfl) rfl ?_
  refine R.aload_n dJ4_append_bf812_0 rfl (by first | rfl | exact rfv_rf _) ?_
  refine R.iload_n dJ4_append_bf812_1 rfl ?_
  refine cl_J4_53 rfl rfl (by first | exact Nat.le_of_ble_eq_true rfl | simp [rf_cat, Value.category]) dJ4_append_bf812_2 ?_
  refine s_sbI5 h hv hl (fun M1 c1 h1 F1 G1 => ?_)
  refine R.pop dJ4_append_bf812_5 (by first | rfl | exact rf_cat _) ?_
  refine R.aload_n dJ4_append_bf812_6 rfl (by first | rfl | exact rfv_rf _) ?_
  refine WP.ret (ov := some (.ref _)) dJ4_append_bf812_7 ⟨rfl, _, rfl, Or.inl ⟨_, rfl⟩⟩ ?_
  exact hq _ _ h1 F1 G1
