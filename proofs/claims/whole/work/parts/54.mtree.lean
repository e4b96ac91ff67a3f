/-! the model's trees -/
/-- parents, as the model keeps them -/
def TW (Y : Yd) (m : Nat) (w : Nat → Int32) : Prop := m ≤ 16 ∧ w 0 = nI m ∧ (∀ k, k < m → w (16 + 18 * k + 9) = pIx Y k) ∧ ∀ i j, i < 16 → yP Y i = some j → i < m ∧ j < m
theorem TW.le {Y : Yd} {m : Nat} {w : Nat → Int32} (h : TW Y m w) : m ≤ 16 := h.1
theorem TW.z {Y : Yd} {m : Nat} {w : Nat → Int32} (h : TW Y m w) : w 0 = nI m := h.2.1
theorem TW.p {Y : Yd} {m k : Nat} {w : Nat → Int32} (h : TW Y m w) (hk : k < m) : w (16 + 18 * k + 9) = pIx Y k := h.2.2.1 k hk
theorem pIx_n {Y : Yd} {i : Nat} (h : yP Y i = none) : pIx Y i = -1 := by unfold pIx; rw [h]
theorem pIx_s {Y : Yd} {i j : Nat} (h : yP Y i = some j) : pIx Y i = nI j := by unfold pIx; rw [h]
/-- a parent's number, or -1 -/
def px (o : Option Nat) : Int32 := match o with
  | none => -1
  | some j => nI j
theorem pIx_e (Y : Yd) (i : Nat) : pIx Y i = px (yP Y i) := by
  cases e : yP Y i with
  | none => exact pIx_n e
  | some j => exact pIx_s e
theorem px_i {o : Option Nat} {j : Nat} (ho : ∀ i, o = some i → i < 2 ^ 31) (hj : j < 2 ^ 31) : px o = nI j ↔ o = some j := by
  cases o with
  | none => exact ⟨fun h => absurd h.symm (nI_m1 hj), fun h => nomatch h⟩
  | some i => exact ⟨fun h => by rw [(nI_inj (ho i rfl) hj).mp h], fun h => by cases h; rfl⟩
theorem TW.i {Y : Yd} {m k j : Nat} {w : Nat → Int32} (h : TW Y m w) (hk : k < m) (hj : j < 2 ^ 31) : pIx Y k = nI j ↔ yP Y k = some j := by
  rw [pIx_e]
  exact px_i (fun i hi => by have := (h.2.2.2 k i (by have := h.1; omega) hi).2; have := h.1; omega) hj
theorem sm_m {α : Type} [Lean.Grind.AddCommMonoid α] {f : Nat → α} {m : Nat} (hm : m ≤ 16) (h : ∀ k, k < 16 → m ≤ k → f k = 0) : sm f 16 = sm f m := by
  have key : ∀ n, m + n ≤ 16 → sm f (m + n) = sm f m := by
    intro n
    induction n with
    | zero => intro _; rfl
    | succ n ih => intro hn; rw [Nat.add_succ, sm, ih (by omega), h (m + n) (by omega) (by omega), az]
  have e := key (16 - m) (by omega)
  rw [show m + (16 - m) = 16 by omega] at e
  exact e
theorem TW.kid {α : Type} [Lean.Grind.AddCommMonoid α] {Y : Yd} {m i : Nat} {w : Nat → Int32} {f : Nat → α} (h : TW Y m w) : sm (fun k => if yP Y k = some i then f k else 0) 16 = sm (fun k => if yP Y k = some i then f k else 0) m := sm_m h.1 fun k hk hm => if_neg fun z => by have := (h.2.2.2 k i hk z).1; omega
/-- gross weights add up -/
def LG (Y : Yd) : Prop := ∀ i, i < 16 → yC Y i 4 = (yC Y i 2 + yC Y i 3) + sm (fun c => if yP Y c = some i then yC Y c 4 else 0) 16
set_option maxHeartbeats 1000000 in
set_option maxRecDepth 4000 in
theorem m_there {d : Nat} {w : Nat → Int32} {M : Mem} {Q : Out → Mem → Prop} {c : Nat} (hL : ML M) (hc : c < 16) (hq : Q (.inl (some (.int (if w (16 + 18 * c + 11) = 0 then 1 else 0)))) (sW M w)) : WPc (d + 1) mX13_isThere [.ref (rf 11 0), .int (nI c)] (sW M w) Q := by
  refine WPc.of (by decide +kernel) (Nat.le_of_ble_eq_true rfl) rfl ?_
  by_cases z : w (16 + 18 * c + 11) = 0
  · skip
    refine R.aload_n dX13_isThere_0 rfl (by first | rfl | exact rfv_rf _) ?_
    refine R.iload_n dX13_isThere_1 rfl ?_
    refine R.bipush (v := nI 11) dX13_isThere_2 (by decide) ?_
    refine cl_X13_68 rfl rfl (by first | exact Nat.le_of_ble_eq_true rfl | simp [rf_cat, Value.category]) dX13_isThere_4 ?_
    refine m_of hL hc (by omega) ?_
    refine R.if_ne (tgt := 14) dX13_isThere_7 (by decide) (fun c9 => absurd z c9) (fun _ => ?_)
    refine R.iconst (v := 1) dX13_isThere_10 rfl ?_
    refine R.goto (tgt := 15) dX13_isThere_11 (by decide) ?_
    refine WP.ret (ov := some (.int _)) dX13_isThere_15 ⟨rfl, _, rfl, by first | rfl | assumption | exact nar_b01 (by assumption)⟩ ?_
    rw [if_pos z] at hq
    exact hq
  · skip
    refine R.aload_n dX13_isThere_0 rfl (by first | rfl | exact rfv_rf _) ?_
    refine R.iload_n dX13_isThere_1 rfl ?_
    refine R.bipush (v := nI 11) dX13_isThere_2 (by decide) ?_
    refine cl_X13_68 rfl rfl (by first | exact Nat.le_of_ble_eq_true rfl | simp [rf_cat, Value.category]) dX13_isThere_4 ?_
    refine m_of hL hc (by omega) ?_
    refine R.if_ne (tgt := 14) dX13_isThere_7 (by decide) (fun _ => ?_) (fun c9 => absurd c9 z)
    refine R.iconst (v := 0) dX13_isThere_14 rfl ?_
    refine WP.ret (ov := some (.int _)) dX13_isThere_15 ⟨rfl, _, rfl, by first | rfl | assumption | exact nar_b01 (by assumption)⟩ ?_
    rw [if_neg z] at hq
    exact hq
set_option maxHeartbeats 1000000 in
set_option maxRecDepth 4000 in
theorem m_own {d : Nat} {w : Nat → Int32} {M : Mem} {Q : Out → Mem → Prop} {c : Nat} (hL : ML M) (hc : c < 16) (hq : Q (.inl (some (.int (w (16 + 18 * c + 7) + w (16 + 18 * c + 8))))) (sW M w)) : WPc (d + 1) mX13_ownWeight [.ref (rf 11 0), .int (nI c)] (sW M w) Q := by
  refine WPc.of (by decide +kernel) (Nat.le_of_ble_eq_true rfl) rfl ?_
  refine R.aload_n dX13_ownWeight_0 rfl (by first | rfl | exact rfv_rf _) ?_
  refine R.iload_n dX13_ownWeight_1 rfl ?_
  refine R.bipush (v := nI 7) dX13_ownWeight_2 (by decide) ?_
  refine cl_X13_68 rfl rfl (by first | exact Nat.le_of_ble_eq_true rfl | simp [rf_cat, Value.category]) dX13_ownWeight_4 ?_
  refine m_of hL hc (by omega) ?_
  refine R.aload_n dX13_ownWeight_7 rfl (by first | rfl | exact rfv_rf _) ?_
  refine R.iload_n dX13_ownWeight_8 rfl ?_
  refine R.bipush (v := nI 8) dX13_ownWeight_9 (by decide) ?_
  refine cl_X13_68 rfl rfl (by first | exact Nat.le_of_ble_eq_true rfl | simp [rf_cat, Value.category]) dX13_ownWeight_11 ?_
  refine m_of hL hc (by omega) ?_
  refine R.iadd dX13_ownWeight_14 ?_
  refine WP.ret (ov := some (.int _)) dX13_ownWeight_15 ⟨rfl, _, rfl, by first | rfl | assumption | exact nar_b01 (by assumption)⟩ ?_
  exact hq
theorem it_st {P : Nat → Option Nat} {n k i x : Nat} (e : itO P n (some x) = some k) (h : P k = some i) : itO P (n + 1) (some x) = some i := by
  rw [it_a, e]
  show itO P 0 (P k) = _
  rw [h]; rfl
set_option maxHeartbeats 2000000 in
set_option maxRecDepth 4000 in
theorem m_gross {Y : Yd} {m : Nat} {w : Nat → Int32} {M : Mem} {d : Nat} (hL : ML M) (hT : TW Y m w) (hG : LG Y) (hW : ∀ k, k < 16 → w (16 + 18 * k + 7) + w (16 + 18 * k + 8) = yC Y k 2 + yC Y k 3) : ∀ (n i : Nat), i < 16 → (∀ x, x < 16 → itO (yP Y) n (some x) ≠ some i) → ∀ {Q : Out → Mem → Prop}, Q (.inl (some (.int (yC Y i 4)))) (sW M w) → WPc (d + n + 2) mX13_gross [.ref (rf 11 0), .int (nI i)] (sW M w) Q := by
  intro n
  induction n with
  | zero => intro i hi h; exact absurd rfl (h i hi)
  | succ n ihn =>
    intro i hi hN Q hq
    refine WPc.of (by decide +kernel) (Nat.le_of_ble_eq_true rfl) rfl ?_
    have sm_e : yC Y i 4 = (yC Y i 2 + yC Y i 3) + sm (fun c => if yP Y c = some i then yC Y c 4 else 0) m := by rw [hG i hi, hT.kid]
    have key : ∀ (f k : Nat) (a : Int32), k + f = m → a = (yC Y i 2 + yC Y i 3) + sm (fun c => if yP Y c = some i then yC Y c 4 else 0) k → Q (.inl (some (.int (yC Y i 4)))) (sW M w) → WP mX13_gross (d + (n + 1) + 2) 8 [.ref (rf 11 0), .int (nI i), .int a, .int (nI k)] [] (sW M w) Q := by
      intro f
      induction f with
      | zero =>
        intro k a hk e hq
        have ek : k = m := by omega
        subst ek
        rw [sm_e, ← e] at hq
        refine R.iload_n dX13_gross_8 rfl ?_
        refine R.aload_n dX13_gross_9 rfl (by first | rfl | exact rfv_rf _) ?_
        refine R.getS (hL.w) dX13_gross_10 fl_X13_7 (by decide) rfl ?_
        refine R.iconst (v := nI 0) dX13_gross_13 rfl ?_
        refine R.ialdN (k := 0) dX13_gross_14 (by omega) (by show _ < mN M 14 0; rw [hL.n]; omega) ?_
        rw [mI_sWc]
        rw [hT.z]
        refine R.geT (tgt := 43) (Int32.le_refl _) dX13_gross_15 (by decide) ?_
        refine R.iload_n dX13_gross_43 rfl ?_
        refine WP.ret (ov := some (.int _)) dX13_gross_44 ⟨rfl, _, rfl, by first | rfl | assumption | exact nar_b01 (by assumption)⟩ ?_
        exact hq
      | succ f ih =>
        intro k a hf e hq
        have hk : k < m := by omega
        refine R.iload_n dX13_gross_8 rfl ?_
        refine R.aload_n dX13_gross_9 rfl (by first | rfl | exact rfv_rf _) ?_
        refine R.getS (hL.w) dX13_gross_10 fl_X13_7 (by decide) rfl ?_
        refine R.iconst (v := nI 0) dX13_gross_13 rfl ?_
        refine R.ialdN (k := 0) dX13_gross_14 (by omega) (by show _ < mN M 14 0; rw [hL.n]; omega) ?_
        rw [mI_sWc]
        rw [hT.z]
        refine R.geF (tgt := 43) (nI_ge (show k < m by omega) (by have := hT.le; omega)) dX13_gross_15 (by decide) ?_
        refine R.aload_n dX13_gross_18 rfl (by first | rfl | exact rfv_rf _) ?_
        refine R.iload_n dX13_gross_19 rfl ?_
        refine R.bipush (v := nI 9) dX13_gross_20 (by decide) ?_
        refine cl_X13_68 rfl rfl (by first | exact Nat.le_of_ble_eq_true rfl | simp [rf_cat, Value.category]) dX13_gross_22 ?_
        refine m_of hL (by have := hT.le; omega) (by omega) ?_
        rw [hT.p hk]
        refine R.iload_n dX13_gross_25 rfl ?_
        by_cases z : pIx Y k = nI i
        · have e9 := (hT.i hk (by omega)).mp z
          refine R.icmp_ne (tgt := 37) dX13_gross_26 (by decide) (fun c9 => absurd z c9) (fun _ => ?_)
          refine R.iload_n dX13_gross_29 rfl ?_
          refine R.aload_n dX13_gross_30 rfl (by first | rfl | exact rfv_rf _) ?_
          refine R.iload_n dX13_gross_31 rfl ?_
          refine cl_X13_82 rfl rfl (by first | exact Nat.le_of_ble_eq_true rfl | simp [rf_cat, Value.category]) dX13_gross_32 ?_
          refine ihn k (by have := hT.le; omega) (fun x hx e2 => hN x hx (it_st e2 e9)) ?_
          refine R.iadd dX13_gross_35 ?_
          refine R.istore_n dX13_gross_36 (Nat.le_of_ble_eq_true rfl) (by decide) (by first | rfl | simp [lft, rf_cat]) rfl ?_
          refine R.iinc dX13_gross_37 (Nat.le_of_ble_eq_true rfl) (by decide) (by first | rfl | simp [lft, rf_cat]) rfl (inc_nI _) rfl ?_
          refine R.goto (tgt := 8) dX13_gross_40 (by decide) ?_
          refine ih (k + 1) _ (by omega) ?_ hq
          rw [e, sm, if_pos e9, aa]
        · skip
          refine R.icmp_ne (tgt := 37) dX13_gross_26 (by decide) (fun _ => ?_) (fun c9 => absurd c9 z)
          refine R.iinc dX13_gross_37 (Nat.le_of_ble_eq_true rfl) (by decide) (by first | rfl | simp [lft, rf_cat]) rfl (inc_nI _) rfl ?_
          refine R.goto (tgt := 8) dX13_gross_40 (by decide) ?_
          refine ih (k + 1) _ (by omega) ?_ hq
          rw [e, sm, if_neg (fun q => z ((hT.i hk (by omega)).mpr q)), az]
    refine R.aload_n dX13_gross_0 rfl (by first | rfl | exact rfv_rf _) ?_
    refine R.iload_n dX13_gross_1 rfl ?_
    refine cl_X13_78 rfl rfl (by first | exact Nat.le_of_ble_eq_true rfl | simp [rf_cat, Value.category]) dX13_gross_2 ?_
    refine m_own (d := d + n + 1) hL (by omega) ?_
    refine R.istore_n dX13_gross_5 (Nat.le_of_ble_eq_true rfl) (by decide) (by first | rfl | simp [lft, rf_cat]) rfl ?_
    refine R.iconst (v := nI 0) dX13_gross_6 rfl ?_
    refine R.istore_n dX13_gross_7 (Nat.le_of_ble_eq_true rfl) (by decide) (by first | rfl | simp [lft, rf_cat]) rfl ?_
    exact key m 0 _ (by omega) (by rw [hW i hi]; exact (az _).symm) hq
set_option maxHeartbeats 1000000 in
set_option maxRecDepth 4000 in
theorem m_depth {d m i : Nat} {Y : Yd} {w : Nat → Int32} {M : Mem} {Q : Out → Mem → Prop} (hL : ML M) (hT : TW Y m w) (hA : Acy Y) (hi : i < m) (hq : Q (.inl (some (.int (nI (dp Y i))))) (sW M w)) : WPc (d + 1) mX13_depth [.ref (rf 11 0), .int (nI i)] (sW M w) Q := by
  refine WPc.of (by decide +kernel) (Nat.le_of_ble_eq_true rfl) rfl ?_
  have hm16 := hT.le
  have key : ∀ (n : Nat) (o : Option Nat) (a : Nat), acyO n (yP Y) o → (∀ j, o = some j → j < m) → Q (.inl (some (.int (nI (a + depO n (yP Y) o))))) (sW M w) → WP mX13_depth (d + 1) 10 [.ref (rf 11 0), .int (nI i), .int (nI a), .int (px o)] [] (sW M w) Q := by
    intro n
    induction n with
    | zero =>
      intro o a hac hb hq
      cases hac
      show WP mX13_depth (d + 1) 10 [.ref (rf 11 0), .int (nI i), .int (nI a), .int (-1)] [] (sW M w) Q
      refine R.iload_n dX13_depth_10 rfl ?_
      refine R.iconst (v := (-1)) dX13_depth_11 rfl ?_
      refine R.icmp_eq (tgt := 29) dX13_depth_12 (by decide) (fun _ => ?_) (fun c9 => absurd rfl c9)
      refine R.iload_n dX13_depth_29 rfl ?_
      refine WP.ret (ov := some (.int _)) dX13_depth_30 ⟨rfl, _, rfl, by first | rfl | assumption | exact nar_b01 (by assumption)⟩ ?_
      exact hq
    | succ n ih =>
      intro o a hac hb hq
      cases o with
      | none =>
        show WP mX13_depth (d + 1) 10 [.ref (rf 11 0), .int (nI i), .int (nI a), .int (-1)] [] (sW M w) Q
        refine R.iload_n dX13_depth_10 rfl ?_
        refine R.iconst (v := (-1)) dX13_depth_11 rfl ?_
        refine R.icmp_eq (tgt := 29) dX13_depth_12 (by decide) (fun _ => ?_) (fun c9 => absurd rfl c9)
        refine R.iload_n dX13_depth_29 rfl ?_
        refine WP.ret (ov := some (.int _)) dX13_depth_30 ⟨rfl, _, rfl, by first | rfl | assumption | exact nar_b01 (by assumption)⟩ ?_
        exact hq
      | some j =>
        have hjm := hb j rfl
        show WP mX13_depth (d + 1) 10 [.ref (rf 11 0), .int (nI i), .int (nI a), .int (nI j)] [] (sW M w) Q
        refine R.iload_n dX13_depth_10 rfl ?_
        refine R.iconst (v := (-1)) dX13_depth_11 rfl ?_
        refine R.icmp_eq (tgt := 29) dX13_depth_12 (by decide) (fun c9 => absurd c9 (nI_m1 (by omega))) (fun _ => ?_)
        refine R.iinc dX13_depth_15 (Nat.le_of_ble_eq_true rfl) (by decide) (by first | rfl | simp [lft, rf_cat]) rfl (inc_nI _) rfl ?_
        refine R.aload_n dX13_depth_18 rfl (by first | rfl | exact rfv_rf _) ?_
        refine R.iload_n dX13_depth_19 rfl ?_
        refine R.bipush (v := nI 9) dX13_depth_20 (by decide) ?_
        refine cl_X13_68 rfl rfl (by first | exact Nat.le_of_ble_eq_true rfl | simp [rf_cat, Value.category]) dX13_depth_22 ?_
        refine m_of hL (by omega) (by omega) ?_
        rw [hT.p hjm, pIx_e]
        refine R.istore_n dX13_depth_25 (Nat.le_of_ble_eq_true rfl) (by decide) (by first | rfl | simp [lft, rf_cat]) rfl ?_
        refine R.goto (tgt := 10) dX13_depth_26 (by decide) ?_
        exact ih (yP Y j) (a + 1) hac (fun i hi => (hT.2.2.2 j i (by omega) hi).2) (by rw [show a + 1 + depO n (yP Y) (yP Y j) = a + (depO n (yP Y) (yP Y j) + 1) by omega]; exact hq)
  refine R.iconst (v := nI 0) dX13_depth_0 rfl ?_
  refine R.istore_n dX13_depth_1 (Nat.le_of_ble_eq_true rfl) (by decide) (by first | rfl | simp [lft, rf_cat]) rfl ?_
  refine R.aload_n dX13_depth_2 rfl (by first | rfl | exact rfv_rf _) ?_
  refine R.iload_n dX13_depth_3 rfl ?_
  refine R.bipush (v := nI 9) dX13_depth_4 (by decide) ?_
  refine cl_X13_68 rfl rfl (by first | exact Nat.le_of_ble_eq_true rfl | simp [rf_cat, Value.category]) dX13_depth_6 ?_
  refine m_of hL (by omega) (by omega) ?_
  rw [hT.p hi, pIx_e]
  refine R.istore_n dX13_depth_9 (Nat.le_of_ble_eq_true rfl) (by decide) (by first | rfl | simp [lft, rf_cat]) rfl ?_
  exact key 5 (yP Y i) 0 (hA i (by omega)) (fun j hj => (hT.2.2.2 i j (by omega) hj).2) (by rw [Nat.zero_add]; exact hq)
set_option maxHeartbeats 1000000 in
set_option maxRecDepth 4000 in
theorem m_within {d m i t : Nat} {Y : Yd} {w : Nat → Int32} {M : Mem} {Q : Out → Mem → Prop} (hL : ML M) (hT : TW Y m w) (hA : Acy Y) (hi : i < m) (ht : t < 16) (hq : Q (.inl (some (.int (if ins Y i t = true then 1 else 0)))) (sW M w)) : WPc (d + 1) mX13_isWithin [.ref (rf 11 0), .int (nI i), .int (nI t)] (sW M w) Q := by
  refine WPc.of (by decide +kernel) (Nat.le_of_ble_eq_true rfl) rfl ?_
  have hm16 := hT.le
  have key : ∀ (n : Nat) (o : Option Nat), acyO n (yP Y) o → (∀ j, o = some j → j < m) → Q (.inl (some (.int (if inO n (yP Y) o t = true then 1 else 0)))) (sW M w) → WP mX13_isWithin (d + 1) 2 [.ref (rf 11 0), .int (nI i), .int (nI t), .int (px o)] [] (sW M w) Q := by
    intro n
    induction n with
    | zero =>
      intro o hac hb hq
      cases hac
      show WP mX13_isWithin (d + 1) 2 [.ref (rf 11 0), .int (nI i), .int (nI t), .int (-1)] [] (sW M w) Q
      refine R.iload_n dX13_isWithin_2 rfl ?_
      refine R.iconst (v := (-1)) dX13_isWithin_3 rfl ?_
      refine R.icmp_eq (tgt := 25) dX13_isWithin_4 (by decide) (fun _ => ?_) (fun c9 => absurd rfl c9)
      refine R.iconst (v := 0) dX13_isWithin_25 rfl ?_
      refine WP.ret (ov := some (.int _)) dX13_isWithin_26 ⟨rfl, _, rfl, by first | rfl | assumption | exact nar_b01 (by assumption)⟩ ?_
      exact hq
    | succ n ih =>
      intro o hac hb hq
      cases o with
      | none =>
        show WP mX13_isWithin (d + 1) 2 [.ref (rf 11 0), .int (nI i), .int (nI t), .int (-1)] [] (sW M w) Q
        refine R.iload_n dX13_isWithin_2 rfl ?_
        refine R.iconst (v := (-1)) dX13_isWithin_3 rfl ?_
        refine R.icmp_eq (tgt := 25) dX13_isWithin_4 (by decide) (fun _ => ?_) (fun c9 => absurd rfl c9)
        refine R.iconst (v := 0) dX13_isWithin_25 rfl ?_
        refine WP.ret (ov := some (.int _)) dX13_isWithin_26 ⟨rfl, _, rfl, by first | rfl | assumption | exact nar_b01 (by assumption)⟩ ?_
        exact hq
      | some j =>
        have hjm := hb j rfl
        show WP mX13_isWithin (d + 1) 2 [.ref (rf 11 0), .int (nI i), .int (nI t), .int (nI j)] [] (sW M w) Q
        by_cases zz : j = t
        · rw [show inO (n + 1) (yP Y) (some j) t = true from if_pos zz] at hq
          refine R.iload_n dX13_isWithin_2 rfl ?_
          refine R.iconst (v := (-1)) dX13_isWithin_3 rfl ?_
          refine R.icmp_eq (tgt := 25) dX13_isWithin_4 (by decide) (fun c9 => absurd c9 (nI_m1 (by omega))) (fun _ => ?_)
          refine R.iload_n dX13_isWithin_7 rfl ?_
          refine R.iload_n dX13_isWithin_8 rfl ?_
          refine R.icmp_ne (tgt := 14) dX13_isWithin_9 (by decide) (fun c9 => absurd (by rw [zz]) c9) (fun _ => ?_)
          refine R.iconst (v := 1) dX13_isWithin_12 rfl ?_
          refine WP.ret (ov := some (.int _)) dX13_isWithin_13 ⟨rfl, _, rfl, by first | rfl | assumption | exact nar_b01 (by assumption)⟩ ?_
          exact hq
        · rw [show inO (n + 1) (yP Y) (some j) t = inO n (yP Y) (yP Y j) t from if_neg zz] at hq
          refine R.iload_n dX13_isWithin_2 rfl ?_
          refine R.iconst (v := (-1)) dX13_isWithin_3 rfl ?_
          refine R.icmp_eq (tgt := 25) dX13_isWithin_4 (by decide) (fun c9 => absurd c9 (nI_m1 (by omega))) (fun _ => ?_)
          refine R.iload_n dX13_isWithin_7 rfl ?_
          refine R.iload_n dX13_isWithin_8 rfl ?_
          refine R.icmp_ne (tgt := 14) dX13_isWithin_9 (by decide) (fun _ => ?_) (fun c9 => absurd ((nI_inj (by omega) (by omega)).mp c9) zz)
          refine R.aload_n dX13_isWithin_14 rfl (by first | rfl | exact rfv_rf _) ?_
          refine R.iload_n dX13_isWithin_15 rfl ?_
          refine R.bipush (v := nI 9) dX13_isWithin_16 (by decide) ?_
          refine cl_X13_68 rfl rfl (by first | exact Nat.le_of_ble_eq_true rfl | simp [rf_cat, Value.category]) dX13_isWithin_18 ?_
          refine m_of hL (by omega) (by omega) ?_
          rw [hT.p hjm, pIx_e]
          refine R.istore_n dX13_isWithin_21 (Nat.le_of_ble_eq_true rfl) (by decide) (by first | rfl | simp [lft, rf_cat]) rfl ?_
          refine R.goto (tgt := 2) dX13_isWithin_22 (by decide) ?_
          exact ih (yP Y j) hac (fun i hi => (hT.2.2.2 j i (by omega) hi).2) hq
  refine R.iload_n dX13_isWithin_0 rfl ?_
  refine R.istore_n dX13_isWithin_1 (Nat.le_of_ble_eq_true rfl) (by decide) (by first | rfl | simp [lft, rf_cat]) rfl ?_
  exact key 6 (some i) (hA i (by omega)) (fun j hj => by cases hj; exact hi) hq
theorem m_one1 {d : Nat} {M : Mem} {Q : Out → Mem → Prop} (hq : Q (.inl (some (.int 1))) M) : WPc d mX13_one [.int 1] M Q := by
  refine WPc.of (by decide +kernel) (Nat.le_of_ble_eq_true rfl) rfl ?_
  refine R.iload_n dX13_one_0 rfl ?_
  refine R.if_eq (tgt := 8) dX13_one_1 (by decide) (fun c => absurd c (by decide)) (fun _ => ?_)
  refine R.iconst (v := 1) dX13_one_4 rfl ?_
  refine R.goto (tgt := 9) dX13_one_5 (by decide) ?_
  refine WP.ret (ov := some (.int _)) dX13_one_9 ⟨rfl, _, rfl, by first | rfl | assumption | exact nar_b01 (by assumption)⟩ ?_
  exact hq
theorem m_one0 {d : Nat} {M : Mem} {Q : Out → Mem → Prop} (hq : Q (.inl (some (.int 0))) M) : WPc d mX13_one [.int 0] M Q := by
  refine WPc.of (by decide +kernel) (Nat.le_of_ble_eq_true rfl) rfl ?_
  refine R.iload_n dX13_one_0 rfl ?_
  refine R.if_eq (tgt := 8) dX13_one_1 (by decide) (fun _ => ?_) (fun c => absurd rfl c)
  refine R.iconst (v := 0) dX13_one_8 rfl ?_
  refine WP.ret (ov := some (.int _)) dX13_one_9 ⟨rfl, _, rfl, by first | rfl | assumption | exact nar_b01 (by assumption)⟩ ?_
  exact hq
theorem nI_s1 (n : Nat) : nI n + 1 = nI (n + 1) := by
  unfold nI
  rw [Int32.ofNat_add]; rfl
set_option maxHeartbeats 1000000 in
set_option maxRecDepth 4000 in
theorem m_kids {d m i : Nat} {Y : Yd} {w : Nat → Int32} {M : Mem} {Q : Out → Mem → Prop} (hL : ML M) (hT : TW Y m w) (hi : i < 16) (hq : Q (.inl (some (.int (nI (sm (fun c => if yP Y c = some i then 1 else 0) 16))))) (sW M w)) : WPc (d + 1) mX13_children [.ref (rf 11 0), .int (nI i)] (sW M w) Q := by
  refine WPc.of (by decide +kernel) (Nat.le_of_ble_eq_true rfl) rfl ?_
  have hm16 := hT.le
  rw [hT.kid] at hq
  have key : ∀ (f k : Nat), k + f = m → Q (.inl (some (.int (nI (sm (fun c => if yP Y c = some i then 1 else 0) m))))) (sW M w) → WP mX13_children (d + 1) 4 [.ref (rf 11 0), .int (nI i), .int (nI (sm (fun c => if yP Y c = some i then 1 else 0) k)), .int (nI k)] [] (sW M w) Q := by
    intro f
    induction f with
    | zero =>
      intro k hk hq
      have ek : k = m := by omega
      subst ek
      refine R.iload_n dX13_children_4 rfl ?_
      refine R.aload_n dX13_children_5 rfl (by first | rfl | exact rfv_rf _) ?_
      refine R.getS (hL.w) dX13_children_6 fl_X13_7 (by decide) rfl ?_
      refine R.iconst (v := nI 0) dX13_children_9 rfl ?_
      refine R.ialdN (k := 0) dX13_children_10 (by omega) (by show _ < mN M 14 0; rw [hL.n]; omega) ?_
      rw [mI_sWc]
      rw [hT.z]
      refine R.geT (tgt := 42) (Int32.le_refl _) dX13_children_11 (by decide) ?_
      refine R.iload_n dX13_children_42 rfl ?_
      refine WP.ret (ov := some (.int _)) dX13_children_43 ⟨rfl, _, rfl, by first | rfl | assumption | exact nar_b01 (by assumption)⟩ ?_
      exact hq
    | succ f ih =>
      intro k hf hq
      have hk : k < m := by omega
      by_cases zz : pIx Y k = nI i
      · skip
        refine R.iload_n dX13_children_4 rfl ?_
        refine R.aload_n dX13_children_5 rfl (by first | rfl | exact rfv_rf _) ?_
        refine R.getS (hL.w) dX13_children_6 fl_X13_7 (by decide) rfl ?_
        refine R.iconst (v := nI 0) dX13_children_9 rfl ?_
        refine R.ialdN (k := 0) dX13_children_10 (by omega) (by show _ < mN M 14 0; rw [hL.n]; omega) ?_
        rw [mI_sWc]
        rw [hT.z]
        refine R.geF (tgt := 42) (nI_ge (show k < m by omega) (by have := hT.le; omega)) dX13_children_11 (by decide) ?_
        refine R.iload_n dX13_children_14 rfl ?_
        refine R.aload_n dX13_children_15 rfl (by first | rfl | exact rfv_rf _) ?_
        refine R.iload_n dX13_children_16 rfl ?_
        refine R.bipush (v := nI 9) dX13_children_17 (by decide) ?_
        refine cl_X13_68 rfl rfl (by first | exact Nat.le_of_ble_eq_true rfl | simp [rf_cat, Value.category]) dX13_children_19 ?_
        refine m_of hL (by omega) (by omega) ?_
        rw [hT.p hk]
        refine R.iload_n dX13_children_22 rfl ?_
        refine R.icmp_ne (tgt := 30) dX13_children_23 (by decide) (fun c9 => absurd zz c9) (fun _ => ?_)
        refine R.iconst (v := 1) dX13_children_26 rfl ?_
        refine R.goto (tgt := 31) dX13_children_27 (by decide) ?_
        refine cl_X13_93 rfl rfl (by first | exact Nat.le_of_ble_eq_true rfl | simp [rf_cat, Value.category]) dX13_children_31 ?_
        refine m_one1 ?_
        refine R.iadd dX13_children_34 ?_
        refine R.istore_n dX13_children_35 (Nat.le_of_ble_eq_true rfl) (by decide) (by first | rfl | simp [lft, rf_cat]) rfl ?_
        refine R.iinc dX13_children_36 (Nat.le_of_ble_eq_true rfl) (by decide) (by first | rfl | simp [lft, rf_cat]) rfl (inc_nI _) rfl ?_
        refine R.goto (tgt := 4) dX13_children_39 (by decide) ?_
        rw [show (nI (sm (fun c => if yP Y c = some i then 1 else 0) k) : Int32) + 1 = nI (sm (fun c => if yP Y c = some i then 1 else 0) (k + 1)) by rw [sm, if_pos ((hT.i hk (by omega)).mp zz)]; exact nI_s1 _]
        exact ih (k + 1) (by omega) hq
      · skip
        refine R.iload_n dX13_children_4 rfl ?_
        refine R.aload_n dX13_children_5 rfl (by first | rfl | exact rfv_rf _) ?_
        refine R.getS (hL.w) dX13_children_6 fl_X13_7 (by decide) rfl ?_
        refine R.iconst (v := nI 0) dX13_children_9 rfl ?_
        refine R.ialdN (k := 0) dX13_children_10 (by omega) (by show _ < mN M 14 0; rw [hL.n]; omega) ?_
        rw [mI_sWc]
        rw [hT.z]
        refine R.geF (tgt := 42) (nI_ge (show k < m by omega) (by have := hT.le; omega)) dX13_children_11 (by decide) ?_
        refine R.iload_n dX13_children_14 rfl ?_
        refine R.aload_n dX13_children_15 rfl (by first | rfl | exact rfv_rf _) ?_
        refine R.iload_n dX13_children_16 rfl ?_
        refine R.bipush (v := nI 9) dX13_children_17 (by decide) ?_
        refine cl_X13_68 rfl rfl (by first | exact Nat.le_of_ble_eq_true rfl | simp [rf_cat, Value.category]) dX13_children_19 ?_
        refine m_of hL (by omega) (by omega) ?_
        rw [hT.p hk]
        refine R.iload_n dX13_children_22 rfl ?_
        refine R.icmp_ne (tgt := 30) dX13_children_23 (by decide) (fun _ => ?_) (fun c9 => absurd c9 zz)
        refine R.iconst (v := 0) dX13_children_30 rfl ?_
        refine cl_X13_93 rfl rfl (by first | exact Nat.le_of_ble_eq_true rfl | simp [rf_cat, Value.category]) dX13_children_31 ?_
        refine m_one0 ?_
        refine R.iadd dX13_children_34 ?_
        refine R.istore_n dX13_children_35 (Nat.le_of_ble_eq_true rfl) (by decide) (by first | rfl | simp [lft, rf_cat]) rfl ?_
        refine R.iinc dX13_children_36 (Nat.le_of_ble_eq_true rfl) (by decide) (by first | rfl | simp [lft, rf_cat]) rfl (inc_nI _) rfl ?_
        refine R.goto (tgt := 4) dX13_children_39 (by decide) ?_
        rw [show (nI (sm (fun c => if yP Y c = some i then 1 else 0) k) : Int32) + 0 = nI (sm (fun c => if yP Y c = some i then 1 else 0) (k + 1)) by rw [sm, if_neg (fun q => zz ((hT.i hk (by omega)).mpr q))]; exact Int32.add_zero _]
        exact ih (k + 1) (by omega) hq
  refine R.iconst (v := nI 0) dX13_children_0 rfl ?_
  refine R.istore_n dX13_children_1 (Nat.le_of_ble_eq_true rfl) (by decide) (by first | rfl | simp [lft, rf_cat]) rfl ?_
  refine R.iconst (v := nI 0) dX13_children_2 rfl ?_
  refine R.istore_n dX13_children_3 (Nat.le_of_ble_eq_true rfl) (by decide) (by first | rfl | simp [lft, rf_cat]) rfl ?_
  exact key m 0 (by omega) hq
/-- stamps are ordered as the class's times are -/
def SW (Y : Yd) (m : Nat) (w : Nat → Int32) : Prop := ∀ i j, i < m → j < m → ∀ {o : Nat}, yP Y i = some o → yP Y j = some o → (w (16 + 18 * i + 10) < w (16 + 18 * j + 10) ↔ (yC Y i 6).toInt < (yC Y j 6).toInt)
set_option maxHeartbeats 1000000 in
set_option maxRecDepth 4000 in
theorem m_place {d m c o : Nat} {Y : Yd} {w : Nat → Int32} {M : Mem} {Q : Out → Mem → Prop} (hL : ML M) (hT : TW Y m w) (hS : SW Y m w) (hc16 : c < m) (hc : yP Y c = some o) (hq : Q (.inl (some (.int (nI (pl Y o c))))) (sW M w)) : WPc (d + 1) mX13_placeOf [.ref (rf 11 0), .int (nI c)] (sW M w) Q := by
  refine WPc.of (by decide +kernel) (Nat.le_of_ble_eq_true rfl) rfl ?_
  have hm16 := hT.le
  have ho : o < m := (hT.2.2.2 c o (by omega) hc).2
  unfold pl at hq
  rw [sm_m hm16 (fun k hk hm => if_neg fun q => by have := (hT.2.2.2 k o hk q.1).1; omega)] at hq
  have key : ∀ (f k : Nat), k + f = m → Q (.inl (some (.int (nI (sm (fun x => if yP Y x = some o ∧ (yC Y x 6).toInt < (yC Y c 6).toInt then 1 else 0) m))))) (sW M w) → WP mX13_placeOf (d + 1) 4 [.ref (rf 11 0), .int (nI c), .int (nI (sm (fun x => if yP Y x = some o ∧ (yC Y x 6).toInt < (yC Y c 6).toInt then 1 else 0) k)), .int (nI k)] [] (sW M w) Q := by
    intro f
    induction f with
    | zero =>
      intro k hk hq2
      have ek : k = m := by omega
      subst ek
      refine R.iload_n dX13_placeOf_4 rfl ?_
      refine R.aload_n dX13_placeOf_5 rfl (by first | rfl | exact rfv_rf _) ?_
      refine R.getS (hL.w) dX13_placeOf_6 fl_X13_7 (by decide) rfl ?_
      refine R.iconst (v := nI 0) dX13_placeOf_9 rfl ?_
      refine R.ialdN (k := 0) dX13_placeOf_10 (by omega) (by show _ < mN M 14 0; rw [hL.n]; omega) ?_
      rw [mI_sWc]
      rw [hT.z]
      refine R.geT (tgt := 65) (Int32.le_refl _) dX13_placeOf_11 (by decide) ?_
      refine R.iload_n dX13_placeOf_65 rfl ?_
      refine WP.ret (ov := some (.int _)) dX13_placeOf_66 ⟨rfl, _, rfl, by first | rfl | assumption | exact nar_b01 (by assumption)⟩ ?_
      exact hq2
    | succ f ih =>
      intro k hf hq2
      have hk : k < m := by omega
      by_cases zz : yP Y k = some o
      · by_cases zy : w (16 + 18 * k + 10) < w (16 + 18 * c + 10)
        · skip
          refine R.iload_n dX13_placeOf_4 rfl ?_
          refine R.aload_n dX13_placeOf_5 rfl (by first | rfl | exact rfv_rf _) ?_
          refine R.getS (hL.w) dX13_placeOf_6 fl_X13_7 (by decide) rfl ?_
          refine R.iconst (v := nI 0) dX13_placeOf_9 rfl ?_
          refine R.ialdN (k := 0) dX13_placeOf_10 (by omega) (by show _ < mN M 14 0; rw [hL.n]; omega) ?_
          rw [mI_sWc]
          rw [hT.z]
          refine R.geF (tgt := 65) (nI_ge (show k < m by omega) (by have := hT.le; omega)) dX13_placeOf_11 (by decide) ?_
          refine R.iload_n dX13_placeOf_14 rfl ?_
          refine R.aload_n dX13_placeOf_15 rfl (by first | rfl | exact rfv_rf _) ?_
          refine R.iload_n dX13_placeOf_16 rfl ?_
          refine R.bipush (v := nI 9) dX13_placeOf_17 (by decide) ?_
          refine cl_X13_68 rfl rfl (by first | exact Nat.le_of_ble_eq_true rfl | simp [rf_cat, Value.category]) dX13_placeOf_19 ?_
          refine m_of hL (by omega) (by omega) ?_
          rw [hT.p hk]
          refine R.aload_n dX13_placeOf_22 rfl (by first | rfl | exact rfv_rf _) ?_
          refine R.iload_n dX13_placeOf_23 rfl ?_
          refine R.bipush (v := nI 9) dX13_placeOf_24 (by decide) ?_
          refine cl_X13_68 rfl rfl (by first | exact Nat.le_of_ble_eq_true rfl | simp [rf_cat, Value.category]) dX13_placeOf_26 ?_
          refine m_of hL (by omega) (by omega) ?_
          rw [hT.p hc16]
          refine R.icmp_ne (tgt := 53) dX13_placeOf_29 (by decide) (fun c9 => absurd (by rw [pIx_s zz, pIx_s hc]) c9) (fun _ => ?_)
          refine R.aload_n dX13_placeOf_32 rfl (by first | rfl | exact rfv_rf _) ?_
          refine R.iload_n dX13_placeOf_33 rfl ?_
          refine R.bipush (v := nI 10) dX13_placeOf_34 (by decide) ?_
          refine cl_X13_68 rfl rfl (by first | exact Nat.le_of_ble_eq_true rfl | simp [rf_cat, Value.category]) dX13_placeOf_36 ?_
          refine m_of hL (by omega) (by omega) ?_
          refine R.aload_n dX13_placeOf_39 rfl (by first | rfl | exact rfv_rf _) ?_
          refine R.iload_n dX13_placeOf_40 rfl ?_
          refine R.bipush (v := nI 10) dX13_placeOf_41 (by decide) ?_
          refine cl_X13_68 rfl rfl (by first | exact Nat.le_of_ble_eq_true rfl | simp [rf_cat, Value.category]) dX13_placeOf_43 ?_
          refine m_of hL (by omega) (by omega) ?_
          refine R.icmp_ge (tgt := 53) dX13_placeOf_46 (by decide) (fun c9 => absurd zy (Int32.not_lt.mpr c9)) (fun _ => ?_)
          refine R.iconst (v := 1) dX13_placeOf_49 rfl ?_
          refine R.goto (tgt := 54) dX13_placeOf_50 (by decide) ?_
          refine cl_X13_93 rfl rfl (by first | exact Nat.le_of_ble_eq_true rfl | simp [rf_cat, Value.category]) dX13_placeOf_54 ?_
          refine m_one1 ?_
          refine R.iadd dX13_placeOf_57 ?_
          refine R.istore_n dX13_placeOf_58 (Nat.le_of_ble_eq_true rfl) (by decide) (by first | rfl | simp [lft, rf_cat]) rfl ?_
          refine R.iinc dX13_placeOf_59 (Nat.le_of_ble_eq_true rfl) (by decide) (by first | rfl | simp [lft, rf_cat]) rfl (inc_nI _) rfl ?_
          refine R.goto (tgt := 4) dX13_placeOf_62 (by decide) ?_
          rw [show (nI (sm (fun x => if yP Y x = some o ∧ (yC Y x 6).toInt < (yC Y c 6).toInt then 1 else 0) k) : Int32) + 1 = nI (sm (fun x => if yP Y x = some o ∧ (yC Y x 6).toInt < (yC Y c 6).toInt then 1 else 0) (k + 1)) by rw [sm, if_pos ⟨zz, (hS k c hk hc16 zz hc).mp zy⟩]; exact nI_s1 _]
          exact ih (k + 1) (by omega) hq2
        · skip
          refine R.iload_n dX13_placeOf_4 rfl ?_
          refine R.aload_n dX13_placeOf_5 rfl (by first | rfl | exact rfv_rf _) ?_
          refine R.getS (hL.w) dX13_placeOf_6 fl_X13_7 (by decide) rfl ?_
          refine R.iconst (v := nI 0) dX13_placeOf_9 rfl ?_
          refine R.ialdN (k := 0) dX13_placeOf_10 (by omega) (by show _ < mN M 14 0; rw [hL.n]; omega) ?_
          rw [mI_sWc]
          rw [hT.z]
          refine R.geF (tgt := 65) (nI_ge (show k < m by omega) (by have := hT.le; omega)) dX13_placeOf_11 (by decide) ?_
          refine R.iload_n dX13_placeOf_14 rfl ?_
          refine R.aload_n dX13_placeOf_15 rfl (by first | rfl | exact rfv_rf _) ?_
          refine R.iload_n dX13_placeOf_16 rfl ?_
          refine R.bipush (v := nI 9) dX13_placeOf_17 (by decide) ?_
          refine cl_X13_68 rfl rfl (by first | exact Nat.le_of_ble_eq_true rfl | simp [rf_cat, Value.category]) dX13_placeOf_19 ?_
          refine m_of hL (by omega) (by omega) ?_
          rw [hT.p hk]
          refine R.aload_n dX13_placeOf_22 rfl (by first | rfl | exact rfv_rf _) ?_
          refine R.iload_n dX13_placeOf_23 rfl ?_
          refine R.bipush (v := nI 9) dX13_placeOf_24 (by decide) ?_
          refine cl_X13_68 rfl rfl (by first | exact Nat.le_of_ble_eq_true rfl | simp [rf_cat, Value.category]) dX13_placeOf_26 ?_
          refine m_of hL (by omega) (by omega) ?_
          rw [hT.p hc16]
          refine R.icmp_ne (tgt := 53) dX13_placeOf_29 (by decide) (fun c9 => absurd (by rw [pIx_s zz, pIx_s hc]) c9) (fun _ => ?_)
          refine R.aload_n dX13_placeOf_32 rfl (by first | rfl | exact rfv_rf _) ?_
          refine R.iload_n dX13_placeOf_33 rfl ?_
          refine R.bipush (v := nI 10) dX13_placeOf_34 (by decide) ?_
          refine cl_X13_68 rfl rfl (by first | exact Nat.le_of_ble_eq_true rfl | simp [rf_cat, Value.category]) dX13_placeOf_36 ?_
          refine m_of hL (by omega) (by omega) ?_
          refine R.aload_n dX13_placeOf_39 rfl (by first | rfl | exact rfv_rf _) ?_
          refine R.iload_n dX13_placeOf_40 rfl ?_
          refine R.bipush (v := nI 10) dX13_placeOf_41 (by decide) ?_
          refine cl_X13_68 rfl rfl (by first | exact Nat.le_of_ble_eq_true rfl | simp [rf_cat, Value.category]) dX13_placeOf_43 ?_
          refine m_of hL (by omega) (by omega) ?_
          refine R.icmp_ge (tgt := 53) dX13_placeOf_46 (by decide) (fun _ => ?_) (fun c9 => absurd (Int32.not_le.mp c9) zy)
          refine R.iconst (v := 0) dX13_placeOf_53 rfl ?_
          refine cl_X13_93 rfl rfl (by first | exact Nat.le_of_ble_eq_true rfl | simp [rf_cat, Value.category]) dX13_placeOf_54 ?_
          refine m_one0 ?_
          refine R.iadd dX13_placeOf_57 ?_
          refine R.istore_n dX13_placeOf_58 (Nat.le_of_ble_eq_true rfl) (by decide) (by first | rfl | simp [lft, rf_cat]) rfl ?_
          refine R.iinc dX13_placeOf_59 (Nat.le_of_ble_eq_true rfl) (by decide) (by first | rfl | simp [lft, rf_cat]) rfl (inc_nI _) rfl ?_
          refine R.goto (tgt := 4) dX13_placeOf_62 (by decide) ?_
          rw [show (nI (sm (fun x => if yP Y x = some o ∧ (yC Y x 6).toInt < (yC Y c 6).toInt then 1 else 0) k) : Int32) + 0 = nI (sm (fun x => if yP Y x = some o ∧ (yC Y x 6).toInt < (yC Y c 6).toInt then 1 else 0) (k + 1)) by rw [sm, if_neg (fun q => zy ((hS k c hk hc16 zz hc).mpr q.2))]; exact Int32.add_zero _]
          exact ih (k + 1) (by omega) hq2
      · skip
        refine R.iload_n dX13_placeOf_4 rfl ?_
        refine R.aload_n dX13_placeOf_5 rfl (by first | rfl | exact rfv_rf _) ?_
        refine R.getS (hL.w) dX13_placeOf_6 fl_X13_7 (by decide) rfl ?_
        refine R.iconst (v := nI 0) dX13_placeOf_9 rfl ?_
        refine R.ialdN (k := 0) dX13_placeOf_10 (by omega) (by show _ < mN M 14 0; rw [hL.n]; omega) ?_
        rw [mI_sWc]
        rw [hT.z]
        refine R.geF (tgt := 65) (nI_ge (show k < m by omega) (by have := hT.le; omega)) dX13_placeOf_11 (by decide) ?_
        refine R.iload_n dX13_placeOf_14 rfl ?_
        refine R.aload_n dX13_placeOf_15 rfl (by first | rfl | exact rfv_rf _) ?_
        refine R.iload_n dX13_placeOf_16 rfl ?_
        refine R.bipush (v := nI 9) dX13_placeOf_17 (by decide) ?_
        refine cl_X13_68 rfl rfl (by first | exact Nat.le_of_ble_eq_true rfl | simp [rf_cat, Value.category]) dX13_placeOf_19 ?_
        refine m_of hL (by omega) (by omega) ?_
        rw [hT.p hk]
        refine R.aload_n dX13_placeOf_22 rfl (by first | rfl | exact rfv_rf _) ?_
        refine R.iload_n dX13_placeOf_23 rfl ?_
        refine R.bipush (v := nI 9) dX13_placeOf_24 (by decide) ?_
        refine cl_X13_68 rfl rfl (by first | exact Nat.le_of_ble_eq_true rfl | simp [rf_cat, Value.category]) dX13_placeOf_26 ?_
        refine m_of hL (by omega) (by omega) ?_
        rw [hT.p hc16]
        refine R.icmp_ne (tgt := 53) dX13_placeOf_29 (by decide) (fun _ => ?_) (fun c9 => absurd ((hT.i hk (by omega)).mp (c9.trans (pIx_s hc))) zz)
        refine R.iconst (v := 0) dX13_placeOf_53 rfl ?_
        refine cl_X13_93 rfl rfl (by first | exact Nat.le_of_ble_eq_true rfl | simp [rf_cat, Value.category]) dX13_placeOf_54 ?_
        refine m_one0 ?_
        refine R.iadd dX13_placeOf_57 ?_
        refine R.istore_n dX13_placeOf_58 (Nat.le_of_ble_eq_true rfl) (by decide) (by first | rfl | simp [lft, rf_cat]) rfl ?_
        refine R.iinc dX13_placeOf_59 (Nat.le_of_ble_eq_true rfl) (by decide) (by first | rfl | simp [lft, rf_cat]) rfl (inc_nI _) rfl ?_
        refine R.goto (tgt := 4) dX13_placeOf_62 (by decide) ?_
        rw [show (nI (sm (fun x => if yP Y x = some o ∧ (yC Y x 6).toInt < (yC Y c 6).toInt then 1 else 0) k) : Int32) + 0 = nI (sm (fun x => if yP Y x = some o ∧ (yC Y x 6).toInt < (yC Y c 6).toInt then 1 else 0) (k + 1)) by rw [sm, if_neg (fun q => zz q.1)]; exact Int32.add_zero _]
        exact ih (k + 1) (by omega) hq2
  refine R.iconst (v := nI 0) dX13_placeOf_0 rfl ?_
  refine R.istore_n dX13_placeOf_1 (Nat.le_of_ble_eq_true rfl) (by decide) (by first | rfl | simp [lft, rf_cat]) rfl ?_
  refine R.iconst (v := nI 0) dX13_placeOf_2 rfl ?_
  refine R.istore_n dX13_placeOf_3 (Nat.le_of_ble_eq_true rfl) (by decide) (by first | rfl | simp [lft, rf_cat]) rfl ?_
  exact key m 0 (by omega) hq
set_option maxHeartbeats 1000000 in
set_option maxRecDepth 4000 in
theorem m_child {d m i : Nat} {z : Int32} {Y : Yd} {w : Nat → Int32} {M : Mem} {Q : Out → Mem → Prop} (hL : ML M) (hT : TW Y m w) (hS : SW Y m w) (hD : SbD Y) (hi : i < 16) (hq : Q (.inl (some (.int (coF Y 17 (fCh Y i) 0 z)))) (sW M w)) : WPc (d + 2) mX13_child [.ref (rf 11 0), .int (nI i), .int z] (sW M w) Q := by
  refine WPc.of (by decide +kernel) (Nat.le_of_ble_eq_true rfl) rfl ?_
  have hm16 := hT.le
  have hpos : ∀ k, k < 16 → yP Y k = some i → (0 : Int32).toInt < (yC Y k 6).toInt := fun k hk p => by
    have e : (0 : Int32).toInt = 0 := by decide
    rw [e]; exact hD.1 k hk i p
  have l0 := nL_0 (o := i) hD
  have hy : ∀ c, c < m → yP Y c = some i → nI (pl Y i c) = z → Q (.inl (some (.int (nI c)))) (sW M w) := by
    intro c hc p q
    have pb : ∀ k, pl Y i k ≤ 16 := fun k => sm_le (b := 1) fun _ _ => by split; exact Nat.le_refl _; exact Nat.zero_le _
    have e := coF_y hD z 17 0 (Nat.lt_succ_of_le (nG_le Y i 0)) c (by omega) p (hpos c (by omega) p) q (fun k hk p' _ r => pl_in hD hk (by omega) p' p ((nI_inj (by have := pb k; omega) (by have := pb c; omega)).mp (r.trans q.symm)))
    rw [l0] at e
    show Q (.inl (some (.int (nI c)))) (sW M w)
    rw [← e]; exact hq
  have key : ∀ (f k : Nat), k + f = m → (∀ c, c < k → yP Y c = some i → ¬ nI (pl Y i c) = z) → WP mX13_child (d + 2) 2 [.ref (rf 11 0), .int (nI i), .int z, .int (nI k)] [] (sW M w) Q := by
    intro f
    induction f with
    | zero =>
      intro k hk h1
      have ek : k = m := by omega
      subst ek
      have h0 : Q (.inl (some (.int (-1)))) (sW M w) := by
        have e := coF_n hD z 17 0 (Nat.lt_succ_of_le (nG_le Y i 0)) (fun c hc p _ => h1 c (hT.2.2.2 c i hc p).1 p)
        rw [l0] at e
        rw [← e]; exact hq
      refine R.iload_n dX13_child_2 rfl ?_
      refine R.aload_n dX13_child_3 rfl (by first | rfl | exact rfv_rf _) ?_
      refine R.getS (hL.w) dX13_child_4 fl_X13_7 (by decide) rfl ?_
      refine R.iconst (v := nI 0) dX13_child_7 rfl ?_
      refine R.ialdN (k := 0) dX13_child_8 (by omega) (by show _ < mN M 14 0; rw [hL.n]; omega) ?_
      rw [mI_sWc]
      rw [hT.z]
      refine R.geT (tgt := 40) (Int32.le_refl _) dX13_child_9 (by decide) ?_
      refine R.iconst (v := (-1)) dX13_child_40 rfl ?_
      refine WP.ret (ov := some (.int _)) dX13_child_41 ⟨rfl, _, rfl, by first | rfl | assumption | exact nar_b01 (by assumption)⟩ ?_
      exact h0
    | succ f ih =>
      intro k hf h1
      have hk : k < m := by omega
      by_cases zz : yP Y k = some i
      · by_cases zy : nI (pl Y i k) = z
        · skip
          refine R.iload_n dX13_child_2 rfl ?_
          refine R.aload_n dX13_child_3 rfl (by first | rfl | exact rfv_rf _) ?_
          refine R.getS (hL.w) dX13_child_4 fl_X13_7 (by decide) rfl ?_
          refine R.iconst (v := nI 0) dX13_child_7 rfl ?_
          refine R.ialdN (k := 0) dX13_child_8 (by omega) (by show _ < mN M 14 0; rw [hL.n]; omega) ?_
          rw [mI_sWc]
          rw [hT.z]
          refine R.geF (tgt := 40) (nI_ge (show k < m by omega) (by have := hT.le; omega)) dX13_child_9 (by decide) ?_
          refine R.aload_n dX13_child_12 rfl (by first | rfl | exact rfv_rf _) ?_
          refine R.iload_n dX13_child_13 rfl ?_
          refine R.bipush (v := nI 9) dX13_child_14 (by decide) ?_
          refine cl_X13_68 rfl rfl (by first | exact Nat.le_of_ble_eq_true rfl | simp [rf_cat, Value.category]) dX13_child_16 ?_
          refine m_of hL (by omega) (by omega) ?_
          rw [hT.p hk]
          refine R.iload_n dX13_child_19 rfl ?_
          refine R.icmp_ne (tgt := 34) dX13_child_20 (by decide) (fun c9 => absurd (pIx_s zz) c9) (fun _ => ?_)
          refine R.aload_n dX13_child_23 rfl (by first | rfl | exact rfv_rf _) ?_
          refine R.iload_n dX13_child_24 rfl ?_
          refine cl_X13_97 rfl rfl (by first | exact Nat.le_of_ble_eq_true rfl | simp [rf_cat, Value.category]) dX13_child_25 ?_
          refine m_place hL hT hS hk zz ?_
          refine R.iload_n dX13_child_28 rfl ?_
          refine R.icmp_ne (tgt := 34) dX13_child_29 (by decide) (fun c9 => absurd zy c9) (fun _ => ?_)
          refine R.iload_n dX13_child_32 rfl ?_
          refine WP.ret (ov := some (.int _)) dX13_child_33 ⟨rfl, _, rfl, by first | rfl | assumption | exact nar_b01 (by assumption)⟩ ?_
          exact hy k hk zz zy
        · skip
          refine R.iload_n dX13_child_2 rfl ?_
          refine R.aload_n dX13_child_3 rfl (by first | rfl | exact rfv_rf _) ?_
          refine R.getS (hL.w) dX13_child_4 fl_X13_7 (by decide) rfl ?_
          refine R.iconst (v := nI 0) dX13_child_7 rfl ?_
          refine R.ialdN (k := 0) dX13_child_8 (by omega) (by show _ < mN M 14 0; rw [hL.n]; omega) ?_
          rw [mI_sWc]
          rw [hT.z]
          refine R.geF (tgt := 40) (nI_ge (show k < m by omega) (by have := hT.le; omega)) dX13_child_9 (by decide) ?_
          refine R.aload_n dX13_child_12 rfl (by first | rfl | exact rfv_rf _) ?_
          refine R.iload_n dX13_child_13 rfl ?_
          refine R.bipush (v := nI 9) dX13_child_14 (by decide) ?_
          refine cl_X13_68 rfl rfl (by first | exact Nat.le_of_ble_eq_true rfl | simp [rf_cat, Value.category]) dX13_child_16 ?_
          refine m_of hL (by omega) (by omega) ?_
          rw [hT.p hk]
          refine R.iload_n dX13_child_19 rfl ?_
          refine R.icmp_ne (tgt := 34) dX13_child_20 (by decide) (fun c9 => absurd (pIx_s zz) c9) (fun _ => ?_)
          refine R.aload_n dX13_child_23 rfl (by first | rfl | exact rfv_rf _) ?_
          refine R.iload_n dX13_child_24 rfl ?_
          refine cl_X13_97 rfl rfl (by first | exact Nat.le_of_ble_eq_true rfl | simp [rf_cat, Value.category]) dX13_child_25 ?_
          refine m_place hL hT hS hk zz ?_
          refine R.iload_n dX13_child_28 rfl ?_
          refine R.icmp_ne (tgt := 34) dX13_child_29 (by decide) (fun _ => ?_) (fun c9 => absurd c9 zy)
          refine R.iinc dX13_child_34 (Nat.le_of_ble_eq_true rfl) (by decide) (by first | rfl | simp [lft, rf_cat]) rfl (inc_nI _) rfl ?_
          refine R.goto (tgt := 2) dX13_child_37 (by decide) ?_
          refine ih (k + 1) (by omega) (fun c hc p q => ?_)
          by_cases y : c = k
          · subst y; exact absurd q zy
          · exact h1 c (by omega) p q
      · skip
        refine R.iload_n dX13_child_2 rfl ?_
        refine R.aload_n dX13_child_3 rfl (by first | rfl | exact rfv_rf _) ?_
        refine R.getS (hL.w) dX13_child_4 fl_X13_7 (by decide) rfl ?_
        refine R.iconst (v := nI 0) dX13_child_7 rfl ?_
        refine R.ialdN (k := 0) dX13_child_8 (by omega) (by show _ < mN M 14 0; rw [hL.n]; omega) ?_
        rw [mI_sWc]
        rw [hT.z]
        refine R.geF (tgt := 40) (nI_ge (show k < m by omega) (by have := hT.le; omega)) dX13_child_9 (by decide) ?_
        refine R.aload_n dX13_child_12 rfl (by first | rfl | exact rfv_rf _) ?_
        refine R.iload_n dX13_child_13 rfl ?_
        refine R.bipush (v := nI 9) dX13_child_14 (by decide) ?_
        refine cl_X13_68 rfl rfl (by first | exact Nat.le_of_ble_eq_true rfl | simp [rf_cat, Value.category]) dX13_child_16 ?_
        refine m_of hL (by omega) (by omega) ?_
        rw [hT.p hk]
        refine R.iload_n dX13_child_19 rfl ?_
        refine R.icmp_ne (tgt := 34) dX13_child_20 (by decide) (fun _ => ?_) (fun c9 => absurd ((hT.i hk (by omega)).mp c9) zz)
        refine R.iinc dX13_child_34 (Nat.le_of_ble_eq_true rfl) (by decide) (by first | rfl | simp [lft, rf_cat]) rfl (inc_nI _) rfl ?_
        refine R.goto (tgt := 2) dX13_child_37 (by decide) ?_
        refine ih (k + 1) (by omega) (fun c hc p q => ?_)
        by_cases y : c = k
        · subst y; exact absurd p zz
        · exact h1 c (by omega) p q
  refine R.iconst (v := nI 0) dX13_child_0 rfl ?_
  refine R.istore_n dX13_child_1 (Nat.le_of_ble_eq_true rfl) (by decide) (by first | rfl | simp [lft, rf_cat]) rfl ?_
  exact key m 0 (by omega) (fun c hc => absurd hc (Nat.not_lt_zero c))
def mxN (f : Nat → Nat) : Nat → Nat
  | 0 => 0
  | n + 1 => max (mxN f n) (f n)
theorem mxN_le {f : Nat → Nat} {h : Nat} : ∀ n, mxN f n ≤ h ↔ ∀ k, k < n → f k ≤ h := by
  intro n
  induction n with
  | zero => exact ⟨fun _ k hk => absurd hk (Nat.not_lt_zero k), fun _ => Nat.zero_le _⟩
  | succ n ih =>
    rw [mxN, Nat.max_le, ih]
    refine ⟨fun h k hk => ?_, fun h => ⟨fun k hk => h k (by omega), h n (by omega)⟩⟩
    by_cases e : k = n
    · rw [e]; exact h.2
    · exact h.1 k (by omega)
theorem mxN_m {f : Nat → Nat} {m : Nat} (hm : m ≤ 16) (h : ∀ k, k < 16 → m ≤ k → f k = 0) : mxN f 16 = mxN f m := by
  apply Nat.le_antisymm
  · refine (mxN_le 16).mpr fun k hk => ?_
    by_cases e : k < m
    · exact (mxN_le m).mp (Nat.le_refl _) k e
    · rw [h k hk (by omega)]; exact Nat.zero_le _
  · exact (mxN_le m).mpr fun k hk => (mxN_le 16).mp (Nat.le_refl _) k (by omega)
/-- the greatest depth below a crate -/
def hgt (Y : Yd) : Nat → Nat → Nat
  | 0, _ => 0
  | n + 1, i => mxN (fun k => if yP Y k = some i then 1 + hgt Y n k else 0) 16
theorem hgt_n (Y : Yd) : ∀ n i, hgt Y n i ≤ n := by
  intro n
  induction n with
  | zero => intro i; exact Nat.le_refl _
  | succ n ih =>
    intro i
    rw [hgt, mxN_le]
    intro k _
    have := ih k
    split <;> omega
theorem hgt_le {Y : Yd} (hP : ∀ i j, i < 16 → yP Y i = some j → j < 16) : ∀ (n i h : Nat), (∀ x, x < 16 → itO (yP Y) n (some x) ≠ some i) → i < 16 → (hgt Y n i ≤ h ↔ ∀ x k, x < 16 → itO (yP Y) k (some x) = some i → k ≤ h) := by
  have hP' : ∀ i, i < 16 → ∀ j, yP Y i = some j → j < 16 := fun i hi j e => hP i j hi e
  intro n
  induction n with
  | zero => intro i h hN hi; exact absurd rfl (hN i hi)
  | succ n ih =>
    intro i h hN hi
    rw [hgt, mxN_le]
    constructor
    · intro H x k hx e
      cases k with
      | zero => exact Nat.zero_le _
      | succ k =>
        rw [it_a] at e
        cases e1 : itO (yP Y) k (some x) with
        | none => rw [e1] at e; cases e
        | some y =>
          rw [e1] at e
          have hy := it_lt hP' k x y hx e1
          have e2 : yP Y y = some i := e
          have h2 := H y hy
          rw [if_pos e2] at h2
          have := (ih y (h - 1) (fun z hz q => hN z hz (it_st q e2)) hy).mp (by omega) x k hx e1
          omega
    · intro H y hy
      by_cases e2 : yP Y y = some i
      · rw [if_pos e2]
        have h1 : 1 ≤ h := H y 1 hy (by show itO (yP Y) 0 (yP Y y) = _; rw [e2]; rfl)
        have := (ih y (h - 1) (fun z hz q => hN z hz (it_st q e2)) hy).mpr fun x k hx e => by
          have := H x (k + 1) hx (it_st e e2)
          omega
        omega
      · rw [if_neg e2]; exact Nat.zero_le _
theorem dp_s {Y : Yd} {x y : Nat} (hA : Acy Y) (hx : x < 16) (hy : y < 16) (e : yP Y x = some y) : dp Y x = dp Y y + 1 := by
  have h1 := hA x hx
  unfold dp
  rw [depO_st 5 6 _ h1 (acyO_mo 5 _ _ h1), e]
  rfl
theorem dp_it {Y : Yd} (hA : Acy Y) (hP : ∀ i j, i < 16 → yP Y i = some j → j < 16) {t : Nat} : ∀ k x, x < 16 → itO (yP Y) k (some x) = some t → dp Y x = dp Y t + k := by
  intro k
  induction k with
  | zero => intro x _ e; cases e; rfl
  | succ k ih =>
    intro x hx e
    rw [itO] at e
    cases e1 : yP Y x with
    | none => rw [e1] at e; rw [it_n] at e; cases e
    | some y =>
      rw [e1] at e
      have hy := hP x y hx e1
      rw [dp_s hA hx hy e1, ih y hy e]
      omega
theorem lvN_le {Y : Yd} {t h : Nat} : ∀ k i a, a ≤ h → (∀ j, i ≤ j → j < i + k → ins Y j t = true → dp Y j - dp Y t ≤ h) → lvN Y t k i a ≤ h := by
  intro k
  induction k with
  | zero => intro i a ha _; exact ha
  | succ k ih =>
    intro i a ha H
    rw [lvN]
    refine ih (i + 1) _ ?_ (fun j h1 h2 => H j (by omega) (by omega))
    by_cases z : ins Y i t = true
    · rw [if_pos z]; exact Nat.max_le.mpr ⟨ha, H i (Nat.le_refl _) (by omega) z⟩
    · rw [if_neg z]; exact ha
theorem it_6 {Y : Yd} (hA : Acy Y) {x : Nat} (hx : x < 16) : itO (yP Y) 6 (some x) = none := (acy_i 5 _).mp (hA x hx)
theorem hgt_lv {Y : Yd} (hA : Acy Y) (hP : ∀ i j, i < 16 → yP Y i = some j → j < 16) {i : Nat} (hi : i < 16) : hgt Y 6 i = lvN Y i 16 0 0 := by
  have hN : ∀ x, x < 16 → itO (yP Y) 6 (some x) ≠ some i := fun x hx e => by rw [it_6 hA hx] at e; cases e
  apply Nat.le_antisymm
  · refine (hgt_le hP 6 i _ hN hi).mpr fun x k hx e => ?_
    obtain ⟨-, -, -, h4⟩ := lvF_N hA hi 16 0 0 (by omega) (by omega)
    have hk : k < 6 := Decidable.byContradiction fun q => by
      have := it_le (it_6 hA hx) (by omega : 6 ≤ k)
      rw [this] at e; cases e
    have := h4 x (Nat.zero_le _) hx ((inO_i 6 _).mpr ⟨k, hk, e⟩)
    have := dp_it hA hP k x hx e
    omega
  · refine lvN_le 16 0 0 (Nat.zero_le _) fun j _ hj z => ?_
    obtain ⟨k, hk, e⟩ := (inO_i 6 _).mp z
    have h1 := (hgt_le hP 6 i (hgt Y 6 i) hN hi).mp (Nat.le_refl _) j k (by omega) e
    have := dp_it hA hP k j (by omega) e
    omega
theorem nI_1a (n : Nat) : nI 1 + nI n = nI (1 + n) := by
  unfold nI
  rw [Int32.ofNat_add]
set_option maxHeartbeats 2000000 in
set_option maxRecDepth 4000 in
theorem m_height {Y : Yd} {m : Nat} {w : Nat → Int32} {M : Mem} {d : Nat} (hL : ML M) (hT : TW Y m w) : ∀ (n i : Nat), n ≤ 6 → i < 16 → (∀ x, x < 16 → itO (yP Y) n (some x) ≠ some i) → ∀ {Q : Out → Mem → Prop}, Q (.inl (some (.int (nI (hgt Y n i))))) (sW M w) → WPc (d + n + 2) mX13_height [.ref (rf 11 0), .int (nI i)] (sW M w) Q := by
  intro n
  induction n with
  | zero => intro i _ hi h; exact absurd rfl (h i hi)
  | succ n ihn =>
    intro i hn6 hi hN Q hq
    have ihn := fun i => ihn i (by omega)
    refine WPc.of (by decide +kernel) (Nat.le_of_ble_eq_true rfl) rfl ?_
    have hm16 := hT.le
    have mb : ∀ k, mxN (fun x => if yP Y x = some i then 1 + hgt Y n x else 0) k ≤ n + 1 := fun k => (mxN_le k).mpr fun x _ => by
      show (if yP Y x = some i then 1 + hgt Y n x else 0) ≤ n + 1
      have := hgt_n Y n x
      split <;> omega
    rw [hgt, mxN_m hm16 (fun k hk hm => if_neg fun q => by have := (hT.2.2.2 k i hk q).1; omega)] at hq
    have key : ∀ (f k : Nat), k + f = m → Q (.inl (some (.int (nI (mxN (fun x => if yP Y x = some i then 1 + hgt Y n x else 0) m))))) (sW M w) → WP mX13_height (d + (n + 1) + 2) 4 [.ref (rf 11 0), .int (nI i), .int (nI (mxN (fun x => if yP Y x = some i then 1 + hgt Y n x else 0) k)), .int (nI k)] [] (sW M w) Q := by
      intro f
      induction f with
      | zero =>
        intro k hk hq2
        have ek : k = m := by omega
        subst ek
        refine R.iload_n dX13_height_4 rfl ?_
        refine R.aload_n dX13_height_5 rfl (by first | rfl | exact rfv_rf _) ?_
        refine R.getS (hL.w) dX13_height_6 fl_X13_7 (by decide) rfl ?_
        refine R.iconst (v := nI 0) dX13_height_9 rfl ?_
        refine R.ialdN (k := 0) dX13_height_10 (by omega) (by show _ < mN M 14 0; rw [hL.n]; omega) ?_
        rw [mI_sWc]
        rw [hT.z]
        refine R.geT (tgt := 43) (Int32.le_refl _) dX13_height_11 (by decide) ?_
        refine R.iload_n dX13_height_43 rfl ?_
        refine WP.ret (ov := some (.int _)) dX13_height_44 ⟨rfl, _, rfl, by first | rfl | assumption | exact nar_b01 (by assumption)⟩ ?_
        exact hq2
      | succ f ih =>
        intro k hf hq2
        have hk : k < m := by omega
        by_cases zz : yP Y k = some i
        · skip
          refine R.iload_n dX13_height_4 rfl ?_
          refine R.aload_n dX13_height_5 rfl (by first | rfl | exact rfv_rf _) ?_
          refine R.getS (hL.w) dX13_height_6 fl_X13_7 (by decide) rfl ?_
          refine R.iconst (v := nI 0) dX13_height_9 rfl ?_
          refine R.ialdN (k := 0) dX13_height_10 (by omega) (by show _ < mN M 14 0; rw [hL.n]; omega) ?_
          rw [mI_sWc]
          rw [hT.z]
          refine R.geF (tgt := 43) (nI_ge (show k < m by omega) (by have := hT.le; omega)) dX13_height_11 (by decide) ?_
          refine R.aload_n dX13_height_14 rfl (by first | rfl | exact rfv_rf _) ?_
          refine R.iload_n dX13_height_15 rfl ?_
          refine R.bipush (v := nI 9) dX13_height_16 (by decide) ?_
          refine cl_X13_68 rfl rfl (by first | exact Nat.le_of_ble_eq_true rfl | simp [rf_cat, Value.category]) dX13_height_18 ?_
          refine m_of hL (by omega) (by omega) ?_
          rw [hT.p hk]
          refine R.iload_n dX13_height_21 rfl ?_
          refine R.icmp_ne (tgt := 37) dX13_height_22 (by decide) (fun c9 => absurd (pIx_s zz) c9) (fun _ => ?_)
          refine R.iload_n dX13_height_25 rfl ?_
          refine R.iconst (v := nI 1) dX13_height_26 rfl ?_
          refine R.aload_n dX13_height_27 rfl (by first | rfl | exact rfv_rf _) ?_
          refine R.iload_n dX13_height_28 rfl ?_
          refine cl_X13_85 rfl rfl (by first | exact Nat.le_of_ble_eq_true rfl | simp [rf_cat, Value.category]) dX13_height_29 ?_
          refine ihn k (by omega) (fun x hx e2 => hN x hx (it_st e2 zz)) ?_
          refine R.iadd dX13_height_32 ?_
          rw [nI_1a]
          refine cl_X13_88 rfl rfl (by first | exact Nat.le_of_ble_eq_true rfl | simp [rf_cat, Value.category]) dX13_height_33 ?_
          refine s_max ?_
          rw [fmax_nI (by have := mb k; omega) (by have := hgt_n Y n k; omega)]
          refine R.istore_n dX13_height_36 (Nat.le_of_ble_eq_true rfl) (by decide) (by first | rfl | simp [lft, rf_cat]) rfl ?_
          refine R.iinc dX13_height_37 (Nat.le_of_ble_eq_true rfl) (by decide) (by first | rfl | simp [lft, rf_cat]) rfl (inc_nI _) rfl ?_
          refine R.goto (tgt := 4) dX13_height_40 (by decide) ?_
          rw [show max (mxN (fun x => if yP Y x = some i then 1 + hgt Y n x else 0) k) (1 + hgt Y n k) = mxN (fun x => if yP Y x = some i then 1 + hgt Y n x else 0) (k + 1) by rw [mxN, if_pos zz]]
          exact ih (k + 1) (by omega) hq2
        · skip
          refine R.iload_n dX13_height_4 rfl ?_
          refine R.aload_n dX13_height_5 rfl (by first | rfl | exact rfv_rf _) ?_
          refine R.getS (hL.w) dX13_height_6 fl_X13_7 (by decide) rfl ?_
          refine R.iconst (v := nI 0) dX13_height_9 rfl ?_
          refine R.ialdN (k := 0) dX13_height_10 (by omega) (by show _ < mN M 14 0; rw [hL.n]; omega) ?_
          rw [mI_sWc]
          rw [hT.z]
          refine R.geF (tgt := 43) (nI_ge (show k < m by omega) (by have := hT.le; omega)) dX13_height_11 (by decide) ?_
          refine R.aload_n dX13_height_14 rfl (by first | rfl | exact rfv_rf _) ?_
          refine R.iload_n dX13_height_15 rfl ?_
          refine R.bipush (v := nI 9) dX13_height_16 (by decide) ?_
          refine cl_X13_68 rfl rfl (by first | exact Nat.le_of_ble_eq_true rfl | simp [rf_cat, Value.category]) dX13_height_18 ?_
          refine m_of hL (by omega) (by omega) ?_
          rw [hT.p hk]
          refine R.iload_n dX13_height_21 rfl ?_
          refine R.icmp_ne (tgt := 37) dX13_height_22 (by decide) (fun _ => ?_) (fun c9 => absurd ((hT.i hk (by omega)).mp c9) zz)
          refine R.iinc dX13_height_37 (Nat.le_of_ble_eq_true rfl) (by decide) (by first | rfl | simp [lft, rf_cat]) rfl (inc_nI _) rfl ?_
          refine R.goto (tgt := 4) dX13_height_40 (by decide) ?_
          rw [show mxN (fun x => if yP Y x = some i then 1 + hgt Y n x else 0) k = mxN (fun x => if yP Y x = some i then 1 + hgt Y n x else 0) (k + 1) by rw [mxN, if_neg zz]; exact (Nat.max_eq_left (Nat.zero_le _)).symm]
          exact ih (k + 1) (by omega) hq2
    refine R.iconst (v := nI 0) dX13_height_0 rfl ?_
    refine R.istore_n dX13_height_1 (Nat.le_of_ble_eq_true rfl) (by decide) (by first | rfl | simp [lft, rf_cat]) rfl ?_
    refine R.iconst (v := nI 0) dX13_height_2 rfl ?_
    refine R.istore_n dX13_height_3 (Nat.le_of_ble_eq_true rfl) (by decide) (by first | rfl | simp [lft, rf_cat]) rfl ?_
    exact key m 0 (by omega) hq
