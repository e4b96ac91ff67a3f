/-! the model's sums -/
/-- crates and buyers not in use are blank -/
def BZ (Y : Yd) (m b : Nat) : Prop := (∀ i, i < 16 → m ≤ i → yC Y i 8 = 0) ∧ ∀ j, j < 6 → b ≤ j → yB Y j 2 = 0 ∧ yB Y j 4 = 0
theorem stF_z {Y : Yd} : ∀ (n i : Nat) (a : Int32), (∀ j, i ≤ j → j < i + n → yC Y j 8 = 0) → stF Y n i a = a := by
  intro n
  induction n with
  | zero => intro i a _; rfl
  | succ n ih =>
    intro i a h
    rw [stF, h i (Nat.le_refl _) (by omega), Int32.add_zero]
    exact ih (i + 1) a fun j h1 h2 => h j (by omega) (by omega)
theorem moF_z {Y : Yd} : ∀ (n i : Nat) (a : Int32), (∀ j, i ≤ j → j < i + n → yB Y j 2 = 0) → moF Y n i a = a := by
  intro n
  induction n with
  | zero => intro i a _; rfl
  | succ n ih =>
    intro i a h
    rw [moF, h i (Nat.le_refl _) (by omega), Int32.add_zero]
    exact ih (i + 1) a fun j h1 h2 => h j (by omega) (by omega)
theorem trF_z {Y : Yd} : ∀ (n i : Nat) (a : Int32), (∀ j, i ≤ j → j < i + n → yB Y j 4 = 0) → trF Y n i a = a := by
  intro n
  induction n with
  | zero => intro i a _; rfl
  | succ n ih =>
    intro i a h
    rw [trF, h i (Nat.le_refl _) (by omega), Int32.add_zero]
    exact ih (i + 1) a fun j h1 h2 => h j (by omega) (by omega)
set_option maxHeartbeats 1000000 in
set_option maxRecDepth 4000 in
theorem m_stored {d m b K : Nat} {Y : Yd} {w : Nat → Int32} {M : Mem} {Q : Out → Mem → Prop} (hL : ML M) (h : RW Y m b K w) (hb5 : yF Y 5 = nI b) (hz : BZ Y m b) (hq : Q (.inl (some (.int (stF Y 16 0 0)))) (sW M w)) : WPc (d + 1) mX13_stored [.ref (rf 11 0)] (sW M w) Q := by
  refine WPc.of (by decide +kernel) (Nat.le_of_ble_eq_true rfl) rfl ?_
  have hm16 := h.t.le
  have hb6 := h.bl
  have key : ∀ (f k : Nat) (a : Int32), k + f = m → Q (.inl (some (.int (stF Y (16 - k) k a)))) (sW M w) → WP mX13_stored (d + 1) 4 [.ref (rf 11 0), .int a, .int (nI k)] [] (sW M w) Q := by
    intro f
    induction f with
    | zero =>
      intro k a hk hq2
      have ek : k = m := by omega
      subst ek
      rw [stF_z _ _ _ (fun j h1 h2 => hz.1 j (by omega) h1)] at hq2
      refine R.iload_n dX13_stored_4 rfl ?_
      refine R.aload_n dX13_stored_5 rfl (by first | rfl | exact rfv_rf _) ?_
      refine R.getS (hL.w) dX13_stored_6 fl_X13_7 (by decide) rfl ?_
      refine R.iconst (v := nI 0) dX13_stored_9 rfl ?_
      refine R.ialdN (k := 0) dX13_stored_10 (by omega) (by show _ < mN M 14 0; rw [hL.n]; omega) ?_
      rw [mI_sWc]
      rw [h.t.z]
      refine R.geT (tgt := 30) (Int32.le_refl _) dX13_stored_11 (by decide) ?_
      refine R.iload_n dX13_stored_30 rfl ?_
      refine WP.ret (ov := some (.int _)) dX13_stored_31 ⟨rfl, _, rfl, by first | rfl | assumption | exact nar_b01 (by assumption)⟩ ?_
      exact hq2
    | succ f ih =>
      intro k a hf hq2
      have hk : k < m := by omega
      rw [show 16 - k = (16 - (k + 1)) + 1 by omega, stF] at hq2
      refine R.iload_n dX13_stored_4 rfl ?_
      refine R.aload_n dX13_stored_5 rfl (by first | rfl | exact rfv_rf _) ?_
      refine R.getS (hL.w) dX13_stored_6 fl_X13_7 (by decide) rfl ?_
      refine R.iconst (v := nI 0) dX13_stored_9 rfl ?_
      refine R.ialdN (k := 0) dX13_stored_10 (by omega) (by show _ < mN M 14 0; rw [hL.n]; omega) ?_
      rw [mI_sWc]
      rw [h.t.z]
      refine R.geF (tgt := 30) (nI_ge (show k < m by omega) (by omega)) dX13_stored_11 (by decide) ?_
      refine R.iload_n dX13_stored_14 rfl ?_
      refine R.aload_n dX13_stored_15 rfl (by first | rfl | exact rfv_rf _) ?_
      refine R.iload_n dX13_stored_16 rfl ?_
      refine R.bipush (v := nI 12) dX13_stored_17 (by decide) ?_
      refine cl_X13_68 rfl rfl (by first | exact Nat.le_of_ble_eq_true rfl | simp [rf_cat, Value.category]) dX13_stored_19 ?_
      refine m_of hL (by omega) (by omega) ?_
      rw [(h.d (by omega : k < 16)).1]
      refine R.iadd dX13_stored_22 ?_
      refine R.istore_n dX13_stored_23 (Nat.le_of_ble_eq_true rfl) (by decide) (by first | rfl | simp [lft, rf_cat]) rfl ?_
      refine R.iinc dX13_stored_24 (Nat.le_of_ble_eq_true rfl) (by decide) (by first | rfl | simp [lft, rf_cat]) rfl (inc_nI _) rfl ?_
      refine R.goto (tgt := 4) dX13_stored_27 (by decide) ?_
      exact ih (k + 1) _ (by omega) hq2
  refine R.iconst (v := 0) dX13_stored_0 rfl ?_
  refine R.istore_n dX13_stored_1 (Nat.le_of_ble_eq_true rfl) (by decide) (by first | rfl | simp [lft, rf_cat]) rfl ?_
  refine R.iconst (v := nI 0) dX13_stored_2 rfl ?_
  refine R.istore_n dX13_stored_3 (Nat.le_of_ble_eq_true rfl) (by decide) (by first | rfl | simp [lft, rf_cat]) rfl ?_
  exact key m 0 0 (by omega) hq
set_option maxHeartbeats 1000000 in
set_option maxRecDepth 4000 in
theorem m_money {d m b K : Nat} {Y : Yd} {w : Nat → Int32} {M : Mem} {Q : Out → Mem → Prop} (hL : ML M) (h : RW Y m b K w) (hb5 : yF Y 5 = nI b) (hz : BZ Y m b) (hq : Q (.inl (some (.int (moF Y 6 0 0)))) (sW M w)) : WPc (d + 1) mX13_allMoney [.ref (rf 11 0)] (sW M w) Q := by
  refine WPc.of (by decide +kernel) (Nat.le_of_ble_eq_true rfl) rfl ?_
  have hm16 := h.t.le
  have hb6 := h.bl
  have key : ∀ (f k : Nat) (a : Int32), k + f = b → Q (.inl (some (.int (moF Y (6 - k) k a)))) (sW M w) → WP mX13_allMoney (d + 1) 4 [.ref (rf 11 0), .int a, .int (nI k)] [] (sW M w) Q := by
    intro f
    induction f with
    | zero =>
      intro k a hk hq2
      have ek : k = b := by omega
      subst ek
      rw [moF_z _ _ _ (fun j h1 h2 => (hz.2 j (by omega) h1).1)] at hq2
      refine R.iload_n dX13_allMoney_4 rfl ?_
      refine R.aload_n dX13_allMoney_5 rfl (by first | rfl | exact rfv_rf _) ?_
      refine R.getS (hL.w) dX13_allMoney_6 fl_X13_7 (by decide) rfl ?_
      refine R.iconst (v := nI 1) dX13_allMoney_9 rfl ?_
      refine R.ialdN (k := 1) dX13_allMoney_10 (by omega) (by show _ < mN M 14 0; rw [hL.n]; omega) ?_
      rw [mI_sWc]
      rw [h.h.1, hb5]
      refine R.geT (tgt := 30) (Int32.le_refl _) dX13_allMoney_11 (by decide) ?_
      refine R.iload_n dX13_allMoney_30 rfl ?_
      refine WP.ret (ov := some (.int _)) dX13_allMoney_31 ⟨rfl, _, rfl, by first | rfl | assumption | exact nar_b01 (by assumption)⟩ ?_
      exact hq2
    | succ f ih =>
      intro k a hf hq2
      have hk : k < b := by omega
      rw [show 6 - k = (6 - (k + 1)) + 1 by omega, moF] at hq2
      refine R.iload_n dX13_allMoney_4 rfl ?_
      refine R.aload_n dX13_allMoney_5 rfl (by first | rfl | exact rfv_rf _) ?_
      refine R.getS (hL.w) dX13_allMoney_6 fl_X13_7 (by decide) rfl ?_
      refine R.iconst (v := nI 1) dX13_allMoney_9 rfl ?_
      refine R.ialdN (k := 1) dX13_allMoney_10 (by omega) (by show _ < mN M 14 0; rw [hL.n]; omega) ?_
      rw [mI_sWc]
      rw [h.h.1, hb5]
      refine R.geF (tgt := 30) (nI_ge (show k < b by omega) (by omega)) dX13_allMoney_11 (by decide) ?_
      refine R.iload_n dX13_allMoney_14 rfl ?_
      refine R.aload_n dX13_allMoney_15 rfl (by first | rfl | exact rfv_rf _) ?_
      refine R.iload_n dX13_allMoney_16 rfl ?_
      refine R.bipush (v := nI 7) dX13_allMoney_17 (by decide) ?_
      refine cl_X13_154 rfl rfl (by first | exact Nat.le_of_ble_eq_true rfl | simp [rf_cat, Value.category]) dX13_allMoney_19 ?_
      refine m_ofB hL (by omega) (by omega) ?_
      rw [(h.bu (by omega : k < 6)).1]
      refine R.iadd dX13_allMoney_22 ?_
      refine R.istore_n dX13_allMoney_23 (Nat.le_of_ble_eq_true rfl) (by decide) (by first | rfl | simp [lft, rf_cat]) rfl ?_
      refine R.iinc dX13_allMoney_24 (Nat.le_of_ble_eq_true rfl) (by decide) (by first | rfl | simp [lft, rf_cat]) rfl (inc_nI _) rfl ?_
      refine R.goto (tgt := 4) dX13_allMoney_27 (by decide) ?_
      exact ih (k + 1) _ (by omega) hq2
  refine R.iconst (v := 0) dX13_allMoney_0 rfl ?_
  refine R.istore_n dX13_allMoney_1 (Nat.le_of_ble_eq_true rfl) (by decide) (by first | rfl | simp [lft, rf_cat]) rfl ?_
  refine R.iconst (v := nI 0) dX13_allMoney_2 rfl ?_
  refine R.istore_n dX13_allMoney_3 (Nat.le_of_ble_eq_true rfl) (by decide) (by first | rfl | simp [lft, rf_cat]) rfl ?_
  exact key b 0 0 (by omega) hq
theorem no_self {Y : Yd} {m n j : Nat} {w : Nat → Int32} (hT : TW Y m w) (hA : Acy Y) (hj : j < 16) (q : inO n (yP Y) (yP Y j) j = true) : False := by
  obtain ⟨a, _, e⟩ := (inO_i n _).mp q
  have h1 : itO (yP Y) (a + 1) (some j) = some j := e
  have hm := hT.le
  have := it_un (P := yP Y) (N := 16) (fun i hi k e => by have := (hT.2.2.2 i k hi e).2; omega) (fun i hi => it_6 hA hi) hj h1 (show itO (yP Y) 0 (some j) = some j from rfl)
  omega
theorem sA_sW {M : Mem} {w g : Nat → Int32} {v : Nat} (hv : ¬ v = 0) : sA (sW M w) v g = sW (sA M v g) w := by
  refine Prod.ext ?_ rfl
  funext k i
  show (if k = 14 ∧ i = v then g else if k = 14 ∧ i = 0 then w else M.1 k i) = (if k = 14 ∧ i = 0 then w else if k = 14 ∧ i = v then g else M.1 k i)
  by_cases z : k = 14 ∧ i = v
  · rw [if_pos z, if_neg (fun q => hv (z.2.symm.trans q.2)), if_pos z]
  · rw [if_neg z, if_neg z]
theorem m_ownA {d c : Nat} {w g : Nat → Int32} {M : Mem} {Q : Out → Mem → Prop} (hL : ML M) (hc : c < 16) (hq : Q (.inl (some (.int (w (16 + 18 * c + 7) + w (16 + 18 * c + 8))))) (sA (sW M w) 9 g)) : WPc (d + 1) mX13_ownWeight [.ref (rf 11 0), .int (nI c)] (sA (sW M w) 9 g) Q := by
  rw [sA_sW (by omega)] at hq ⊢
  exact m_own (M := sA M 9 g) hL hc hq
theorem m_ofA {d c f : Nat} {w g : Nat → Int32} {M : Mem} {Q : Out → Mem → Prop} (hL : ML M) (hc : c < 16) (hf : f < 18) (hq : Q (.inl (some (.int (w (16 + 18 * c + f))))) (sA (sW M w) 9 g)) : WPc d mX13_of [.ref (rf 11 0), .int (nI c), .int (nI f)] (sA (sW M w) 9 g) Q := by
  rw [sA_sW (by omega)] at hq ⊢
  exact m_of (M := sA M 9 g) hL hc hf hq
set_option maxHeartbeats 2000000 in
set_option maxRecDepth 4000 in
theorem m_wRight {d m b K : Nat} {Y : Yd} {w : Nat → Int32} {M : Mem} {Q : Out → Mem → Prop} (hL : ML M) (h : RW Y m b K w) (hG : LG Y) (hA : Acy Y) (hq : ∀ g, Q (.inl (some (.int 1))) (sA (sW M w) 9 g)) : WPc (d + 9) mX13_areWeightsRight [.ref (rf 11 0)] (sW M w) Q := by
  refine WPc.of (by decide +kernel) (Nat.le_of_ble_eq_true rfl) rfl ?_
  have hT := h.t
  have hm16 := h.t.le
  have hW : ∀ k, k < 16 → w (16 + 18 * k + 7) + w (16 + 18 * k + 8) = yC Y k 2 + yC Y k 3 := fun k hk => by rw [(h.g hk).1, (h.g hk).2.1]
  have sums : ∀ x, x < m → sm (fun y => if inO 6 (yP Y) (some y) x = true then yC Y y 2 + yC Y y 3 else 0) m = yC Y x 4 := by
    intro x hx
    rw [sm_un (P := yP Y) (N := 16) (fun i hi k e => by have := (hT.2.2.2 i k hi e).2; omega) (fun i hi => it_6 hA hi) (own := fun i => yC Y i 2 + yC Y i 3) (g := fun i => yC Y i 4) hG (by omega)]
    refine (sm_m hm16 fun k hk hm => ?_).symm
    refine if_neg fun q => ?_
    obtain ⟨a, _, e⟩ := (inO_i 6 _).mp q
    cases a with
    | zero => cases e; omega
    | succ a =>
      rw [itO] at e
      cases e1 : yP Y k with
      | none => rw [e1, it_n] at e; cases e
      | some y => have := (hT.2.2.2 k y hk e1).1; omega
  have l3 : ∀ (f k : Nat) (g : Nat → Int32) (v : Value), k + f = m → (∀ x, x < m → g x = yC Y x 4) → WP mX13_areWeightsRight (d + 9) 77 [.ref (rf 11 0), .int (nI k), v] [] (sA (sW M w) 9 g) Q := by
    intro f
    induction f with
    | zero =>
      intro k g v hk hg
      have ek : k = m := by omega
      subst ek
      refine R.iload_n dX13_areWeightsRight_77 rfl ?_
      refine R.aload_n dX13_areWeightsRight_78 rfl (by first | rfl | exact rfv_rf _) ?_
      refine R.getS (hL.w) dX13_areWeightsRight_79 fl_X13_7 (by decide) rfl ?_
      refine R.iconst (v := nI 0) dX13_areWeightsRight_82 rfl ?_
      refine R.ialdN (k := 0) dX13_areWeightsRight_83 (by omega) (by show _ < mN M 14 0; rw [hL.n]; omega) ?_
      rw [mI_sAn _ _ _ (by omega), mI_sWc, hT.z]
      refine R.geT (tgt := 109) (Int32.le_refl _) dX13_areWeightsRight_84 (by decide) ?_
      refine R.iconst (v := 1) dX13_areWeightsRight_109 rfl ?_
      refine WP.ret (ov := some (.int _)) dX13_areWeightsRight_110 ⟨rfl, _, rfl, by first | rfl | assumption | exact nar_b01 (by assumption)⟩ ?_
      exact hq g
    | succ f ih =>
      intro k g v hf hg
      have hk : k < m := by omega
      refine R.iload_n dX13_areWeightsRight_77 rfl ?_
      refine R.aload_n dX13_areWeightsRight_78 rfl (by first | rfl | exact rfv_rf _) ?_
      refine R.getS (hL.w) dX13_areWeightsRight_79 fl_X13_7 (by decide) rfl ?_
      refine R.iconst (v := nI 0) dX13_areWeightsRight_82 rfl ?_
      refine R.ialdN (k := 0) dX13_areWeightsRight_83 (by omega) (by show _ < mN M 14 0; rw [hL.n]; omega) ?_
      rw [mI_sAn _ _ _ (by omega), mI_sWc, hT.z]
      refine R.geF (tgt := 109) (nI_ge (show k < m by omega) (by omega)) dX13_areWeightsRight_84 (by decide) ?_
      refine R.aload_n dX13_areWeightsRight_87 rfl (by first | rfl | exact rfv_rf _) ?_
      refine R.getS (hL.1.2.2.2.2.2.2.2.2.2.1) dX13_areWeightsRight_88 fl_X13_41 (by decide) rfl ?_
      refine R.iload_n dX13_areWeightsRight_91 rfl ?_
      refine R.ialdN (k := k) dX13_areWeightsRight_92 (by omega) (by show _ < mN M 14 9; rw [hL.2.2.2.2.2.2.2.2.2.2.1]; omega) ?_
      rw [mI_sA, hg k hk]
      refine R.aload_n dX13_areWeightsRight_93 rfl (by first | rfl | exact rfv_rf _) ?_
      refine R.iload_n dX13_areWeightsRight_94 rfl ?_
      refine cl_X13_82 rfl rfl (by first | exact Nat.le_of_ble_eq_true rfl | simp [rf_cat, Value.category]) dX13_areWeightsRight_95 ?_
      rw [sA_sW (by omega)]
      refine m_gr (d := d) (M := sA M 9 g) hL h hG hA (by omega) ?_
      rw [← sA_sW (by omega)]
      refine R.icmp_eq (tgt := 103) dX13_areWeightsRight_98 (by decide) (fun _ => ?_) (fun c9 => absurd rfl c9)
      refine R.iinc dX13_areWeightsRight_103 (Nat.le_of_ble_eq_true rfl) (by decide) (by first | rfl | simp [lft, rf_cat]) rfl (inc_nI _) rfl ?_
      refine R.goto (tgt := 77) dX13_areWeightsRight_106 (by decide) ?_
      exact ih (k + 1) g _ (by omega) hg
  have l2 : ∀ (f k : Nat) (g : Nat → Int32) (v : Value), k + f = m → (∀ x, x < m → g x = sm (fun y => if inO 6 (yP Y) (some y) x = true then yC Y y 2 + yC Y y 3 else 0) k) → WP mX13_areWeightsRight (d + 9) 27 [.ref (rf 11 0), .int (nI k), v] [] (sA (sW M w) 9 g) Q := by
    intro f
    induction f with
    | zero =>
      intro k g v hk hg
      have ek : k = m := by omega
      subst ek
      refine R.iload_n dX13_areWeightsRight_27 rfl ?_
      refine R.aload_n dX13_areWeightsRight_28 rfl (by first | rfl | exact rfv_rf _) ?_
      refine R.getS (hL.w) dX13_areWeightsRight_29 fl_X13_7 (by decide) rfl ?_
      refine R.iconst (v := nI 0) dX13_areWeightsRight_32 rfl ?_
      refine R.ialdN (k := 0) dX13_areWeightsRight_33 (by omega) (by show _ < mN M 14 0; rw [hL.n]; omega) ?_
      rw [mI_sAn _ _ _ (by omega), mI_sWc, hT.z]
      refine R.geT (tgt := 75) (Int32.le_refl _) dX13_areWeightsRight_34 (by decide) ?_
      refine R.iconst (v := nI 0) dX13_areWeightsRight_75 rfl ?_
      refine R.istore_n dX13_areWeightsRight_76 (Nat.le_of_ble_eq_true rfl) (by decide) (by first | rfl | simp [lft, rf_cat]) rfl ?_
      exact l3 k 0 g _ (by omega) (fun x hx => by rw [hg x hx]; exact sums x hx)
    | succ f ih =>
      intro k g v hf hg
      have hk : k < m := by omega
      have inn : ∀ (n : Nat) (o : Option Nat) (g : Nat → Int32), acyO n (yP Y) o → (∀ j, o = some j → j < m) → (∀ x, x < m → g x + (if inO n (yP Y) o x = true then yC Y k 2 + yC Y k 3 else 0) = sm (fun y => if inO 6 (yP Y) (some y) x = true then yC Y y 2 + yC Y y 3 else 0) (k + 1)) → (∀ g2, (∀ x, x < m → g2 x = sm (fun y => if inO 6 (yP Y) (some y) x = true then yC Y y 2 + yC Y y 3 else 0) (k + 1)) → WP mX13_areWeightsRight (d + 9) 27 [.ref (rf 11 0), .int (nI (k + 1)), .int (-1)] [] (sA (sW M w) 9 g2) Q) → WP mX13_areWeightsRight (d + 9) 39 [.ref (rf 11 0), .int (nI k), .int (px o)] [] (sA (sW M w) 9 g) Q := by
        intro n
        induction n with
        | zero =>
          intro o g hac hb hg kq
          cases hac
          have hg2 : ∀ x, x < m → g x = sm (fun y => if inO 6 (yP Y) (some y) x = true then yC Y y 2 + yC Y y 3 else 0) (k + 1) := fun x hx => by rw [← hg x hx]; exact (az _).symm
          show WP mX13_areWeightsRight (d + 9) 39 [.ref (rf 11 0), .int (nI k), .int (-1)] [] (sA (sW M w) 9 g) Q
          refine R.iload_n dX13_areWeightsRight_39 rfl ?_
          refine R.iconst (v := (-1)) dX13_areWeightsRight_40 rfl ?_
          refine R.icmp_eq (tgt := 69) dX13_areWeightsRight_41 (by decide) (fun _ => ?_) (fun c9 => absurd rfl c9)
          refine R.iinc dX13_areWeightsRight_69 (Nat.le_of_ble_eq_true rfl) (by decide) (by first | rfl | simp [lft, rf_cat]) rfl (inc_nI _) rfl ?_
          refine R.goto (tgt := 27) dX13_areWeightsRight_72 (by decide) ?_
          exact kq g hg2
        | succ n ihn =>
          intro o g hac hb hg kq
          cases o with
          | none =>
            have hg2 : ∀ x, x < m → g x = sm (fun y => if inO 6 (yP Y) (some y) x = true then yC Y y 2 + yC Y y 3 else 0) (k + 1) := fun x hx => by rw [← hg x hx]; exact (az _).symm
            show WP mX13_areWeightsRight (d + 9) 39 [.ref (rf 11 0), .int (nI k), .int (-1)] [] (sA (sW M w) 9 g) Q
            refine R.iload_n dX13_areWeightsRight_39 rfl ?_
            refine R.iconst (v := (-1)) dX13_areWeightsRight_40 rfl ?_
            refine R.icmp_eq (tgt := 69) dX13_areWeightsRight_41 (by decide) (fun _ => ?_) (fun c9 => absurd rfl c9)
            refine R.iinc dX13_areWeightsRight_69 (Nat.le_of_ble_eq_true rfl) (by decide) (by first | rfl | simp [lft, rf_cat]) rfl (inc_nI _) rfl ?_
            refine R.goto (tgt := 27) dX13_areWeightsRight_72 (by decide) ?_
            exact kq g hg2
          | some j =>
            have hjm := hb j rfl
            show WP mX13_areWeightsRight (d + 9) 39 [.ref (rf 11 0), .int (nI k), .int (nI j)] [] (sA (sW M w) 9 g) Q
            refine R.iload_n dX13_areWeightsRight_39 rfl ?_
            refine R.iconst (v := (-1)) dX13_areWeightsRight_40 rfl ?_
            refine R.icmp_eq (tgt := 69) dX13_areWeightsRight_41 (by decide) (fun c9 => absurd c9 (nI_m1 (by omega))) (fun _ => ?_)
            refine R.aload_n dX13_areWeightsRight_44 rfl (by first | rfl | exact rfv_rf _) ?_
            refine R.getS (hL.1.2.2.2.2.2.2.2.2.2.1) dX13_areWeightsRight_45 fl_X13_41 (by decide) rfl ?_
            refine R.iload_n dX13_areWeightsRight_48 rfl ?_
            refine R.dup2 dX13_areWeightsRight_49 rfl rfl ?_
            refine R.ialdN (k := j) dX13_areWeightsRight_50 (by omega) (by show _ < mN M 14 9; rw [hL.2.2.2.2.2.2.2.2.2.2.1]; omega) ?_
            rw [mI_sA]
            refine R.aload_n dX13_areWeightsRight_51 rfl (by first | rfl | exact rfv_rf _) ?_
            refine R.iload_n dX13_areWeightsRight_52 rfl ?_
            refine cl_X13_78 rfl rfl (by first | exact Nat.le_of_ble_eq_true rfl | simp [rf_cat, Value.category]) dX13_areWeightsRight_53 ?_
            refine m_ownA hL (by omega) ?_
            rw [hW k (by omega)]
            refine R.iadd dX13_areWeightsRight_56 ?_
            refine R.iastN (k := j) dX13_areWeightsRight_57 (by omega) (by show _ < mN M 14 9; rw [hL.2.2.2.2.2.2.2.2.2.2.1]; omega) ?_
            rw [sI_sA]
            refine R.aload_n dX13_areWeightsRight_58 rfl (by first | rfl | exact rfv_rf _) ?_
            refine R.iload_n dX13_areWeightsRight_59 rfl ?_
            refine R.bipush (v := nI 9) dX13_areWeightsRight_60 (by decide) ?_
            refine cl_X13_68 rfl rfl (by first | exact Nat.le_of_ble_eq_true rfl | simp [rf_cat, Value.category]) dX13_areWeightsRight_62 ?_
            refine m_ofA hL (by omega) (by omega) ?_
            rw [hT.p hjm, pIx_e]
            refine R.istore_n dX13_areWeightsRight_65 (Nat.le_of_ble_eq_true rfl) (by decide) (by first | rfl | simp [lft, rf_cat]) rfl ?_
            refine R.goto (tgt := 39) dX13_areWeightsRight_66 (by decide) ?_
            refine ihn (yP Y j) _ hac (fun i hi => (hT.2.2.2 j i (by omega) hi).2) (fun x hx => ?_) kq
            rw [← hg x hx]
            by_cases z : j = x
            · subst z
              rw [upW_s, show inO (n + 1) (yP Y) (some j) j = true from if_pos rfl, if_pos rfl, if_neg (c := inO n (yP Y) (yP Y j) j = true) (fun q => no_self hT hA (by omega) q)]
              exact az _
            · rw [upW_n _ _ (fun q => z q.symm), show inO (n + 1) (yP Y) (some j) x = inO n (yP Y) (yP Y j) x from if_neg z]
      refine R.iload_n dX13_areWeightsRight_27 rfl ?_
      refine R.aload_n dX13_areWeightsRight_28 rfl (by first | rfl | exact rfv_rf _) ?_
      refine R.getS (hL.w) dX13_areWeightsRight_29 fl_X13_7 (by decide) rfl ?_
      refine R.iconst (v := nI 0) dX13_areWeightsRight_32 rfl ?_
      refine R.ialdN (k := 0) dX13_areWeightsRight_33 (by omega) (by show _ < mN M 14 0; rw [hL.n]; omega) ?_
      rw [mI_sAn _ _ _ (by omega), mI_sWc, hT.z]
      refine R.geF (tgt := 75) (nI_ge (show k < m by omega) (by omega)) dX13_areWeightsRight_34 (by decide) ?_
      refine R.iload_n dX13_areWeightsRight_37 rfl ?_
      refine R.istore_n dX13_areWeightsRight_38 (Nat.le_of_ble_eq_true rfl) (by decide) (by first | rfl | simp [lft, rf_cat]) rfl ?_
      exact inn 6 (some k) g (hA k (by omega)) (fun j e => by cases e; exact hk) (fun x hx => by rw [hg x hx, sm]) (fun g2 hg2 => ih (k + 1) g2 _ (by omega) hg2)
  have l1 : ∀ (f k : Nat) (g : Nat → Int32) (v : Value), k + f = m → (∀ x, x < k → g x = 0) → WP mX13_areWeightsRight (d + 9) 2 [.ref (rf 11 0), .int (nI k), v] [] (sA (sW M w) 9 g) Q := by
    intro f
    induction f with
    | zero =>
      intro k g v hk hg
      have ek : k = m := by omega
      subst ek
      refine R.iload_n dX13_areWeightsRight_2 rfl ?_
      refine R.aload_n dX13_areWeightsRight_3 rfl (by first | rfl | exact rfv_rf _) ?_
      refine R.getS (hL.w) dX13_areWeightsRight_4 fl_X13_7 (by decide) rfl ?_
      refine R.iconst (v := nI 0) dX13_areWeightsRight_7 rfl ?_
      refine R.ialdN (k := 0) dX13_areWeightsRight_8 (by omega) (by show _ < mN M 14 0; rw [hL.n]; omega) ?_
      rw [mI_sAn _ _ _ (by omega), mI_sWc, hT.z]
      refine R.geT (tgt := 25) (Int32.le_refl _) dX13_areWeightsRight_9 (by decide) ?_
      refine R.iconst (v := nI 0) dX13_areWeightsRight_25 rfl ?_
      refine R.istore_n dX13_areWeightsRight_26 (Nat.le_of_ble_eq_true rfl) (by decide) (by first | rfl | simp [lft, rf_cat]) rfl ?_
      exact l2 k 0 g _ (by omega) (fun x hx => hg x hx)
    | succ f ih =>
      intro k g v hf hg
      have hk : k < m := by omega
      refine R.iload_n dX13_areWeightsRight_2 rfl ?_
      refine R.aload_n dX13_areWeightsRight_3 rfl (by first | rfl | exact rfv_rf _) ?_
      refine R.getS (hL.w) dX13_areWeightsRight_4 fl_X13_7 (by decide) rfl ?_
      refine R.iconst (v := nI 0) dX13_areWeightsRight_7 rfl ?_
      refine R.ialdN (k := 0) dX13_areWeightsRight_8 (by omega) (by show _ < mN M 14 0; rw [hL.n]; omega) ?_
      rw [mI_sAn _ _ _ (by omega), mI_sWc, hT.z]
      refine R.geF (tgt := 25) (nI_ge (show k < m by omega) (by omega)) dX13_areWeightsRight_9 (by decide) ?_
      refine R.aload_n dX13_areWeightsRight_12 rfl (by first | rfl | exact rfv_rf _) ?_
      refine R.getS (hL.1.2.2.2.2.2.2.2.2.2.1) dX13_areWeightsRight_13 fl_X13_41 (by decide) rfl ?_
      refine R.iload_n dX13_areWeightsRight_16 rfl ?_
      refine R.iconst (v := 0) dX13_areWeightsRight_17 rfl ?_
      refine R.iastN (k := k) dX13_areWeightsRight_18 (by omega) (by show _ < mN M 14 9; rw [hL.2.2.2.2.2.2.2.2.2.2.1]; omega) ?_
      rw [sI_sA]
      refine R.iinc dX13_areWeightsRight_19 (Nat.le_of_ble_eq_true rfl) (by decide) (by first | rfl | simp [lft, rf_cat]) rfl (inc_nI _) rfl ?_
      refine R.goto (tgt := 2) dX13_areWeightsRight_22 (by decide) ?_
      refine ih (k + 1) _ _ (by omega) (fun x hx => ?_)
      by_cases z : x = k
      · rw [z]; exact upW_s _ _ _
      · rw [upW_n _ _ z]; exact hg x (by omega)
  rw [show sW M w = sA (sW M w) 9 (mI (sW M w) 14 9) from (sA_id _ 9).symm]
  refine R.iconst (v := nI 0) dX13_areWeightsRight_0 rfl ?_
  refine R.istore_n dX13_areWeightsRight_1 (Nat.le_of_ble_eq_true rfl) (by decide) (by first | rfl | simp [lft, rf_cat]) rfl ?_
  exact l1 m 0 _ _ (by omega) (fun x hx => absurd hx (Nat.not_lt_zero x))
