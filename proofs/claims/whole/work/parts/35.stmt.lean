/-! the verbs and one statement of a script -/
def vbF (b : Nat → Int32) (s e : Nat) (k : Int32) : Nat → Nat → Option Nat
  | 0, _ => none
  | f + 1, i => if isW b s e k (vWd i) = true then some i else vbF b s e k f (i + 1)
theorem vWd_lt : ∀ i, i < 9 → vWd i < 47 := by decide
abbrev St : Type := Nat × Nat × Nat × Int32
abbrev QR : Type := (Int32 × Nat) ⊕ (Nat × St)
def okQ (r : QR) : Int32 := match r with
  | .inl _ => 0
  | .inr _ => 1
def nCr (v : Nat) : Bool := decide (v ∈ [0, 1, 2, 3, 4, 6])
def nXr (v : Nat) : Bool := decide (v ∈ [0, 1, 2, 7, 8])
/-- the value of a statement -/
def Sv (M : Mem) (j : Nat) (t : St) : Prop := mR M 6 j 0 = some (rf 22 t.1) ∧ t.1 < 9 ∧ (nCr t.1 = true → mI M 6 j 1 = nI t.2.1) ∧ (t.1 = 3 → mI M 6 j 2 = nI t.2.2.1) ∧ (t.1 = 6 → mI M 6 j 3 = nI t.2.2.1) ∧ (nXr t.1 = true → mI M 6 j 4 = t.2.2.2)
def inJ (j : Nat) (k i : Nat) : Prop := inT k i ∨ (k = 6 ∧ i = j)
def Sf (j f : Nat) (M M' : Mem) : Prop := (∀ g, g ≠ f → mI M' 6 j g = mI M 6 j g) ∧ mR M' 6 j = mR M 6 j
theorem nT6 {j : Nat} : ¬ inT 6 j := by unfold inT; omega
theorem J_T {j : Nat} : ∀ k i, inT k i → inJ j k i := fun _ _ h => Or.inl h
theorem nJY {j y : Nat} : ∀ k i, inY y k i → ¬ inJ j k i := by intro k i h; unfold inY at h; unfold inJ inT; omega
theorem Sf.T {j f : Nat} {M M' : Mem} (h : Fr inT M M') : Sf j f M M' := ⟨fun g _ => by rw [(h.2.2.2.2 6 j nT6).1], (h.2.2.2.2 6 j nT6).2.2.1⟩
theorem Sf.put {j f : Nat} {M M' : Mem} {v : Int32} (h : Fr inT M M') : Sf j f M (sI M' 6 j f v) :=
  ⟨fun g hg => by rw [mI_sI, if_neg (fun z => hg z.2.2), (h.2.2.2.2 6 j nT6).1], (h.2.2.2.2 6 j nT6).2.2.1⟩
theorem nI_m1 {j : Nat} (h : j < 2 ^ 31) : ¬ nI j = -1 := by
  intro e
  have h2 := congrArg Int32.toInt e
  rw [nI_toInt h] at h2
  have : (-1 : Int32).toInt = -1 := by decide
  omega
def ncC (b : Nat → Int32) (n e : Nat) (Y : Yd) : Int32 := if nnC b n e = 0 then (match cnF Y (nmF b (tS b n e) (tE b n e)) 16 0 with
  | none => 4
  | some _ => 0) else nnC b n e
def nyC (b : Nat → Int32) (n e : Nat) (Y : Yd) : Int32 := if nnC b n e = 0 then (match bnF Y (nmF b (tS b n e) (tE b n e)) 6 0 with
  | none => 4
  | some _ => 0) else nnC b n e
def qN (b : Nat → Int32) (n e : Nat) (lo hi : Int32) (K : Int32 → St) : QR := if nbC b n e lo hi = 0 then .inr (tE b n e, K (nbV b n e)) else .inl (nbC b n e lo hi, tS b n e)
def qC (b : Nat → Int32) (n e : Nat) (Y : Yd) (K : Nat → Nat → QR) : QR := if nnC b n e = 0 then (match cnF Y (nmF b (tS b n e) (tE b n e)) 16 0 with
  | none => .inl (4, tS b n e)
  | some j => K j (tE b n e)) else .inl (nnC b n e, tS b n e)
def qB (b : Nat → Int32) (n e : Nat) (Y : Yd) (K : Nat → Nat → QR) : QR := if nnC b n e = 0 then (match bnF Y (nmF b (tS b n e) (tE b n e)) 6 0 with
  | none => .inl (4, tS b n e)
  | some j => K j (tE b n e)) else .inl (nnC b n e, tS b n e)
def qW (b : Nat → Int32) (n e v : Nat) (K : Nat → QR) : QR := if nwC b n e v = 0 then K (tE b n e) else .inl (nwC b n e v, tS b n e)
def sqP (b : Nat → Int32) (n e v : Nat) (Y : Yd) : QR :=
  if v = 0 then qC b n e Y (fun c e => qN b n e 1 50 (fun x => (0, c, 0, x))) else
  if v = 1 then qC b n e Y (fun c e => qN b n e 1 500 (fun x => (1, c, 0, x))) else
  if v = 2 then qC b n e Y (fun c e => qN b n e 1 500 (fun x => (2, c, 0, x))) else
  if v = 3 then qC b n e Y (fun c e => qW b n e 19 (fun e => qC b n e Y (fun t e => .inr (e, (3, c, t, 0))))) else
  if v = 4 then qC b n e Y (fun c e => .inr (e, (4, c, 0, 0))) else
  if v = 5 then .inr (e, (5, 0, 0, 0)) else
  if v = 6 then qC b n e Y (fun c e => qW b n e 20 (fun e => qB b n e Y (fun t e => .inr (e, (6, c, t, 0))))) else
  if v = 7 then qN b n e 0 50 (fun x => (7, 0, 0, x)) else qN b n e 1 100 (fun x => (8, 0, 0, x))
def PoS (b : Nat → Int32) (n j : Nat) (r : QR) (M M' : Mem) : Prop := Fr (inJ j) M M' ∧ match r with
  | .inl (cd, f) => ∃ e k, Tx M' b n (f, e, k, cd, nI f)
  | .inr (e', t) => (∃ s k, Tx M' b n (s, e', k, 0, -1)) ∧ Sv M' j t
theorem PoS.no {b : Nat → Int32} {n f e j : Nat} {cd k : Int32} {M M' : Mem} (h1 : Fr (inJ j) M M') (h2 : Tx M' b n (f, e, k, cd, nI f)) : PoS b n j (.inl (cd, f)) M M' := ⟨h1, _, _, h2⟩
theorem PoS.yes {b : Nat → Int32} {n s e j : Nat} {k : Int32} {M M' : Mem} {t : St} (h1 : Fr (inJ j) M M') (h2 : Tx M' b n (s, e, k, 0, -1)) (h3 : Sv M' j t) : PoS b n j (.inr (e, t)) M M' := ⟨h1, ⟨_, _, h2⟩, h3⟩
set_option maxHeartbeats 1000000 in
set_option maxRecDepth 4000 in
theorem s_vbAt {d : Nat} {b : Nat → Int32} {n s e : Nat} {k c q : Int32} {M : Mem} {Q : Out → Mem → Prop} (h : Tx M b n (s, e, k, c, q)) (hse : s ≤ e) (hq : Q (.inl (some (va_rf ((vbF b s e k 9 0).map fun j => rf 22 j)))) M) : WPc (d + 5) mX10_at [.ref (rf 7 0)] M Q := by
  refine WPc.of (by decide +kernel) (Nat.le_of_ble_eq_true rfl) rfl ?_
  have key : ∀ (f i : Nat) (v : Value), i + f = 9 → Q (.inl (some (va_rf ((vbF b s e k f i).map fun j => rf 22 j)))) M → WP mX10_at (d + 5) 9 [.ref (rf 7 0), .ref (rf 25 0), .int (nI 9), .int (nI i), v] [] M Q := by
    intro f
    induction f with
    | zero =>
      intro i v  hik hq
      have e : i = 9 := by omega
      subst e
      refine R.iload_n dX10_at_9 rfl ?_
      refine R.iload_n dX10_at_10 rfl ?_
      refine R.geT (tgt := 40) (Int32.le_refl _) dX10_at_11 (by decide) ?_
      refine R.null dX10_at_40 ?_
      first | refine WP.ret (ov := some (.ref _)) dX10_at_41 ⟨rfl, _, rfl, Or.inl ⟨_, rfl⟩⟩ ?_ | refine WP.ret (ov := some .null) dX10_at_41 ⟨rfl, _, rfl, Or.inl ⟨_, rfl⟩⟩ ?_
      exact hq
    | succ f ih =>
      intro i v  hik hq
      have hi : i < 9 := by omega
      refine R.iload_n dX10_at_9 rfl ?_
      refine R.iload_n dX10_at_10 rfl ?_
      refine R.geF (tgt := 40) (nI_ge hi (by decide)) dX10_at_11 (by decide) ?_
      refine R.aload_n dX10_at_14 rfl (by first | rfl | exact rfv_rf _) ?_
      refine R.iload_n dX10_at_15 rfl ?_
      refine R.allAald dX10_at_16 (nI_pos (by omega)) (by rw [nI_clamp (by omega)]; exact hi) ?_
      rw [nI_clamp (by omega)]
      refine R.astore dX10_at_17 (by first | rfl | exact rfv_rf _) (Nat.le_of_ble_eq_true rfl) (by decide) (by first | rfl | simp [lft, rf_cat]) rfl ?_
      refine R.aload_n dX10_at_19 rfl (by first | rfl | exact rfv_rf _) ?_
      refine R.aload dX10_at_20 rfl (by first | rfl | exact rfv_rf _) ?_
      refine R.verbWord hi (gt_i 2553 (by decide +kernel) rfl) dX10_at_22 ?_
      refine cl_X10_57 rfl rfl (by first | exact Nat.le_of_ble_eq_true rfl | simp [rf_cat, Value.category]) dX10_at_25 ?_
      refine s_tIsW h (vWd_lt i hi) hse ?_
      refine R.if_eq (tgt := 34) dX10_at_28 (by decide) (fun c28 => ?_) (fun c28 => ?_)
      · refine R.iinc dX10_at_34 (Nat.le_of_ble_eq_true rfl) (by decide) (by first | rfl | simp [lft, rf_cat]) rfl (inc_nI _) rfl ?_
        refine R.goto (tgt := 9) dX10_at_37 (by decide) ?_
        refine ih (i + 1) _ (by omega) ?_
        rw [vbF, if_neg (fls c28)] at hq
        exact hq
      · refine R.aload dX10_at_31 rfl (by first | rfl | exact rfv_rf _) ?_
        first | refine WP.ret (ov := some (.ref _)) dX10_at_33 ⟨rfl, _, rfl, Or.inl ⟨_, rfl⟩⟩ ?_ | refine WP.ret (ov := some .null) dX10_at_33 ⟨rfl, _, rfl, Or.inl ⟨_, rfl⟩⟩ ?_
        rw [vbF, if_pos (tru c28)] at hq
        exact hq
  refine R.gsAll (gt_i 714 (by decide +kernel) rfl) dX10_at_0 ?_
  refine R.astore_n dX10_at_3 (by first | rfl | exact rfv_rf _) (Nat.le_of_ble_eq_true rfl) (by decide) (by first | rfl | simp [lft, rf_cat]) rfl ?_
  refine R.aload_n dX10_at_4 rfl (by first | rfl | exact rfv_rf _) ?_
  refine R.allAlen dX10_at_5 ?_
  refine R.istore_n dX10_at_6 (Nat.le_of_ble_eq_true rfl) (by decide) (by first | rfl | simp [lft, rf_cat]) rfl ?_
  refine R.iconst (v := 0) dX10_at_7 rfl ?_
  refine R.istore_n dX10_at_8 (Nat.le_of_ble_eq_true rfl) (by decide) (by first | rfl | simp [lft, rf_cat]) rfl ?_
  exact key 9 0 _ (by omega) hq
theorem Tx.frJ {b : Nat → Int32} {n j f : Nat} {v : Int32} {a : Ta} {M : Mem} (h : Tx M b n a) : Tx (sI M 6 j f v) b n a :=
  h.fr (S := fun k i => k = 6 ∧ i = j) (Fr.sI (Fr.rf _ _) ⟨rfl, rfl⟩) (fun z => absurd z.1 (by decide)) (fun z => absurd z.1 (by decide))
set_option maxHeartbeats 1000000 in
set_option maxRecDepth 4000 in
theorem s_stNum {d : Nat} {b : Nat → Int32} {n s e j : Nat} {k : Int32} {lo hi : Int32} {M : Mem} {Q : Out → Mem → Prop} (h : Tx M b n (s, e, k, 0, -1)) (hq : ∀ M', Tx M' b n (erA (nbC b n e lo hi) (avA b n e 0 (-1))) → Fr (inJ j) M M' → Sf j 4 M M' → (nbC b n e lo hi = 0 → mI M' 6 j 4 = nbV b n e) → Q (.inl (some (.int (erR (nbC b n e lo hi))))) M') : WPc (d + 3) mX7_nextNumber [.ref (rf 6 j), .ref (rf 7 0), .int lo, .int hi] M Q := by
  refine WPc.of (by decide +kernel) (Nat.le_of_ble_eq_true rfl) rfl ?_
  refine R.aload_n dX7_nextNumber_0 rfl (by first | rfl | exact rfv_rf _) ?_
  refine R.iload_n dX7_nextNumber_1 rfl ?_
  refine R.iload_n dX7_nextNumber_2 rfl ?_
  refine cl_X7_64 rfl rfl (by first | exact Nat.le_of_ble_eq_true rfl | simp [rf_cat, Value.category]) dX7_nextNumber_3 ?_
  refine s_tNextI h (fun M3 h3 F3 => ?_)
  refine R.istore dX7_nextNumber_6 (Nat.le_of_ble_eq_true rfl) (by decide) (by first | rfl | simp [lft, rf_cat]) rfl ?_
  refine R.aload_n dX7_nextNumber_8 rfl (by first | rfl | exact rfv_rf _) ?_
  refine R.iload dX7_nextNumber_9 rfl ?_
  refine R.if_eq (tgt := 21) dX7_nextNumber_11 (by decide) (fun c11 => ?_) (fun c11 => ?_)
  · refine R.iconst (v := 0) dX7_nextNumber_21 rfl ?_
    refine R.putI dX7_nextNumber_22 fl_X7_70 (fun q hq => by cases hq; exact Or.inl rfl) (by decide) rfl rfl rfl ?_
    refine R.iload dX7_nextNumber_25 rfl ?_
    refine WP.ret (ov := some (.int _)) dX7_nextNumber_27 ⟨rfl, _, rfl, by first | rfl | assumption | exact nar_b01 (erR_b _)⟩ ?_
    have w3 := er_1 c11
    have hq' := hq (sI M3 6 j 4 0) (Tx.frJ h3) (Fr.sI (F3.mo J_T) (Or.inr ⟨rfl, rfl⟩)) (Sf.put F3) (fun z => absurd z w3)
    exact hq'
  · refine R.aload_n dX7_nextNumber_14 rfl (by first | rfl | exact rfv_rf _) ?_
    refine cl_X7_67 rfl rfl (by first | exact Nat.le_of_ble_eq_true rfl | simp [rf_cat, Value.category]) dX7_nextNumber_15 ?_
    refine s_tNum (h3.ok (er_0 c11)) tS_tE ?_
    refine R.goto (tgt := 22) dX7_nextNumber_18 (by decide) ?_
    refine R.putI dX7_nextNumber_22 fl_X7_70 (fun q hq => by cases hq; exact Or.inl rfl) (by decide) rfl rfl rfl ?_
    refine R.iload dX7_nextNumber_25 rfl ?_
    refine WP.ret (ov := some (.int _)) dX7_nextNumber_27 ⟨rfl, _, rfl, by first | rfl | assumption | exact nar_b01 (erR_b _)⟩ ?_
    exact hq (sI M3 6 j 4 (nuF b (tS b n e) (tE b n e))) (Tx.frJ h3) (Fr.sI (F3.mo J_T) (Or.inr ⟨rfl, rfl⟩)) (Sf.put F3) (fun _ => by rw [mI_sI, if_pos ⟨rfl, rfl, rfl⟩]; rfl)
set_option maxHeartbeats 1000000 in
set_option maxRecDepth 4000 in
theorem s_stCr {d : Nat} {b : Nat → Int32} {n s e j : Nat} {k : Int32} {y : Nat} {Y : Yd} {M : Mem} {Q : Out → Mem → Prop} (h : Tx M b n (s, e, k, 0, -1)) (g : Yv M y Y) (hq : ∀ M', Tx M' b n (erA (ncC b n e Y) (avA b n e 0 (-1))) → Fr (inJ j) M M' → Sf j 1 M M' → (ncC b n e Y = 0 → ∃ j1, cnF Y (nmF b (tS b n e) (tE b n e)) 16 0 = some j1 ∧ mI M' 6 j 1 = nI j1) → Q (.inl (some (.int (erR (ncC b n e Y))))) M') : WPc (d + 3) mX7_nextCrate [.ref (rf 6 j), .ref (rf 7 0), .ref (rf 9 y)] M Q := by
  refine WPc.of (by decide +kernel) (Nat.le_of_ble_eq_true rfl) rfl ?_
  refine R.aload_n dX7_nextCrate_0 rfl (by first | rfl | exact rfv_rf _) ?_
  refine R.aload_n dX7_nextCrate_1 rfl (by first | rfl | exact rfv_rf _) ?_
  refine cl_X7_72 rfl rfl (by first | exact Nat.le_of_ble_eq_true rfl | simp [rf_cat, Value.category]) dX7_nextCrate_2 ?_
  refine s_tNextN h (fun M2 h2 F2 => ?_)
  have g2 := g.fr F2 nTY
  refine R.if_eq (tgt := 16) dX7_nextCrate_5 (by decide) (fun c5 => ?_) (fun c5 => ?_)
  · refine R.iconst (v := (-1)) dX7_nextCrate_16 rfl ?_
    refine R.putI dX7_nextCrate_17 fl_X7_20 (fun q hq => by cases hq; exact Or.inl rfl) (by decide) rfl rfl rfl ?_
    refine R.aload_n dX7_nextCrate_20 rfl (by first | rfl | exact rfv_rf _) ?_
    refine R.getI dX7_nextCrate_21 fl_X7_20 (by decide) rfl ?_
    refine R.iconst (v := (-1)) dX7_nextCrate_24 rfl ?_
    refine R.icmp_eq (tgt := 32) dX7_nextCrate_25 (by decide) (fun _ => ?_) (fun c => absurd (by rw [mI_sI, if_pos ⟨rfl, rfl, rfl⟩]) c)
    refine R.iconst (v := 0) dX7_nextCrate_32 rfl ?_
    refine WP.ret (ov := some (.int _)) dX7_nextCrate_33 ⟨rfl, _, rfl, by first | rfl | assumption | exact nar_b01 (by assumption)⟩ ?_
    have w2 := er_1 c5
    have hcd : ncC b n e Y = nnC b n e := if_neg w2
    rw [hcd] at hq
    rw [show erR (nnC b n e) = 0 from if_neg w2] at hq
    exact hq _ (Tx.frJ h2) (Fr.sI (F2.mo J_T) (Or.inr ⟨rfl, rfl⟩)) (Sf.put F2) (fun z => absurd z w2)
  cases hc : cnF Y (nmF b (tS b n e) (tE b n e)) 16 0 with
  | none =>
    refine R.aload_n dX7_nextCrate_8 rfl (by first | rfl | exact rfv_rf _) ?_
    refine R.aload_n dX7_nextCrate_9 rfl (by first | rfl | exact rfv_rf _) ?_
    refine cl_X7_76 rfl rfl (by first | exact Nat.le_of_ble_eq_true rfl | simp [rf_cat, Value.category]) dX7_nextCrate_10 ?_
    refine s_tIxCN (h2.ok (er_0 c5)) g2 tS_tE hc (fun M10 h10 F10 => ?_)
    refine R.goto (tgt := 17) dX7_nextCrate_13 (by decide) ?_
    refine R.putI dX7_nextCrate_17 fl_X7_20 (fun q hq => by cases hq; exact Or.inl rfl) (by decide) rfl rfl rfl ?_
    refine R.aload_n dX7_nextCrate_20 rfl (by first | rfl | exact rfv_rf _) ?_
    refine R.getI dX7_nextCrate_21 fl_X7_20 (by decide) rfl ?_
    refine R.iconst (v := (-1)) dX7_nextCrate_24 rfl ?_
    refine R.icmp_eq (tgt := 32) dX7_nextCrate_25 (by decide) (fun _ => ?_) (fun c => absurd (by rw [mI_sI, if_pos ⟨rfl, rfl, rfl⟩]) c)
    refine R.iconst (v := 0) dX7_nextCrate_32 rfl ?_
    refine WP.ret (ov := some (.int _)) dX7_nextCrate_33 ⟨rfl, _, rfl, by first | rfl | assumption | exact nar_b01 (by assumption)⟩ ?_
    have hcd : ncC b n e Y = 4 := by unfold ncC; rw [if_pos (er_0 c5), hc]
    rw [hcd] at hq
    exact hq _ (Tx.frJ h10) (Fr.sI ((F2.tr F10).mo J_T) (Or.inr ⟨rfl, rfl⟩)) (Sf.put (F2.tr F10)) (fun z => absurd z (by decide))
  | some j1 =>
    have hj := cnF_lt 16 0 (by omega) hc
    refine R.aload_n dX7_nextCrate_8 rfl (by first | rfl | exact rfv_rf _) ?_
    refine R.aload_n dX7_nextCrate_9 rfl (by first | rfl | exact rfv_rf _) ?_
    refine cl_X7_76 rfl rfl (by first | exact Nat.le_of_ble_eq_true rfl | simp [rf_cat, Value.category]) dX7_nextCrate_10 ?_
    refine s_tIxCS (h2.ok (er_0 c5)) g2 tS_tE hc hj ?_
    refine R.goto (tgt := 17) dX7_nextCrate_13 (by decide) ?_
    refine R.putI dX7_nextCrate_17 fl_X7_20 (fun q hq => by cases hq; exact Or.inl rfl) (by decide) rfl rfl rfl ?_
    refine R.aload_n dX7_nextCrate_20 rfl (by first | rfl | exact rfv_rf _) ?_
    refine R.getI dX7_nextCrate_21 fl_X7_20 (by decide) rfl ?_
    refine R.iconst (v := (-1)) dX7_nextCrate_24 rfl ?_
    refine R.icmp_eq (tgt := 32) dX7_nextCrate_25 (by decide) (fun c => absurd c (by rw [mI_sI, if_pos ⟨rfl, rfl, rfl⟩]; exact nI_m1 (by omega))) (fun _ => ?_)
    refine R.iconst (v := 1) dX7_nextCrate_28 rfl ?_
    refine R.goto (tgt := 33) dX7_nextCrate_29 (by decide) ?_
    refine WP.ret (ov := some (.int _)) dX7_nextCrate_33 ⟨rfl, _, rfl, by first | rfl | assumption | exact nar_b01 (by assumption)⟩ ?_
    have hcd : ncC b n e Y = 0 := by unfold ncC; rw [if_pos (er_0 c5), hc]
    rw [hcd] at hq
    exact hq _ (Tx.frJ (h2.ok (er_0 c5))) (Fr.sI (F2.mo J_T) (Or.inr ⟨rfl, rfl⟩)) (Sf.put F2) (fun _ => ⟨j1, hc, by rw [mI_sI, if_pos ⟨rfl, rfl, rfl⟩]⟩)
set_option maxHeartbeats 1000000 in
set_option maxRecDepth 4000 in
theorem s_stOu {d : Nat} {b : Nat → Int32} {n s e j : Nat} {k : Int32} {y : Nat} {Y : Yd} {M : Mem} {Q : Out → Mem → Prop} (h : Tx M b n (s, e, k, 0, -1)) (g : Yv M y Y) (hq : ∀ M', Tx M' b n (erA (ncC b n e Y) (avA b n e 0 (-1))) → Fr (inJ j) M M' → Sf j 2 M M' → (ncC b n e Y = 0 → ∃ j1, cnF Y (nmF b (tS b n e) (tE b n e)) 16 0 = some j1 ∧ mI M' 6 j 2 = nI j1) → Q (.inl (some (.int (erR (ncC b n e Y))))) M') : WPc (d + 3) mX7_nextOuter [.ref (rf 6 j), .ref (rf 7 0), .ref (rf 9 y)] M Q := by
  refine WPc.of (by decide +kernel) (Nat.le_of_ble_eq_true rfl) rfl ?_
  refine R.aload_n dX7_nextOuter_0 rfl (by first | rfl | exact rfv_rf _) ?_
  refine R.aload_n dX7_nextOuter_1 rfl (by first | rfl | exact rfv_rf _) ?_
  refine cl_X7_72 rfl rfl (by first | exact Nat.le_of_ble_eq_true rfl | simp [rf_cat, Value.category]) dX7_nextOuter_2 ?_
  refine s_tNextN h (fun M2 h2 F2 => ?_)
  have g2 := g.fr F2 nTY
  refine R.if_eq (tgt := 16) dX7_nextOuter_5 (by decide) (fun c5 => ?_) (fun c5 => ?_)
  · refine R.iconst (v := (-1)) dX7_nextOuter_16 rfl ?_
    refine R.putI dX7_nextOuter_17 fl_X7_24 (fun q hq => by cases hq; exact Or.inl rfl) (by decide) rfl rfl rfl ?_
    refine R.aload_n dX7_nextOuter_20 rfl (by first | rfl | exact rfv_rf _) ?_
    refine R.getI dX7_nextOuter_21 fl_X7_24 (by decide) rfl ?_
    refine R.iconst (v := (-1)) dX7_nextOuter_24 rfl ?_
    refine R.icmp_eq (tgt := 32) dX7_nextOuter_25 (by decide) (fun _ => ?_) (fun c => absurd (by rw [mI_sI, if_pos ⟨rfl, rfl, rfl⟩]) c)
    refine R.iconst (v := 0) dX7_nextOuter_32 rfl ?_
    refine WP.ret (ov := some (.int _)) dX7_nextOuter_33 ⟨rfl, _, rfl, by first | rfl | assumption | exact nar_b01 (by assumption)⟩ ?_
    have w2 := er_1 c5
    have hcd : ncC b n e Y = nnC b n e := if_neg w2
    rw [hcd] at hq
    rw [show erR (nnC b n e) = 0 from if_neg w2] at hq
    exact hq _ (Tx.frJ h2) (Fr.sI (F2.mo J_T) (Or.inr ⟨rfl, rfl⟩)) (Sf.put F2) (fun z => absurd z w2)
  cases hc : cnF Y (nmF b (tS b n e) (tE b n e)) 16 0 with
  | none =>
    refine R.aload_n dX7_nextOuter_8 rfl (by first | rfl | exact rfv_rf _) ?_
    refine R.aload_n dX7_nextOuter_9 rfl (by first | rfl | exact rfv_rf _) ?_
    refine cl_X7_76 rfl rfl (by first | exact Nat.le_of_ble_eq_true rfl | simp [rf_cat, Value.category]) dX7_nextOuter_10 ?_
    refine s_tIxCN (h2.ok (er_0 c5)) g2 tS_tE hc (fun M10 h10 F10 => ?_)
    refine R.goto (tgt := 17) dX7_nextOuter_13 (by decide) ?_
    refine R.putI dX7_nextOuter_17 fl_X7_24 (fun q hq => by cases hq; exact Or.inl rfl) (by decide) rfl rfl rfl ?_
    refine R.aload_n dX7_nextOuter_20 rfl (by first | rfl | exact rfv_rf _) ?_
    refine R.getI dX7_nextOuter_21 fl_X7_24 (by decide) rfl ?_
    refine R.iconst (v := (-1)) dX7_nextOuter_24 rfl ?_
    refine R.icmp_eq (tgt := 32) dX7_nextOuter_25 (by decide) (fun _ => ?_) (fun c => absurd (by rw [mI_sI, if_pos ⟨rfl, rfl, rfl⟩]) c)
    refine R.iconst (v := 0) dX7_nextOuter_32 rfl ?_
    refine WP.ret (ov := some (.int _)) dX7_nextOuter_33 ⟨rfl, _, rfl, by first | rfl | assumption | exact nar_b01 (by assumption)⟩ ?_
    have hcd : ncC b n e Y = 4 := by unfold ncC; rw [if_pos (er_0 c5), hc]
    rw [hcd] at hq
    exact hq _ (Tx.frJ h10) (Fr.sI ((F2.tr F10).mo J_T) (Or.inr ⟨rfl, rfl⟩)) (Sf.put (F2.tr F10)) (fun z => absurd z (by decide))
  | some j1 =>
    have hj := cnF_lt 16 0 (by omega) hc
    refine R.aload_n dX7_nextOuter_8 rfl (by first | rfl | exact rfv_rf _) ?_
    refine R.aload_n dX7_nextOuter_9 rfl (by first | rfl | exact rfv_rf _) ?_
    refine cl_X7_76 rfl rfl (by first | exact Nat.le_of_ble_eq_true rfl | simp [rf_cat, Value.category]) dX7_nextOuter_10 ?_
    refine s_tIxCS (h2.ok (er_0 c5)) g2 tS_tE hc hj ?_
    refine R.goto (tgt := 17) dX7_nextOuter_13 (by decide) ?_
    refine R.putI dX7_nextOuter_17 fl_X7_24 (fun q hq => by cases hq; exact Or.inl rfl) (by decide) rfl rfl rfl ?_
    refine R.aload_n dX7_nextOuter_20 rfl (by first | rfl | exact rfv_rf _) ?_
    refine R.getI dX7_nextOuter_21 fl_X7_24 (by decide) rfl ?_
    refine R.iconst (v := (-1)) dX7_nextOuter_24 rfl ?_
    refine R.icmp_eq (tgt := 32) dX7_nextOuter_25 (by decide) (fun c => absurd c (by rw [mI_sI, if_pos ⟨rfl, rfl, rfl⟩]; exact nI_m1 (by omega))) (fun _ => ?_)
    refine R.iconst (v := 1) dX7_nextOuter_28 rfl ?_
    refine R.goto (tgt := 33) dX7_nextOuter_29 (by decide) ?_
    refine WP.ret (ov := some (.int _)) dX7_nextOuter_33 ⟨rfl, _, rfl, by first | rfl | assumption | exact nar_b01 (by assumption)⟩ ?_
    have hcd : ncC b n e Y = 0 := by unfold ncC; rw [if_pos (er_0 c5), hc]
    rw [hcd] at hq
    exact hq _ (Tx.frJ (h2.ok (er_0 c5))) (Fr.sI (F2.mo J_T) (Or.inr ⟨rfl, rfl⟩)) (Sf.put F2) (fun _ => ⟨j1, hc, by rw [mI_sI, if_pos ⟨rfl, rfl, rfl⟩]⟩)
set_option maxHeartbeats 1000000 in
set_option maxRecDepth 4000 in
theorem s_stBu {d : Nat} {b : Nat → Int32} {n s e j : Nat} {k : Int32} {y : Nat} {Y : Yd} {M : Mem} {Q : Out → Mem → Prop} (h : Tx M b n (s, e, k, 0, -1)) (g : Yv M y Y) (hq : ∀ M', Tx M' b n (erA (nyC b n e Y) (avA b n e 0 (-1))) → Fr (inJ j) M M' → Sf j 3 M M' → (nyC b n e Y = 0 → ∃ j1, bnF Y (nmF b (tS b n e) (tE b n e)) 6 0 = some j1 ∧ mI M' 6 j 3 = nI j1) → Q (.inl (some (.int (erR (nyC b n e Y))))) M') : WPc (d + 3) mX7_nextBuyer [.ref (rf 6 j), .ref (rf 7 0), .ref (rf 9 y)] M Q := by
  refine WPc.of (by decide +kernel) (Nat.le_of_ble_eq_true rfl) rfl ?_
  refine R.aload_n dX7_nextBuyer_0 rfl (by first | rfl | exact rfv_rf _) ?_
  refine R.aload_n dX7_nextBuyer_1 rfl (by first | rfl | exact rfv_rf _) ?_
  refine cl_X7_72 rfl rfl (by first | exact Nat.le_of_ble_eq_true rfl | simp [rf_cat, Value.category]) dX7_nextBuyer_2 ?_
  refine s_tNextN h (fun M2 h2 F2 => ?_)
  have g2 := g.fr F2 nTY
  refine R.if_eq (tgt := 16) dX7_nextBuyer_5 (by decide) (fun c5 => ?_) (fun c5 => ?_)
  · refine R.iconst (v := (-1)) dX7_nextBuyer_16 rfl ?_
    refine R.putI dX7_nextBuyer_17 fl_X7_27 (fun q hq => by cases hq; exact Or.inl rfl) (by decide) rfl rfl rfl ?_
    refine R.aload_n dX7_nextBuyer_20 rfl (by first | rfl | exact rfv_rf _) ?_
    refine R.getI dX7_nextBuyer_21 fl_X7_27 (by decide) rfl ?_
    refine R.iconst (v := (-1)) dX7_nextBuyer_24 rfl ?_
    refine R.icmp_eq (tgt := 32) dX7_nextBuyer_25 (by decide) (fun _ => ?_) (fun c => absurd (by rw [mI_sI, if_pos ⟨rfl, rfl, rfl⟩]) c)
    refine R.iconst (v := 0) dX7_nextBuyer_32 rfl ?_
    refine WP.ret (ov := some (.int _)) dX7_nextBuyer_33 ⟨rfl, _, rfl, by first | rfl | assumption | exact nar_b01 (by assumption)⟩ ?_
    have w2 := er_1 c5
    have hcd : nyC b n e Y = nnC b n e := if_neg w2
    rw [hcd] at hq
    rw [show erR (nnC b n e) = 0 from if_neg w2] at hq
    exact hq _ (Tx.frJ h2) (Fr.sI (F2.mo J_T) (Or.inr ⟨rfl, rfl⟩)) (Sf.put F2) (fun z => absurd z w2)
  cases hc : bnF Y (nmF b (tS b n e) (tE b n e)) 6 0 with
  | none =>
    refine R.aload_n dX7_nextBuyer_8 rfl (by first | rfl | exact rfv_rf _) ?_
    refine R.aload_n dX7_nextBuyer_9 rfl (by first | rfl | exact rfv_rf _) ?_
    refine cl_X7_80 rfl rfl (by first | exact Nat.le_of_ble_eq_true rfl | simp [rf_cat, Value.category]) dX7_nextBuyer_10 ?_
    refine s_tIxBN (h2.ok (er_0 c5)) g2 tS_tE hc (fun M10 h10 F10 => ?_)
    refine R.goto (tgt := 17) dX7_nextBuyer_13 (by decide) ?_
    refine R.putI dX7_nextBuyer_17 fl_X7_27 (fun q hq => by cases hq; exact Or.inl rfl) (by decide) rfl rfl rfl ?_
    refine R.aload_n dX7_nextBuyer_20 rfl (by first | rfl | exact rfv_rf _) ?_
    refine R.getI dX7_nextBuyer_21 fl_X7_27 (by decide) rfl ?_
    refine R.iconst (v := (-1)) dX7_nextBuyer_24 rfl ?_
    refine R.icmp_eq (tgt := 32) dX7_nextBuyer_25 (by decide) (fun _ => ?_) (fun c => absurd (by rw [mI_sI, if_pos ⟨rfl, rfl, rfl⟩]) c)
    refine R.iconst (v := 0) dX7_nextBuyer_32 rfl ?_
    refine WP.ret (ov := some (.int _)) dX7_nextBuyer_33 ⟨rfl, _, rfl, by first | rfl | assumption | exact nar_b01 (by assumption)⟩ ?_
    have hcd : nyC b n e Y = 4 := by unfold nyC; rw [if_pos (er_0 c5), hc]
    rw [hcd] at hq
    exact hq _ (Tx.frJ h10) (Fr.sI ((F2.tr F10).mo J_T) (Or.inr ⟨rfl, rfl⟩)) (Sf.put (F2.tr F10)) (fun z => absurd z (by decide))
  | some j1 =>
    have hj := bnF_lt 6 0 (by omega) hc
    refine R.aload_n dX7_nextBuyer_8 rfl (by first | rfl | exact rfv_rf _) ?_
    refine R.aload_n dX7_nextBuyer_9 rfl (by first | rfl | exact rfv_rf _) ?_
    refine cl_X7_80 rfl rfl (by first | exact Nat.le_of_ble_eq_true rfl | simp [rf_cat, Value.category]) dX7_nextBuyer_10 ?_
    refine s_tIxBS (h2.ok (er_0 c5)) g2 tS_tE hc hj ?_
    refine R.goto (tgt := 17) dX7_nextBuyer_13 (by decide) ?_
    refine R.putI dX7_nextBuyer_17 fl_X7_27 (fun q hq => by cases hq; exact Or.inl rfl) (by decide) rfl rfl rfl ?_
    refine R.aload_n dX7_nextBuyer_20 rfl (by first | rfl | exact rfv_rf _) ?_
    refine R.getI dX7_nextBuyer_21 fl_X7_27 (by decide) rfl ?_
    refine R.iconst (v := (-1)) dX7_nextBuyer_24 rfl ?_
    refine R.icmp_eq (tgt := 32) dX7_nextBuyer_25 (by decide) (fun c => absurd c (by rw [mI_sI, if_pos ⟨rfl, rfl, rfl⟩]; exact nI_m1 (by omega))) (fun _ => ?_)
    refine R.iconst (v := 1) dX7_nextBuyer_28 rfl ?_
    refine R.goto (tgt := 33) dX7_nextBuyer_29 (by decide) ?_
    refine WP.ret (ov := some (.int _)) dX7_nextBuyer_33 ⟨rfl, _, rfl, by first | rfl | assumption | exact nar_b01 (by assumption)⟩ ?_
    have hcd : nyC b n e Y = 0 := by unfold nyC; rw [if_pos (er_0 c5), hc]
    rw [hcd] at hq
    exact hq _ (Tx.frJ (h2.ok (er_0 c5))) (Fr.sI (F2.mo J_T) (Or.inr ⟨rfl, rfl⟩)) (Sf.put F2) (fun _ => ⟨j1, hc, by rw [mI_sI, if_pos ⟨rfl, rfl, rfl⟩]⟩)
