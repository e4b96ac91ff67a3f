/-! a yard's methods that change nothing -/
theorem kd_map {p : Option Nat} {y : Nat} : ∀ a, p.map (fun j => rf 1 (16 * y + j)) = some a → kd a < 21 := by
  intro a h
  cases p with
  | none => cases h
  | some j => cases h; rw [kd_rf _ _ (by decide)]; decide
theorem kd_mapB {p : Option Nat} {y : Nat} : ∀ a, p.map (fun j => rf 0 (6 * y + j)) = some a → kd a < 21 := by
  intro a h
  cases p with
  | none => cases h
  | some j => cases h; rw [kd_rf _ _ (by decide)]; decide
theorem kd_map29 {p : Option Nat} {y : Nat} : ∀ a, p.map (fun j => rf 1 (16 * y + j)) = some a → kd a < 29 := fun a h => Nat.lt_trans (kd_map a h) (by decide)
theorem kd_one {y j : Nat} : ∀ a, some (rf 1 (16 * y + j)) = some a → kd a < 21 := by
  intro a h
  cases h; rw [kd_rf _ _ (by decide)]; decide
theorem map_inj {p : Option Nat} {y o : Nat} : p.map (fun j => rf 1 (16 * y + j)) = some (rf 1 (16 * y + o)) ↔ p = some o := by
  cases p with
  | none => simp
  | some j =>
    constructor
    · intro h
      have := (rf_inj (by decide) (by decide) (Option.some.inj h)).2
      rw [show j = o by omega]
    · intro h; cases h; rfl
def acyO : Nat → (Nat → Option Nat) → Option Nat → Prop
  | 0, _, o => o = none
  | n + 1, P, o => match o with
    | none => True
    | some j => acyO n P (P j)
def depO : Nat → (Nat → Option Nat) → Option Nat → Nat
  | 0, _, _ => 0
  | n + 1, P, o => match o with
    | none => 0
    | some j => depO n P (P j) + 1
def inO : Nat → (Nat → Option Nat) → Option Nat → Nat → Bool
  | 0, _, _, _ => false
  | n + 1, P, o, t => match o with
    | none => false
    | some j => if j = t then true else inO n P (P j) t
/-- every crate stands at most five deep -/
def Acy (Y : Yd) : Prop := ∀ i, i < 16 → acyO 5 (yP Y) (yP Y i)
def dp (Y : Yd) (i : Nat) : Nat := depO 5 (yP Y) (yP Y i)
def ins (Y : Yd) (i t : Nat) : Bool := inO 6 (yP Y) (some i) t
def cnF (Y : Yd) (nm : Int32) : Nat → Nat → Option Nat
  | 0, _ => none
  | k + 1, i => if yC Y i 1 = nm then some i else cnF Y nm k (i + 1)
def bnF (Y : Yd) (nm : Int32) : Nat → Nat → Option Nat
  | 0, _ => none
  | k + 1, i => if yB Y i 1 = nm then some i else bnF Y nm k (i + 1)
def caC (Y : Yd) (o : Nat) (t : Int32) (i : Nat) (b : Option Nat) : Bool := decide (yP Y i = some o) && (decide (t < yC Y i 6) && match b with
  | none => true
  | some c => decide (yC Y i 6 < yC Y c 6))
def caF (Y : Yd) (o : Nat) (t : Int32) : Nat → Nat → Option Nat → Option Nat
  | 0, _, b => b
  | k + 1, i, b => caF Y o t k (i + 1) (if caC Y o t i b = true then some i else b)
def fCh (Y : Yd) (o : Nat) : Option Nat := caF Y o 0 16 0 none
def nCh (Y : Yd) (c : Nat) : Option Nat := match yP Y c with
  | none => none
  | some o => caF Y o (yC Y c 6) 16 0 none
def lvF (Y : Yd) (t : Nat) : Nat → Nat → Int32 → Int32
  | 0, _, a => a
  | k + 1, i, a => lvF Y t k (i + 1) (if ins Y i t = true then fmax a (nI (dp Y i) - nI (dp Y t)) else a)
def yMean (Y : Yd) (i : Nat) : Int32 := cMean (yC Y i 8) (yL Y i 9)
def yErr (Y : Yd) (i : Nat) : Int32 := yMean Y i - yC Y i 4
def yPrice (Y : Yd) (i : Nat) : Int32 := fmax 0 (yMean Y i)
def yRef (Y : Yd) (i b : Nat) : Int32 := if yC Y i 7 = 0 then 1 else if yP Y i = none then (if yC Y i 8 < yF Y 6 then 3 else if yB Y b 4 < yF Y 7 then 4 else if yB Y b 2 < yPrice Y i then 5 else 0) else 2
def pIx (Y : Yd) (i : Nat) : Int32 := match yP Y i with
  | none => -1
  | some j => nI j
def yDet (Y : Yd) (i b : Nat) : Int32 := if yRef Y i b = 2 then pIx Y i else if yRef Y i b = 3 then yF Y 6 - yC Y i 8 else if yRef Y i b = 4 then yF Y 7 - yB Y b 4 else if yRef Y i b = 5 then yPrice Y i - yB Y b 2 else 0
def mtC (Y : Yd) (i b : Nat) (best : Option Nat) : Bool := decide (nI b < yF Y 5) && (decide (yRef Y i b = 0) && match best with
  | none => true
  | some c => decide (yB Y c 4 < yB Y b 4))
def mtF (Y : Yd) (i : Nat) : Nat → Nat → Option Nat → Option Nat
  | 0, _, r => r
  | k + 1, b, r => mtF Y i k (b + 1) (if mtC Y i b r = true then some b else r)
def stF (Y : Yd) : Nat → Nat → Int32 → Int32
  | 0, _, a => a
  | k + 1, i, a => stF Y k (i + 1) (a + yC Y i 8)
def trF (Y : Yd) : Nat → Nat → Int32 → Int32
  | 0, _, a => a
  | k + 1, i, a => trF Y k (i + 1) (a + yB Y i 4)
def moF (Y : Yd) : Nat → Nat → Int32 → Int32
  | 0, _, a => a
  | k + 1, i, a => moF Y k (i + 1) (a + yB Y i 2)
def gaF (Y : Yd) (t : Nat) : Nat → Nat → Int32 → Int32
  | 0, _, a => a
  | k + 1, i, a => gaF Y t k (i + 1) (if ins Y i t = true then a + (yC Y i 2 + yC Y i 3) else a)
set_option maxHeartbeats 1000000 in
set_option maxRecDepth 4000 in
theorem s_cIn {d : Nat} {y i t n : Nat} {Y : Yd} {M : Mem} {Q : Out → Mem → Prop} (h : Yv M y Y) (hi : i < 16) (ha : acyO n (yP Y) (some i)) (hq : Q (.inl (some (.int (if inO n (yP Y) (some i) t = true then 1 else 0)))) M) : WPc d mX2_isOrIsInside [.ref (rf 1 (16 * y + i)), .ref (rf 1 (16 * y + t))] M Q := by
  refine WPc.of (by decide +kernel) (Nat.le_of_ble_eq_true rfl) rfl ?_
  have key : ∀ (n : Nat) (o : Option Nat), acyO n (yP Y) o → (∀ j, o = some j → j < 16) → Q (.inl (some (.int (if inO n (yP Y) o t = true then 1 else 0)))) M → WP mX2_isOrIsInside d 2 [.ref (rf 1 (16 * y + i)), .ref (rf 1 (16 * y + t)), va_rf (o.map fun j => rf 1 (16 * y + j))] [] M Q := by
    intro n
    induction n with
    | zero =>
      intro o ha ho hq
      cases (show o = none from ha)
      show WP mX2_isOrIsInside d 2 [.ref (rf 1 (16 * y + i)), .ref (rf 1 (16 * y + t)), .null] [] M Q
      refine R.aload_n dX2_isOrIsInside_2 rfl (by first | rfl | exact rfv_rf _) ?_
      refine R.ifnullN (tgt := 21) dX2_isOrIsInside_3 (by decide) ?_
      refine R.iconst (v := 0) dX2_isOrIsInside_21 rfl ?_
      refine WP.ret (ov := some (.int _)) dX2_isOrIsInside_22 ⟨rfl, _, rfl, by first | rfl | assumption | exact nar_b01 (by assumption)⟩ ?_
      exact hq
    | succ n ih =>
      intro o ha ho hq
      cases o with
      | none =>
        show WP mX2_isOrIsInside d 2 [.ref (rf 1 (16 * y + i)), .ref (rf 1 (16 * y + t)), .null] [] M Q
        refine R.aload_n dX2_isOrIsInside_2 rfl (by first | rfl | exact rfv_rf _) ?_
        refine R.ifnullN (tgt := 21) dX2_isOrIsInside_3 (by decide) ?_
        refine R.iconst (v := 0) dX2_isOrIsInside_21 rfl ?_
        refine WP.ret (ov := some (.int _)) dX2_isOrIsInside_22 ⟨rfl, _, rfl, by first | rfl | assumption | exact nar_b01 (by assumption)⟩ ?_
        exact hq
      | some j =>
        have hj := ho j rfl
        show WP mX2_isOrIsInside d 2 [.ref (rf 1 (16 * y + i)), .ref (rf 1 (16 * y + t)), .ref (rf 1 (16 * y + j))] [] M Q
        refine R.aload_n dX2_isOrIsInside_2 rfl (by first | rfl | exact rfv_rf _) ?_
        refine R.ifnullS (tgt := 21) (by first | decide | exact Nat.lt_of_le_of_lt (Nat.le_of_eq (kd_rf _ _ (by decide))) (by decide)) dX2_isOrIsInside_3 (by decide) ?_
        refine R.aload_n dX2_isOrIsInside_6 rfl (by first | rfl | exact rfv_rf _) ?_
        refine R.aload_n dX2_isOrIsInside_7 rfl (by first | rfl | exact rfv_rf _) ?_
        refine R.acmpRR (tgt := 13) (by decide) dX2_isOrIsInside_8 (by decide) (fun c8 => ?_) (fun c8 => ?_)
        · refine R.aload_n dX2_isOrIsInside_13 rfl (by first | rfl | exact rfv_rf _) ?_
          refine R.getR dX2_isOrIsInside_14 fl_X2_27 (by decide) rfl ?_
          rw [h.rP hj]
          refine R.astore_n dX2_isOrIsInside_17 (by first | rfl | exact rfv_rf _) (Nat.le_of_ble_eq_true rfl) (by decide) (by first | rfl | simp [lft, rf_cat]) rfl ?_
          refine R.goto (tgt := 2) dX2_isOrIsInside_18 (by decide) ?_
          exact ih (yP Y j) ha (fun k e => h.lP hj e) (by simpa [inO, show ¬ j = t by omega] using hq)
        · refine R.iconst (v := 1) dX2_isOrIsInside_11 rfl ?_
          refine WP.ret (ov := some (.int _)) dX2_isOrIsInside_12 ⟨rfl, _, rfl, by first | rfl | assumption | exact nar_b01 (by assumption)⟩ ?_
          simpa [inO, show j = t by omega] using hq
  refine R.aload_n dX2_isOrIsInside_0 rfl (by first | rfl | exact rfv_rf _) ?_
  refine R.astore_n dX2_isOrIsInside_1 (by first | rfl | exact rfv_rf _) (Nat.le_of_ble_eq_true rfl) (by decide) (by first | rfl | simp [lft, rf_cat]) rfl ?_
  exact key n (some i) ha (fun k e => by cases e; exact hi) hq
set_option maxHeartbeats 1000000 in
set_option maxRecDepth 4000 in
theorem s_cDepth {d : Nat} {y i n : Nat} {Y : Yd} {M : Mem} {Q : Out → Mem → Prop} (h : Yv M y Y) (hi : i < 16) (ha : acyO n (yP Y) (yP Y i)) (hq : Q (.inl (some (.int (nI (depO n (yP Y) (yP Y i)))))) M) : WPc d mX2_depth [.ref (rf 1 (16 * y + i))] M Q := by
  refine WPc.of (by decide +kernel) (Nat.le_of_ble_eq_true rfl) rfl ?_
  have key : ∀ (n : Nat) (o : Option Nat) (a : Nat), acyO n (yP Y) o → (∀ j, o = some j → j < 16) → Q (.inl (some (.int (nI (a + depO n (yP Y) o))))) M → WP mX2_depth d 7 [.ref (rf 1 (16 * y + i)), .int (nI a), va_rf (o.map fun j => rf 1 (16 * y + j))] [] M Q := by
    intro n
    induction n with
    | zero =>
      intro o a ha ho hq
      cases (show o = none from ha)
      show WP mX2_depth d 7 [.ref (rf 1 (16 * y + i)), .int (nI a), .null] [] M Q
      refine R.aload_n dX2_depth_7 rfl (by first | rfl | exact rfv_rf _) ?_
      refine R.ifnullN (tgt := 22) dX2_depth_8 (by decide) ?_
      refine R.iload_n dX2_depth_22 rfl ?_
      refine WP.ret (ov := some (.int _)) dX2_depth_23 ⟨rfl, _, rfl, by first | rfl | assumption | exact nar_b01 (by assumption)⟩ ?_
      exact hq
    | succ n ih =>
      intro o a ha ho hq
      cases o with
      | none =>
        show WP mX2_depth d 7 [.ref (rf 1 (16 * y + i)), .int (nI a), .null] [] M Q
        refine R.aload_n dX2_depth_7 rfl (by first | rfl | exact rfv_rf _) ?_
        refine R.ifnullN (tgt := 22) dX2_depth_8 (by decide) ?_
        refine R.iload_n dX2_depth_22 rfl ?_
        refine WP.ret (ov := some (.int _)) dX2_depth_23 ⟨rfl, _, rfl, by first | rfl | assumption | exact nar_b01 (by assumption)⟩ ?_
        exact hq
      | some j =>
        have hj := ho j rfl
        show WP mX2_depth d 7 [.ref (rf 1 (16 * y + i)), .int (nI a), .ref (rf 1 (16 * y + j))] [] M Q
        refine R.aload_n dX2_depth_7 rfl (by first | rfl | exact rfv_rf _) ?_
        refine R.ifnullS (tgt := 22) (by first | decide | exact Nat.lt_of_le_of_lt (Nat.le_of_eq (kd_rf _ _ (by decide))) (by decide)) dX2_depth_8 (by decide) ?_
        refine R.iinc dX2_depth_11 (Nat.le_of_ble_eq_true rfl) (by decide) (by first | rfl | simp [lft, rf_cat]) rfl (inc_nI _) rfl ?_
        refine R.aload_n dX2_depth_14 rfl (by first | rfl | exact rfv_rf _) ?_
        refine R.getR dX2_depth_15 fl_X2_27 (by decide) rfl ?_
        rw [h.rP hj]
        refine R.astore_n dX2_depth_18 (by first | rfl | exact rfv_rf _) (Nat.le_of_ble_eq_true rfl) (by decide) (by first | rfl | simp [lft, rf_cat]) rfl ?_
        refine R.goto (tgt := 7) dX2_depth_19 (by decide) ?_
        have e : a + 1 + depO n (yP Y) (yP Y j) = a + depO (n + 1) (yP Y) (some j) := by simp only [depO]; omega
        exact ih (yP Y j) (a + 1) ha (fun k e => h.lP hj e) (by rw [e]; exact hq)
  refine R.iconst (v := 0) dX2_depth_0 rfl ?_
  refine R.istore_n dX2_depth_1 (Nat.le_of_ble_eq_true rfl) (by decide) (by first | rfl | simp [lft, rf_cat]) rfl ?_
  refine R.aload_n dX2_depth_2 rfl (by first | rfl | exact rfv_rf _) ?_
  refine R.getR dX2_depth_3 fl_X2_27 (by decide) rfl ?_
  rw [h.rP hi]
  refine R.astore_n dX2_depth_6 (by first | rfl | exact rfv_rf _) (Nat.le_of_ble_eq_true rfl) (by decide) (by first | rfl | simp [lft, rf_cat]) rfl ?_
  exact key n (yP Y i) 0 ha (fun k e => h.lP hi e) (by rw [Nat.zero_add]; exact hq)
set_option maxHeartbeats 1000000 in
set_option maxRecDepth 4000 in
theorem s_cPar {d : Nat} {y : Nat} {Y : Yd} {i : Nat} {M : Mem} {Q : Out → Mem → Prop} (h : Yv M y Y) (hi : i < 16) (hq : Q (.inl (some (.int (pIx Y i)))) M) : WPc d mX2_parentIndex [.ref (rf 1 (16 * y + i))] M Q := by
  have hp := h.rP hi
  unfold pIx at hq
  cases e : yP Y i with
  | none =>
    rw [e] at hp hq
    exact s_cParN hp hq
  | some j =>
    rw [e] at hp hq
    refine s_cParS hp ?_
    rw [h.rC (h.lP hi e) 0, h.xC (h.lP hi e)]
    exact hq
set_option maxHeartbeats 1000000 in
set_option maxRecDepth 4000 in
theorem s_yAtN {d : Nat} {y : Nat} {Y : Yd} {x : Int32} {M : Mem} {Q : Out → Mem → Prop} (h : Yv M y Y) (hx : x < 0 ∨ yF Y 4 ≤ x ∨ 16 ≤ x) (hq : Q (.inl (some .null)) M) : WPc d mX11_crateAt [.ref (rf 9 y), .int x] M Q := by
  refine WPc.of (by decide +kernel) (Nat.le_of_ble_eq_true rfl) rfl ?_
  refine R.iload_n dX11_crateAt_0 rfl ?_
  refine R.if_lt (tgt := 18) dX11_crateAt_1 (by decide) (fun c1 => ?_) (fun c1 => ?_)
  · have n1 := i_nle c1
    refine R.null dX11_crateAt_18 ?_
    first | refine WP.ret (ov := some (.ref _)) dX11_crateAt_19 ⟨rfl, _, rfl, Or.inl ⟨_, rfl⟩⟩ ?_ | refine WP.ret (ov := some .null) dX11_crateAt_19 ⟨rfl, _, rfl, Or.inl ⟨_, rfl⟩⟩ ?_
    exact hq
  · have n1 := i_nlt c1
    refine R.iload_n dX11_crateAt_4 rfl ?_
    refine R.aload_n dX11_crateAt_5 rfl (by first | rfl | exact rfv_rf _) ?_
    refine R.getI dX11_crateAt_6 fl_X11_44 (by decide) rfl ?_
    refine R.icmp_ge (tgt := 18) dX11_crateAt_9 (by decide) (fun c9 => ?_) (fun c9 => ?_)
    · have n9 := i_nl2 c9
      refine R.null dX11_crateAt_18 ?_
      first | refine WP.ret (ov := some (.ref _)) dX11_crateAt_19 ⟨rfl, _, rfl, Or.inl ⟨_, rfl⟩⟩ ?_ | refine WP.ret (ov := some .null) dX11_crateAt_19 ⟨rfl, _, rfl, Or.inl ⟨_, rfl⟩⟩ ?_
      exact hq
    · have n9 := i_lt c9
      refine R.iload_n dX11_crateAt_12 rfl ?_
      refine R.bipush (v := 16) dX11_crateAt_13 (by decide) ?_
      refine R.icmp_lt (tgt := 20) dX11_crateAt_15 (by decide) (fun c15 => ?_) (fun c15 => ?_)
      · have n15 := i_nle c15
        rw [h.rF] at c9
        exact absurd hx (fun z => z.elim c1 (fun z => z.elim c9 (i_nle c15)))
      · have n15 := i_nlt c15
        refine R.null dX11_crateAt_18 ?_
        first | refine WP.ret (ov := some (.ref _)) dX11_crateAt_19 ⟨rfl, _, rfl, Or.inl ⟨_, rfl⟩⟩ ?_ | refine WP.ret (ov := some .null) dX11_crateAt_19 ⟨rfl, _, rfl, Or.inl ⟨_, rfl⟩⟩ ?_
        exact hq
set_option maxHeartbeats 1000000 in
set_option maxRecDepth 4000 in
theorem s_yAtS {d : Nat} {y : Nat} {Y : Yd} {i : Nat} {M : Mem} {Q : Out → Mem → Prop} (h : Yv M y Y) (hi : i < 16) (hc : ¬ yF Y 4 ≤ nI i) (hq : Q (.inl (some (.ref (rf 1 (16 * y + i))))) M) : WPc d mX11_crateAt [.ref (rf 9 y), .int (nI i)] M Q := by
  refine WPc.of (by decide +kernel) (Nat.le_of_ble_eq_true rfl) rfl ?_
  have hL := h.lay
  refine R.iload_n dX11_crateAt_0 rfl ?_
  refine R.if_lt (tgt := 18) dX11_crateAt_1 (by decide) (fun c1 => ?_) (fun c1 => ?_)
  · have n1 := i_nle c1
    exact absurd c1 (nI_pos (by omega))
  · have n1 := i_nlt c1
    refine R.iload_n dX11_crateAt_4 rfl ?_
    refine R.aload_n dX11_crateAt_5 rfl (by first | rfl | exact rfv_rf _) ?_
    refine R.getI dX11_crateAt_6 fl_X11_44 (by decide) rfl ?_
    refine R.icmp_ge (tgt := 18) dX11_crateAt_9 (by decide) (fun c9 => ?_) (fun c9 => ?_)
    · have n9 := i_nl2 c9
      rw [h.rF] at c9
      exact absurd c9 hc
    · have n9 := i_lt c9
      refine R.iload_n dX11_crateAt_12 rfl ?_
      refine R.bipush (v := 16) dX11_crateAt_13 (by decide) ?_
      refine R.icmp_lt (tgt := 20) dX11_crateAt_15 (by decide) (fun c15 => ?_) (fun c15 => ?_)
      · have n15 := i_nle c15
        refine R.aload_n dX11_crateAt_20 rfl (by first | rfl | exact rfv_rf _) ?_
        refine R.getS (lay0 (by first | assumption | exact hL)) dX11_crateAt_21 fl_X11_11 (by decide) rfl ?_
        refine R.iload_n dX11_crateAt_24 rfl ?_
        refine R.aalS (Lay.cr (by first | assumption | exact hL) hi) (by decide) (by decide) dX11_crateAt_25 (nI_pos (by omega)) (Lay.crl (by first | assumption | exact hL) hi) ?_
        first | refine WP.ret (ov := some (.ref _)) dX11_crateAt_26 ⟨rfl, _, rfl, Or.inl ⟨_, rfl⟩⟩ ?_ | refine WP.ret (ov := some .null) dX11_crateAt_26 ⟨rfl, _, rfl, Or.inl ⟨_, rfl⟩⟩ ?_
        exact hq
      · have n15 := i_nlt c15
        exact absurd (i_nlt c15) (nI_ge hi (by decide))
set_option maxHeartbeats 1000000 in
set_option maxRecDepth 4000 in
theorem s_yBatN {d : Nat} {y : Nat} {Y : Yd} {x : Int32} {M : Mem} {Q : Out → Mem → Prop} (h : Yv M y Y) (hx : x < 0 ∨ yF Y 5 ≤ x ∨ 6 ≤ x) (hq : Q (.inl (some .null)) M) : WPc d mX11_buyerAt [.ref (rf 9 y), .int x] M Q := by
  refine WPc.of (by decide +kernel) (Nat.le_of_ble_eq_true rfl) rfl ?_
  refine R.iload_n dX11_buyerAt_0 rfl ?_
  refine R.if_lt (tgt := 18) dX11_buyerAt_1 (by decide) (fun c1 => ?_) (fun c1 => ?_)
  · have n1 := i_nle c1
    refine R.null dX11_buyerAt_18 ?_
    first | refine WP.ret (ov := some (.ref _)) dX11_buyerAt_19 ⟨rfl, _, rfl, Or.inl ⟨_, rfl⟩⟩ ?_ | refine WP.ret (ov := some .null) dX11_buyerAt_19 ⟨rfl, _, rfl, Or.inl ⟨_, rfl⟩⟩ ?_
    exact hq
  · have n1 := i_nlt c1
    refine R.iload_n dX11_buyerAt_4 rfl ?_
    refine R.aload_n dX11_buyerAt_5 rfl (by first | rfl | exact rfv_rf _) ?_
    refine R.getI dX11_buyerAt_6 fl_X11_48 (by decide) rfl ?_
    refine R.icmp_ge (tgt := 18) dX11_buyerAt_9 (by decide) (fun c9 => ?_) (fun c9 => ?_)
    · have n9 := i_nl2 c9
      refine R.null dX11_buyerAt_18 ?_
      first | refine WP.ret (ov := some (.ref _)) dX11_buyerAt_19 ⟨rfl, _, rfl, Or.inl ⟨_, rfl⟩⟩ ?_ | refine WP.ret (ov := some .null) dX11_buyerAt_19 ⟨rfl, _, rfl, Or.inl ⟨_, rfl⟩⟩ ?_
      exact hq
    · have n9 := i_lt c9
      refine R.iload_n dX11_buyerAt_12 rfl ?_
      refine R.bipush (v := 6) dX11_buyerAt_13 (by decide) ?_
      refine R.icmp_lt (tgt := 20) dX11_buyerAt_15 (by decide) (fun c15 => ?_) (fun c15 => ?_)
      · have n15 := i_nle c15
        rw [h.rF] at c9
        exact absurd hx (fun z => z.elim c1 (fun z => z.elim c9 (i_nle c15)))
      · have n15 := i_nlt c15
        refine R.null dX11_buyerAt_18 ?_
        first | refine WP.ret (ov := some (.ref _)) dX11_buyerAt_19 ⟨rfl, _, rfl, Or.inl ⟨_, rfl⟩⟩ ?_ | refine WP.ret (ov := some .null) dX11_buyerAt_19 ⟨rfl, _, rfl, Or.inl ⟨_, rfl⟩⟩ ?_
        exact hq
set_option maxHeartbeats 1000000 in
set_option maxRecDepth 4000 in
theorem s_yBatS {d : Nat} {y : Nat} {Y : Yd} {i : Nat} {M : Mem} {Q : Out → Mem → Prop} (h : Yv M y Y) (hi : i < 6) (hc : ¬ yF Y 5 ≤ nI i) (hq : Q (.inl (some (.ref (rf 0 (6 * y + i))))) M) : WPc d mX11_buyerAt [.ref (rf 9 y), .int (nI i)] M Q := by
  refine WPc.of (by decide +kernel) (Nat.le_of_ble_eq_true rfl) rfl ?_
  have hL := h.lay
  refine R.iload_n dX11_buyerAt_0 rfl ?_
  refine R.if_lt (tgt := 18) dX11_buyerAt_1 (by decide) (fun c1 => ?_) (fun c1 => ?_)
  · have n1 := i_nle c1
    exact absurd c1 (nI_pos (by omega))
  · have n1 := i_nlt c1
    refine R.iload_n dX11_buyerAt_4 rfl ?_
    refine R.aload_n dX11_buyerAt_5 rfl (by first | rfl | exact rfv_rf _) ?_
    refine R.getI dX11_buyerAt_6 fl_X11_48 (by decide) rfl ?_
    refine R.icmp_ge (tgt := 18) dX11_buyerAt_9 (by decide) (fun c9 => ?_) (fun c9 => ?_)
    · have n9 := i_nl2 c9
      rw [h.rF] at c9
      exact absurd c9 hc
    · have n9 := i_lt c9
      refine R.iload_n dX11_buyerAt_12 rfl ?_
      refine R.bipush (v := 6) dX11_buyerAt_13 (by decide) ?_
      refine R.icmp_lt (tgt := 20) dX11_buyerAt_15 (by decide) (fun c15 => ?_) (fun c15 => ?_)
      · have n15 := i_nle c15
        refine R.aload_n dX11_buyerAt_20 rfl (by first | rfl | exact rfv_rf _) ?_
        refine R.getS (lay1 (by first | assumption | exact hL)) dX11_buyerAt_21 fl_X11_19 (by decide) rfl ?_
        refine R.iload_n dX11_buyerAt_24 rfl ?_
        refine R.aalS (Lay.br (by first | assumption | exact hL) hi) (by decide) (by decide) dX11_buyerAt_25 (nI_pos (by omega)) (Lay.brl (by first | assumption | exact hL) hi) ?_
        first | refine WP.ret (ov := some (.ref _)) dX11_buyerAt_26 ⟨rfl, _, rfl, Or.inl ⟨_, rfl⟩⟩ ?_ | refine WP.ret (ov := some .null) dX11_buyerAt_26 ⟨rfl, _, rfl, Or.inl ⟨_, rfl⟩⟩ ?_
        exact hq
      · have n15 := i_nlt c15
        exact absurd (i_nlt c15) (nI_ge hi (by decide))
set_option maxHeartbeats 1000000 in
set_option maxRecDepth 4000 in
theorem s_yNamed {d : Nat} {y : Nat} {Y : Yd} {x : Int32} {M : Mem} {Q : Out → Mem → Prop} (h : Yv M y Y) (hq : Q (.inl (some (va_rf ((cnF Y x 16 0).map fun j => rf 1 (16 * y + j))))) M) : WPc d mX11_crateNamed [.ref (rf 9 y), .int x] M Q := by
  refine WPc.of (by decide +kernel) (Nat.le_of_ble_eq_true rfl) rfl ?_
  have hL := h.lay
  have key : ∀ (k i : Nat) (v : Value), i + k = 16 → Q (.inl (some (va_rf ((cnF Y x k i).map fun j => rf 1 (16 * y + j))))) M → WP mX11_crateNamed d 11 [.ref (rf 9 y), .int x, .ref (rf 18 y), .int (nI 16), .int (nI i), v] [] M Q := by
    intro k
    induction k with
    | zero =>
      intro i v  hik hq
      have e : i = 16 := by omega
      subst e
      refine R.iload dX11_crateNamed_11 rfl ?_
      refine R.iload_n dX11_crateNamed_13 rfl ?_
      refine R.geT (tgt := 41) (Int32.le_refl _) dX11_crateNamed_14 (by decide) ?_
      refine R.null dX11_crateNamed_41 ?_
      first | refine WP.ret (ov := some (.ref _)) dX11_crateNamed_42 ⟨rfl, _, rfl, Or.inl ⟨_, rfl⟩⟩ ?_ | refine WP.ret (ov := some .null) dX11_crateNamed_42 ⟨rfl, _, rfl, Or.inl ⟨_, rfl⟩⟩ ?_
      exact hq
    | succ k ih =>
      intro i v  hik hq
      have hi : i < 16 := by omega
      refine R.iload dX11_crateNamed_11 rfl ?_
      refine R.iload_n dX11_crateNamed_13 rfl ?_
      refine R.geF (tgt := 41) (nI_ge hi (by decide)) dX11_crateNamed_14 (by decide) ?_
      refine R.aload_n dX11_crateNamed_17 rfl (by first | rfl | exact rfv_rf _) ?_
      refine R.iload dX11_crateNamed_18 rfl ?_
      refine R.aalS (Lay.cr (by first | assumption | exact hL) hi) (by decide) (by decide) dX11_crateNamed_20 (nI_pos (by omega)) (Lay.crl (by first | assumption | exact hL) hi) ?_
      refine R.astore dX11_crateNamed_21 (by first | rfl | exact rfv_rf _) (Nat.le_of_ble_eq_true rfl) (by decide) (by first | rfl | simp [lft, rf_cat]) rfl ?_
      refine R.aload dX11_crateNamed_23 rfl (by first | rfl | exact rfv_rf _) ?_
      refine R.getI dX11_crateNamed_25 fl_X11_89 (by decide) rfl ?_
      refine R.iload_n dX11_crateNamed_28 rfl ?_
      refine R.icmp_ne (tgt := 35) dX11_crateNamed_29 (by decide) (fun c29 => ?_) (fun c29 => ?_)
      · refine R.iinc dX11_crateNamed_35 (Nat.le_of_ble_eq_true rfl) (by decide) (by first | rfl | simp [lft, rf_cat]) rfl (inc_nI _) rfl ?_
        refine R.goto (tgt := 11) dX11_crateNamed_38 (by decide) ?_
        exact ih (i + 1) _ (by omega) (by rw [cnF, if_neg (by rw [h.rC hi] at c29; exact c29)] at hq; exact hq)
      · refine R.aload dX11_crateNamed_32 rfl (by first | rfl | exact rfv_rf _) ?_
        first | refine WP.ret (ov := some (.ref _)) dX11_crateNamed_34 ⟨rfl, _, rfl, Or.inl ⟨_, rfl⟩⟩ ?_ | refine WP.ret (ov := some .null) dX11_crateNamed_34 ⟨rfl, _, rfl, Or.inl ⟨_, rfl⟩⟩ ?_
        rw [cnF, if_pos (by rw [h.rC hi] at c29; exact c29)] at hq
        exact hq
  refine R.aload_n dX11_crateNamed_0 rfl (by first | rfl | exact rfv_rf _) ?_
  refine R.getS (lay0 (by first | assumption | exact hL)) dX11_crateNamed_1 fl_X11_11 (by decide) rfl ?_
  refine R.astore_n dX11_crateNamed_4 (by first | rfl | exact rfv_rf _) (Nat.le_of_ble_eq_true rfl) (by decide) (by first | rfl | simp [lft, rf_cat]) rfl ?_
  refine R.aload_n dX11_crateNamed_5 rfl (by first | rfl | exact rfv_rf _) ?_
  refine R.alenS (lay4 (by first | assumption | exact hL)) (by decide) (by decide) dX11_crateNamed_6 ?_
  refine R.istore_n dX11_crateNamed_7 (Nat.le_of_ble_eq_true rfl) (by decide) (by first | rfl | simp [lft, rf_cat]) rfl ?_
  refine R.iconst (v := 0) dX11_crateNamed_8 rfl ?_
  refine R.istore dX11_crateNamed_9 (Nat.le_of_ble_eq_true rfl) (by decide) (by first | rfl | simp [lft, rf_cat]) rfl ?_
  exact key 16 0 _ (by omega) hq
set_option maxHeartbeats 1000000 in
set_option maxRecDepth 4000 in
theorem s_yBnamed {d : Nat} {y : Nat} {Y : Yd} {x : Int32} {M : Mem} {Q : Out → Mem → Prop} (h : Yv M y Y) (hq : Q (.inl (some (va_rf ((bnF Y x 6 0).map fun j => rf 0 (6 * y + j))))) M) : WPc d mX11_buyerNamed [.ref (rf 9 y), .int x] M Q := by
  refine WPc.of (by decide +kernel) (Nat.le_of_ble_eq_true rfl) rfl ?_
  have hL := h.lay
  have key : ∀ (k i : Nat) (v : Value), i + k = 6 → Q (.inl (some (va_rf ((bnF Y x k i).map fun j => rf 0 (6 * y + j))))) M → WP mX11_buyerNamed d 11 [.ref (rf 9 y), .int x, .ref (rf 17 y), .int (nI 6), .int (nI i), v] [] M Q := by
    intro k
    induction k with
    | zero =>
      intro i v  hik hq
      have e : i = 6 := by omega
      subst e
      refine R.iload dX11_buyerNamed_11 rfl ?_
      refine R.iload_n dX11_buyerNamed_13 rfl ?_
      refine R.geT (tgt := 41) (Int32.le_refl _) dX11_buyerNamed_14 (by decide) ?_
      refine R.null dX11_buyerNamed_41 ?_
      first | refine WP.ret (ov := some (.ref _)) dX11_buyerNamed_42 ⟨rfl, _, rfl, Or.inl ⟨_, rfl⟩⟩ ?_ | refine WP.ret (ov := some .null) dX11_buyerNamed_42 ⟨rfl, _, rfl, Or.inl ⟨_, rfl⟩⟩ ?_
      exact hq
    | succ k ih =>
      intro i v  hik hq
      have hi : i < 6 := by omega
      refine R.iload dX11_buyerNamed_11 rfl ?_
      refine R.iload_n dX11_buyerNamed_13 rfl ?_
      refine R.geF (tgt := 41) (nI_ge hi (by decide)) dX11_buyerNamed_14 (by decide) ?_
      refine R.aload_n dX11_buyerNamed_17 rfl (by first | rfl | exact rfv_rf _) ?_
      refine R.iload dX11_buyerNamed_18 rfl ?_
      refine R.aalS (Lay.br (by first | assumption | exact hL) hi) (by decide) (by decide) dX11_buyerNamed_20 (nI_pos (by omega)) (Lay.brl (by first | assumption | exact hL) hi) ?_
      refine R.astore dX11_buyerNamed_21 (by first | rfl | exact rfv_rf _) (Nat.le_of_ble_eq_true rfl) (by decide) (by first | rfl | simp [lft, rf_cat]) rfl ?_
      refine R.aload dX11_buyerNamed_23 rfl (by first | rfl | exact rfv_rf _) ?_
      refine R.getI dX11_buyerNamed_25 fl_X11_92 (by decide) rfl ?_
      refine R.iload_n dX11_buyerNamed_28 rfl ?_
      refine R.icmp_ne (tgt := 35) dX11_buyerNamed_29 (by decide) (fun c29 => ?_) (fun c29 => ?_)
      · refine R.iinc dX11_buyerNamed_35 (Nat.le_of_ble_eq_true rfl) (by decide) (by first | rfl | simp [lft, rf_cat]) rfl (inc_nI _) rfl ?_
        refine R.goto (tgt := 11) dX11_buyerNamed_38 (by decide) ?_
        exact ih (i + 1) _ (by omega) (by rw [bnF, if_neg (by rw [h.rB hi] at c29; exact c29)] at hq; exact hq)
      · refine R.aload dX11_buyerNamed_32 rfl (by first | rfl | exact rfv_rf _) ?_
        first | refine WP.ret (ov := some (.ref _)) dX11_buyerNamed_34 ⟨rfl, _, rfl, Or.inl ⟨_, rfl⟩⟩ ?_ | refine WP.ret (ov := some .null) dX11_buyerNamed_34 ⟨rfl, _, rfl, Or.inl ⟨_, rfl⟩⟩ ?_
        rw [bnF, if_pos (by rw [h.rB hi] at c29; exact c29)] at hq
        exact hq
  refine R.aload_n dX11_buyerNamed_0 rfl (by first | rfl | exact rfv_rf _) ?_
  refine R.getS (lay1 (by first | assumption | exact hL)) dX11_buyerNamed_1 fl_X11_19 (by decide) rfl ?_
  refine R.astore_n dX11_buyerNamed_4 (by first | rfl | exact rfv_rf _) (Nat.le_of_ble_eq_true rfl) (by decide) (by first | rfl | simp [lft, rf_cat]) rfl ?_
  refine R.aload_n dX11_buyerNamed_5 rfl (by first | rfl | exact rfv_rf _) ?_
  refine R.alenS (lay5 (by first | assumption | exact hL)) (by decide) (by decide) dX11_buyerNamed_6 ?_
  refine R.istore_n dX11_buyerNamed_7 (Nat.le_of_ble_eq_true rfl) (by decide) (by first | rfl | simp [lft, rf_cat]) rfl ?_
  refine R.iconst (v := 0) dX11_buyerNamed_8 rfl ?_
  refine R.istore dX11_buyerNamed_9 (Nat.le_of_ble_eq_true rfl) (by decide) (by first | rfl | simp [lft, rf_cat]) rfl ?_
  exact key 6 0 _ (by omega) hq
set_option maxHeartbeats 1000000 in
set_option maxRecDepth 4000 in
theorem s_yStored {d : Nat} {y : Nat} {Y : Yd} {M : Mem} {Q : Out → Mem → Prop} (h : Yv M y Y) (hq : Q (.inl (some (.int (stF Y 16 0 0)))) M) : WPc d mX11_storedReadings [.ref (rf 9 y)] M Q := by
  refine WPc.of (by decide +kernel) (Nat.le_of_ble_eq_true rfl) rfl ?_
  have hL := h.lay
  have key : ∀ (k i : Nat) (v : Value) (a : Int32), i + k = 16 → Q (.inl (some (.int (stF Y k i a)))) M → WP mX11_storedReadings d 13 [.ref (rf 9 y), .int a, .ref (rf 18 y), .int (nI 16), .int (nI i), v] [] M Q := by
    intro k
    induction k with
    | zero =>
      intro i v a hik hq
      have e : i = 16 := by omega
      subst e
      refine R.iload dX11_storedReadings_13 rfl ?_
      refine R.iload_n dX11_storedReadings_15 rfl ?_
      refine R.geT (tgt := 39) (Int32.le_refl _) dX11_storedReadings_16 (by decide) ?_
      refine R.iload_n dX11_storedReadings_39 rfl ?_
      refine WP.ret (ov := some (.int _)) dX11_storedReadings_40 ⟨rfl, _, rfl, by first | rfl | assumption | exact nar_b01 (by assumption)⟩ ?_
      exact hq
    | succ k ih =>
      intro i v a hik hq
      have hi : i < 16 := by omega
      refine R.iload dX11_storedReadings_13 rfl ?_
      refine R.iload_n dX11_storedReadings_15 rfl ?_
      refine R.geF (tgt := 39) (nI_ge hi (by decide)) dX11_storedReadings_16 (by decide) ?_
      refine R.aload_n dX11_storedReadings_19 rfl (by first | rfl | exact rfv_rf _) ?_
      refine R.iload dX11_storedReadings_20 rfl ?_
      refine R.aalS (Lay.cr (by first | assumption | exact hL) hi) (by decide) (by decide) dX11_storedReadings_22 (nI_pos (by omega)) (Lay.crl (by first | assumption | exact hL) hi) ?_
      refine R.astore dX11_storedReadings_23 (by first | rfl | exact rfv_rf _) (Nat.le_of_ble_eq_true rfl) (by decide) (by first | rfl | simp [lft, rf_cat]) rfl ?_
      refine R.iload_n dX11_storedReadings_25 rfl ?_
      refine R.aload dX11_storedReadings_26 rfl (by first | rfl | exact rfv_rf _) ?_
      refine R.getI dX11_storedReadings_28 fl_X11_159 (by decide) rfl ?_
      refine R.iadd dX11_storedReadings_31 ?_
      refine R.istore_n dX11_storedReadings_32 (Nat.le_of_ble_eq_true rfl) (by decide) (by first | rfl | simp [lft, rf_cat]) rfl ?_
      refine R.iinc dX11_storedReadings_33 (Nat.le_of_ble_eq_true rfl) (by decide) (by first | rfl | simp [lft, rf_cat]) rfl (inc_nI _) rfl ?_
      refine R.goto (tgt := 13) dX11_storedReadings_36 (by decide) ?_
      rw [h.rC hi]
      exact ih (i + 1) _ _ (by omega) hq
  refine R.iconst (v := 0) dX11_storedReadings_0 rfl ?_
  refine R.istore_n dX11_storedReadings_1 (Nat.le_of_ble_eq_true rfl) (by decide) (by first | rfl | simp [lft, rf_cat]) rfl ?_
  refine R.aload_n dX11_storedReadings_2 rfl (by first | rfl | exact rfv_rf _) ?_
  refine R.getS (lay0 (by first | assumption | exact hL)) dX11_storedReadings_3 fl_X11_11 (by decide) rfl ?_
  refine R.astore_n dX11_storedReadings_6 (by first | rfl | exact rfv_rf _) (Nat.le_of_ble_eq_true rfl) (by decide) (by first | rfl | simp [lft, rf_cat]) rfl ?_
  refine R.aload_n dX11_storedReadings_7 rfl (by first | rfl | exact rfv_rf _) ?_
  refine R.alenS (lay4 (by first | assumption | exact hL)) (by decide) (by decide) dX11_storedReadings_8 ?_
  refine R.istore_n dX11_storedReadings_9 (Nat.le_of_ble_eq_true rfl) (by decide) (by first | rfl | simp [lft, rf_cat]) rfl ?_
  refine R.iconst (v := 0) dX11_storedReadings_10 rfl ?_
  refine R.istore dX11_storedReadings_11 (Nat.le_of_ble_eq_true rfl) (by decide) (by first | rfl | simp [lft, rf_cat]) rfl ?_
  exact key 16 0 _ 0 (by omega) hq