/-! the setup is read -/
def inS (k i : Nat) : Prop := inT k i ∨ inY 2 k i
theorem nT5 : ¬ inT 5 0 := by unfold inT; omega
theorem nS5 : ¬ inS 5 0 := by unfold inS inT inY; omega
theorem nY5 {y : Nat} : ¬ inY y 5 0 := by unfold inY; omega
theorem nY7 {y : Nat} : ¬ inY y 7 0 := by unfold inY; omega
theorem nY13 {y : Nat} : ¬ inY y 13 0 := by unfold inY; omega
theorem nTY {y : Nat} : ∀ k i, inY y k i → ¬ inT k i := by intro k i h; unfold inY at h; unfold inT; omega
theorem T_S : ∀ k i, inT k i → inS k i := fun _ _ h => Or.inl h
theorem Y_S : ∀ k i, inY 2 k i → inS k i := fun _ _ h => Or.inr h
def LSe (M : Mem) : Prop := mR M 5 0 0 = some (rf 7 0) ∧ mR M 5 0 1 = some (rf 9 2)
theorem LSe.fr {S : Nat → Nat → Prop} {M M' : Mem} (h : LSe M) (hF : Fr S M M') (hn : ¬ S 5 0) : LSe M' := by
  have e := hF.2.2.2.2 5 0 hn
  exact ⟨by rw [e.2.2.1]; exact h.1, by rw [e.2.2.1]; exact h.2⟩
/-- what is known of a draft: m crates and w buyers, the rest blank -/
def DY (Y : Yd) (m w : Nat) : Prop := m ≤ 16 ∧ w ≤ 6 ∧ yF Y 4 = nI m ∧ yF Y 5 = nI w ∧ (∀ i j, i < 16 → yP Y i = some j → i < m ∧ j < m) ∧ Acy Y ∧ ∀ i, i < 16 → m ≤ i → yC Y i 1 = 0
abbrev PR : Type := (Int32 × Nat) ⊕ (Nat × Yd)
def okR (r : PR) : Int32 := match r with
  | .inl _ => 0
  | .inr _ => 1
def PoR (b : Nat → Int32) (n : Nat) (r : PR) (M M' : Mem) : Prop := Fr inS M M' ∧ match r with
  | .inl (cd, f) => (∃ e k, Tx M' b n (f, e, k, cd, nI f)) ∧ ∃ Y', Yv M' 2 Y'
  | .inr (e', Y') => (∃ s k, Tx M' b n (s, e', k, 0, -1)) ∧ Yv M' 2 Y'
def rqC (b : Nat → Int32) (s e : Nat) (Y : Yd) : Int32 := match cnF Y (nmF b s e) 16 0 with
  | none => 4
  | some j => if nI (dp Y j) < 5 then 0 else 5
theorem cnF_lt {Y : Yd} {x : Int32} {c : Nat} : ∀ k i, i + k = 16 → cnF Y x k i = some c → c < 16 := by
  intro k
  induction k with
  | zero => intro i _ h; cases h
  | succ k ih =>
    intro i hik h
    rw [cnF] at h
    split at h
    · cases h; omega
    · exact ih (i + 1) (by omega) h
theorem bnF_lt {Y : Yd} {x : Int32} {c : Nat} : ∀ k i, i + k = 6 → bnF Y x k i = some c → c < 6 := by
  intro k
  induction k with
  | zero => intro i _ h; cases h
  | succ k ih =>
    intro i hik h
    rw [bnF] at h
    split at h
    · cases h; omega
    · exact ih (i + 1) (by omega) h
theorem PoR.no {b : Nat → Int32} {n f e : Nat} {cd k : Int32} {M M' : Mem} {Y : Yd} (h1 : Fr inS M M') (h2 : Tx M' b n (f, e, k, cd, nI f)) (h3 : Yv M' 2 Y) : PoR b n (.inl (cd, f)) M M' := ⟨h1, ⟨_, _, h2⟩, _, h3⟩
theorem PoR.yes {b : Nat → Int32} {n s e : Nat} {k : Int32} {M M' : Mem} {Y : Yd} (h1 : Fr inS M M') (h2 : Tx M' b n (s, e, k, 0, -1)) (h3 : Yv M' 2 Y) : PoR b n (.inr (e, Y)) M M' := ⟨h1, ⟨_, _, h2⟩, h3⟩
theorem Tx.no {b : Nat → Int32} {n s e : Nat} {k c q cd : Int32} {M : Mem} (h : Tx M b n (erA cd (s, e, k, c, q))) (w : ¬ cd = 0) : Tx M b n (s, e, k, cd, nI s) := by
  unfold erA at h
  rw [if_neg w] at h
  exact h
theorem Tx.ok {b : Nat → Int32} {n s e : Nat} {k c q cd : Int32} {M : Mem} (h : Tx M b n (erA cd (s, e, k, c, q))) (w : cd = 0) : Tx M b n (s, e, k, c, q) := by
  unfold erA at h
  rw [if_pos w] at h
  exact h
def crP9 (b : Nat → Int32) (n e : Nat) (Y : Yd) : PR := if scC (tK b n e) = 0 then .inr (tE b n e, Y) else .inl (scC (tK b n e), tS b n e)
def crP7 (b : Nat → Int32) (n s e m : Nat) (nm ta go : Int32) (Y : Yd) : PR := if rqC b s e Y = 0 then (match cnF Y (nmF b s e) 16 0 with
  | none => .inl (4, s)
  | some j => crP9 b n e (neY (acY Y m nm ta go) m j)) else .inl (rqC b s e Y, s)
def crP6 (b : Nat → Int32) (n e m : Nat) (nm ta go : Int32) (Y : Yd) : PR := if nnC b n e = 0 then crP7 b n (tS b n e) (tE b n e) m nm ta go Y else .inl (nnC b n e, tS b n e)
def crP5 (b : Nat → Int32) (n e m : Nat) (nm ta go : Int32) (Y : Yd) : PR := if isW b (tS b n e) (tE b n e) (tK b n e) 13 = true then crP6 b n (tE b n e) m nm ta go Y else crP9 b n e (acY Y m nm ta go)
def crP4 (b : Nat → Int32) (n e m : Nat) (nm ta : Int32) (Y : Yd) : PR := if nbC b n e 0 500 = 0 then crP5 b n (tE b n e) m nm ta (nbV b n e) Y else .inl (nbC b n e 0 500, tS b n e)
def crP3 (b : Nat → Int32) (n e m : Nat) (nm : Int32) (Y : Yd) : PR := if nbC b n e 1 50 = 0 then crP4 b n (tE b n e) m nm (nbV b n e) Y else .inl (nbC b n e 1 50, tS b n e)
def crP2 (b : Nat → Int32) (n s e m : Nat) (Y : Yd) : PR := if cnF Y (nmF b s e) 16 0 = none then crP3 b n e m (nmF b s e) Y else .inl (3, s)
def crP1 (b : Nat → Int32) (n e m : Nat) (Y : Yd) : PR := if nnC b n e = 0 then crP2 b n (tS b n e) (tE b n e) m Y else .inl (nnC b n e, tS b n e)
def crP0 (b : Nat → Int32) (n s e m : Nat) (Y : Yd) : PR := if 16 ≤ m then .inl (6, s) else crP1 b n e m Y
def buP6 (b : Nat → Int32) (n e w : Nat) (nm mo to tr : Int32) (Y : Yd) : PR := if scC (tK b n e) = 0 then .inr (tE b n e, abY Y w nm mo to tr) else .inl (scC (tK b n e), tS b n e)
def buP5 (b : Nat → Int32) (n e w : Nat) (nm mo to : Int32) (Y : Yd) : PR := if nbC b n e 0 100 = 0 then buP6 b n (tE b n e) w nm mo to (nbV b n e) Y else .inl (nbC b n e 0 100, tS b n e)
def buP4 (b : Nat → Int32) (n e w : Nat) (nm mo : Int32) (Y : Yd) : PR := if nbC b n e 0 50 = 0 then buP5 b n (tE b n e) w nm mo (nbV b n e) Y else .inl (nbC b n e 0 50, tS b n e)
def buP3 (b : Nat → Int32) (n e w : Nat) (nm : Int32) (Y : Yd) : PR := if nbC b n e 0 9999 = 0 then buP4 b n (tE b n e) w nm (nbV b n e) Y else .inl (nbC b n e 0 9999, tS b n e)
def buP2 (b : Nat → Int32) (n s e w : Nat) (Y : Yd) : PR := if bnF Y (nmF b s e) 6 0 = none then buP3 b n e w (nmF b s e) Y else .inl (3, s)
def buP1 (b : Nat → Int32) (n e w : Nat) (Y : Yd) : PR := if nnC b n e = 0 then buP2 b n (tS b n e) (tE b n e) w Y else .inl (nnC b n e, tS b n e)
def buP0 (b : Nat → Int32) (n s e w : Nat) (Y : Yd) : PR := if 6 ≤ w then .inl (6, s) else buP1 b n e w Y
/-- settings: the code, and the draft -/
abbrev SR : Type := Int32 × Yd
theorem dep_acy : ∀ (n : Nat) (P : Nat → Option Nat) (o : Option Nat), acyO (n + 1) P o → depO (n + 1) P o ≤ n → acyO n P o := by
  intro n
  induction n with
  | zero =>
    intro P o h h2
    cases o with
    | none => rfl
    | some j => simp only [depO] at h2; omega
  | succ n ih =>
    intro P o h h2
    cases o with
    | none => trivial
    | some j =>
      have h2' : depO (n + 1) P (P j) + 1 ≤ n + 1 := h2
      exact ih P (P j) h (by omega)
theorem acyO_up : ∀ (n : Nat) (P : Nat → Option Nat) (o : Option Nat) (m : Nat) (v : Option Nat), (∀ i j, P i = some j → j < m) → (∀ j, o = some j → j < m) → acyO n P o → acyO n (fun i => if i = m then v else P i) o := by
  intro n
  induction n with
  | zero => intro P o m v _ _ h; exact h
  | succ n ih =>
    intro P o m v hP ho h
    cases o with
    | none => trivial
    | some j =>
      have hj := ho j rfl
      show acyO n _ (if j = m then v else P j)
      rw [if_neg (by omega)]
      exact ih P (P j) m v hP (fun k hk => hP j k hk) h
theorem acyO_mo : ∀ (n : Nat) (P : Nat → Option Nat) (o : Option Nat), acyO n P o → acyO (n + 1) P o := by
  intro n
  induction n with
  | zero => intro P o h; cases (show o = none from h); trivial
  | succ n ih =>
    intro P o h
    cases o with
    | none => trivial
    | some j => exact ih P (P j) h
set_option maxHeartbeats 1000000 in
set_option maxRecDepth 4000 in
theorem s_suReq {d : Nat} {b : Nat → Int32} {n s e : Nat} {k : Int32} {Y : Yd} {c q : Int32} {m w : Nat} {M : Mem} {Q : Out → Mem → Prop} (h : Tx M b n (s, e, k, c, q)) (hse : s ≤ e) (g : Yv M 2 Y) (l : LSe M) (hD : DY Y m w) (hq : ∀ M', Tx M' b n (erA (rqC b s e Y) (s, e, k, c, q)) → Fr inT M M' → Q (.inl (some (.int (erR (rqC b s e Y))))) M') : WPc (d + 2) mX6_requireOuter [.ref (rf 5 0)] M Q := by
  refine WPc.of (by decide +kernel) (Nat.le_of_ble_eq_true rfl) rfl ?_
  have G := Fr.rf inS M
  cases hc9 : cnF Y (nmF b s e) 16 0 with
  | none =>
    refine R.aload_n dX6_requireOuter_0 rfl (by first | rfl | exact rfv_rf _) ?_
    refine R.getS (l.2) dX6_requireOuter_1 fl_X6_15 (by decide) rfl ?_
    refine R.aload_n dX6_requireOuter_4 rfl (by first | rfl | exact rfv_rf _) ?_
    refine R.getS (l.1) dX6_requireOuter_5 fl_X6_9 (by decide) rfl ?_
    refine cl_X6_62 rfl rfl (by first | exact Nat.le_of_ble_eq_true rfl | simp [rf_cat, Value.category]) dX6_requireOuter_8 ?_
    refine s_tName h hse ?_
    refine cl_X6_66 rfl rfl (by first | exact Nat.le_of_ble_eq_true rfl | simp [rf_cat, Value.category]) dX6_requireOuter_11 ?_
    refine s_yNamed g ?_
    rw [hc9]
    refine R.astore_n dX6_requireOuter_14 (by first | rfl | exact rfv_rf _) (Nat.le_of_ble_eq_true rfl) (by decide) (by first | rfl | simp [lft, rf_cat]) rfl ?_
    refine R.aload_n dX6_requireOuter_15 rfl (by first | rfl | exact rfv_rf _) ?_
    refine R.ifnonnullN (tgt := 28) dX6_requireOuter_16 (by decide) ?_
    refine R.aload_n dX6_requireOuter_19 rfl (by first | rfl | exact rfv_rf _) ?_
    refine R.getS (l.1) dX6_requireOuter_20 fl_X6_9 (by decide) rfl ?_
    refine R.iconst (v := 4) dX6_requireOuter_23 rfl ?_
    refine cl_X6_55 rfl rfl (by first | exact Nat.le_of_ble_eq_true rfl | simp [rf_cat, Value.category]) dX6_requireOuter_24 ?_
    refine s_tFail h (fun M24 h24 F24 => ?_)
    have g24 := g.fr F24 nTY
    have l24 := l.fr F24 nT5
    have G24 := G.tr (F24.mo T_S)
    refine WP.ret (ov := some (.int _)) dX6_requireOuter_27 ⟨rfl, _, rfl, by first | rfl | assumption | exact nar_b01 (by assumption)⟩ ?_
    have hr : rqC b s e Y = 4 := by unfold rqC; rw [hc9]
    rw [hr] at hq
    exact hq M24 h24 F24
  | some j =>
    have hj := cnF_lt 16 0 (by omega) hc9
    refine R.aload_n dX6_requireOuter_0 rfl (by first | rfl | exact rfv_rf _) ?_
    refine R.getS (l.2) dX6_requireOuter_1 fl_X6_15 (by decide) rfl ?_
    refine R.aload_n dX6_requireOuter_4 rfl (by first | rfl | exact rfv_rf _) ?_
    refine R.getS (l.1) dX6_requireOuter_5 fl_X6_9 (by decide) rfl ?_
    refine cl_X6_62 rfl rfl (by first | exact Nat.le_of_ble_eq_true rfl | simp [rf_cat, Value.category]) dX6_requireOuter_8 ?_
    refine s_tName h hse ?_
    refine cl_X6_66 rfl rfl (by first | exact Nat.le_of_ble_eq_true rfl | simp [rf_cat, Value.category]) dX6_requireOuter_11 ?_
    refine s_yNamed g ?_
    rw [hc9]
    refine R.astore_n dX6_requireOuter_14 (by first | rfl | exact rfv_rf _) (Nat.le_of_ble_eq_true rfl) (by decide) (by first | rfl | simp [lft, rf_cat]) rfl ?_
    refine R.aload_n dX6_requireOuter_15 rfl (by first | rfl | exact rfv_rf _) ?_
    refine R.ifnonnullS (tgt := 28) (by first | decide | exact Nat.lt_of_le_of_lt (Nat.le_of_eq (kd_rf _ _ (by decide))) (by decide)) dX6_requireOuter_16 (by decide) ?_
    refine R.aload_n dX6_requireOuter_28 rfl (by first | rfl | exact rfv_rf _) ?_
    refine cl_X6_96 rfl rfl (by first | exact Nat.le_of_ble_eq_true rfl | simp [rf_cat, Value.category]) dX6_requireOuter_29 ?_
    refine s_cDepth g hj (hD.2.2.2.2.2.1 j hj) ?_
    refine R.iconst (v := 5) dX6_requireOuter_32 rfl ?_
    refine R.icmp_lt (tgt := 47) dX6_requireOuter_33 (by decide) (fun c33 => ?_) (fun c33 => ?_)
    · have n33 := i_nle c33
      refine R.iconst (v := 1) dX6_requireOuter_47 rfl ?_
      refine R.goto (tgt := 52) dX6_requireOuter_48 (by decide) ?_
      refine WP.ret (ov := some (.int _)) dX6_requireOuter_52 ⟨rfl, _, rfl, by first | rfl | assumption | exact nar_b01 (by assumption)⟩ ?_
      have hr : rqC b s e Y = 0 := by unfold rqC; rw [hc9]; exact if_pos c33
      rw [hr] at hq
      exact hq M h (Fr.rf _ _)
    · have n33 := i_nlt c33
      refine R.aload_n dX6_requireOuter_36 rfl (by first | rfl | exact rfv_rf _) ?_
      refine R.getS (l.1) dX6_requireOuter_37 fl_X6_9 (by decide) rfl ?_
      refine R.iconst (v := 5) dX6_requireOuter_40 rfl ?_
      refine cl_X6_55 rfl rfl (by first | exact Nat.le_of_ble_eq_true rfl | simp [rf_cat, Value.category]) dX6_requireOuter_41 ?_
      refine s_tFail h (fun M41 h41 F41 => ?_)
      have g41 := g.fr F41 nTY
      have l41 := l.fr F41 nT5
      have G41 := G.tr (F41.mo T_S)
      refine R.if_eq (tgt := 51) dX6_requireOuter_44 (by decide) (fun _ => ?_) (fun c => absurd rfl c)
      refine R.iconst (v := 0) dX6_requireOuter_51 rfl ?_
      refine WP.ret (ov := some (.int _)) dX6_requireOuter_52 ⟨rfl, _, rfl, by first | rfl | assumption | exact nar_b01 (by assumption)⟩ ?_
      have hr : rqC b s e Y = 5 := by unfold rqC; rw [hc9]; exact if_neg c33
      rw [hr] at hq
      exact hq M41 h41 F41
theorem tru {p : Bool} (h : ¬ (if p = true then (1 : Int32) else 0) = 0) : p = true := by
  cases p
  · exact absurd rfl h
  · rfl
theorem fls {p : Bool} (h : (if p = true then (1 : Int32) else 0) = 0) : ¬ p = true := by
  intro z; rw [if_pos z] at h; exact absurd h (by decide)
theorem DY.b16 {Y : Yd} {m w : Nat} (h : DY Y m w) : m ≤ 16 := h.1
theorem lt_16 {m k : Nat} (hk : k < 2 ^ 31) (hm : m < 2 ^ 31) : nI m < nI k ↔ m < k := by
  rw [Int32.lt_iff_toInt_lt, nI_toInt hm, nI_toInt hk]; omega
theorem acy_new {Y : Yd} {m w : Nat} {nm ta go : Int32} (hD : DY Y m w) (hm : m < 16) : Acy (acY Y m nm ta go) := hD.2.2.2.2.2.1
theorem yP_awO : ∀ (n : Nat) (Y : Yd) (o : Option Nat) (w : Int32), yP (awO n Y o w) = yP Y := by
  intro n
  induction n with
  | zero => intro Y o w; rfl
  | succ n ih =>
    intro Y o w
    cases o with
    | none => rfl
    | some j => exact (ih (awC Y j w) (yP Y j) w).trans (yP_aw Y j w)
theorem rq_lt {b : Nat → Int32} {s e j : Nat} {Y : Yd} (h : rqC b s e Y = 0) (hc : cnF Y (nmF b s e) 16 0 = some j) : nI (dp Y j) < 5 := by
  unfold rqC at h
  rw [hc] at h
  by_cases z : nI (dp Y j) < 5
  · exact z
  · exact absurd h (by show ¬ (if nI (dp Y j) < 5 then (0 : Int32) else 5) = 0; rw [if_neg z]; decide)
theorem depO_le : ∀ (n : Nat) (P : Nat → Option Nat) (o : Option Nat), depO n P o ≤ n := by
  intro n
  induction n with
  | zero => intro P o; exact Nat.le_refl _
  | succ n ih =>
    intro P o
    cases o with
    | none => exact Nat.zero_le _
    | some j => exact Nat.succ_le_succ (ih P (P j))
theorem acy4 {Y : Yd} {j : Nat} (hA : Acy Y) (hj : j < 16) (h : nI (dp Y j) < 5) : acyO 4 (yP Y) (yP Y j) := by
  have h5 : dp Y j ≤ 5 := depO_le 5 _ _
  have h2 : dp Y j < 5 := (lt_16 (k := 5) (by decide) (by omega)).mp h
  exact dep_acy 4 (yP Y) (yP Y j) (hA j hj) (Nat.le_of_lt_succ h2)
theorem acy_nest {Y : Yd} {m w j : Nat} {nm ta go : Int32} (hD : DY Y m w) (hm : m < 16) (hj : j < 16) (h : nI (dp Y j) < 5) (hj2 : j < m) : acyO 6 (yP (neY0 (acY Y m nm ta go) m j)) (some j) := by
  have h4 := acy4 hD.2.2.2.2.2.1 hj h
  have hP : ∀ i k, i < m → yP Y i = some k → k < m := fun i k hi e => (hD.2.2.2.2.1 i k (by omega) e).2
  have e : yP (neY0 (acY Y m nm ta go) m j) = fun i => if i = m then some j else yP Y i := by
    show yP (uC (uF (uP _ m (some j)) 8 _) m 6 _) = _
    rw [yP_uC, yP_uF]
    funext i
    rw [yP_uP, yP_awO]
    rfl
  rw [e]
  show acyO 5 _ (if j = m then some j else yP Y j)
  rw [if_neg (by omega)]
  have up : ∀ (k : Nat) (o : Option Nat), (∀ i, o = some i → i < m) → acyO k (yP Y) o → acyO k (fun i => if i = m then some j else yP Y i) o := by
    intro k
    induction k with
    | zero => intro o _ h; exact h
    | succ k ih =>
      intro o ho h
      cases o with
      | none => trivial
      | some i =>
        have hi := ho i rfl
        show acyO k _ (if i = m then some j else yP Y i)
        rw [if_neg (by omega)]
        exact ih (yP Y i) (fun x hx => hP i x hi hx) h
  exact up 5 (yP Y j) (fun x hx => hP j x hj2 hx) (acyO_mo 4 _ _ h4)
theorem cnF_at {Y : Yd} {x : Int32} {c : Nat} : ∀ k i, cnF Y x k i = some c → yC Y c 1 = x := by
  intro k
  induction k with
  | zero => intro i h; cases h
  | succ k ih =>
    intro i h
    rw [cnF] at h
    split at h
    next e => cases h; exact e
    next => exact ih (i + 1) h
theorem nm_ne0 {b : Nat → Int32} {n e : Nat} (h : nnC b n e = 0) : ¬ nmF b (tS b n e) (tE b n e) = 0 := by
  unfold nnC at h
  split at h
  next z =>
    obtain ⟨h1, h2, h3⟩ := tok_w z.1
    rw [nmF_pk z.2 (Nat.le_of_lt h2) h1]
    obtain ⟨f, hf⟩ : ∃ f, tE b n e - tS b n e = f + 1 := ⟨tE b n e - tS b n e - 1, by omega⟩
    have hlt : pk b (tE b n e - tS b n e) (tS b n e) < 2 ^ 31 := Nat.lt_of_lt_of_le (pkn_lt _ _ (fun i h4 h5 => h1 i h4 (by omega))) (Nat.le_trans (Nat.pow_le_pow_right (by decide) z.2) (by decide))
    have hpos : 0 < pk b (tE b n e - tS b n e) (tS b n e) := by
      rw [hf, pk]
      have := (lt_of (h1 (tS b n e) (Nat.le_refl _) h2)).2.1
      omega
    exact nI_ne0 hpos hlt
  next => exact absurd h (by decide)
theorem cn_m {b : Nat → Int32} {n e m w j : Nat} {Y : Yd} (hD : DY Y m w) (h : nnC b n e = 0) (hc : cnF Y (nmF b (tS b n e) (tE b n e)) 16 0 = some j) : j < m := by
  apply Decidable.byContradiction
  intro z
  have h1 := hD.2.2.2.2.2.2 j (cnF_lt 16 0 (by omega) hc) (by omega)
  exact nm_ne0 h ((cnF_at 16 0 hc).symm.trans h1)
set_option maxHeartbeats 1000000 in
set_option maxRecDepth 4000 in
theorem s_suCrate {d : Nat} {b : Nat → Int32} {n s e : Nat} {k : Int32} {Y : Yd} {m w : Nat} {M : Mem} {Q : Out → Mem → Prop} (h : Tx M b n (s, e, k, 0, -1)) (hse : s ≤ e) (g : Yv M 2 Y) (l : LSe M) (hD : DY Y m w) (hq : ∀ M', PoR b n (crP0 b n s e m Y) M M' → Q (.inl (some (.int (okR (crP0 b n s e m Y))))) M') : WPc (d + 6) mX6_crate [.ref (rf 5 0)] M Q := by
  refine WPc.of (by decide +kernel) (Nat.le_of_ble_eq_true rfl) rfl ?_
  have G := Fr.rf inS M
  have hm16 := hD.1
  refine R.aload_n dX6_crate_0 rfl (by first | rfl | exact rfv_rf _) ?_
  refine R.getS (l.2) dX6_crate_1 fl_X6_15 (by decide) rfl ?_
  refine R.getI dX6_crate_4 fl_X6_51 (by decide) rfl ?_
  rw [g.rF]
  refine R.bipush (v := 16) dX6_crate_7 (by decide) ?_
  refine R.icmp_lt (tgt := 22) dX6_crate_9 (by decide) (fun c9 => ?_) (fun c9 => ?_)
  · have n9 := i_nle c9
    have hm6 := (lt_16 (k := 16) (m := m) (by decide) (by omega)).mp (by rw [← hD.2.2.1]; exact c9)
    rw [crP0, if_neg (by omega)] at hq
    refine R.aload_n dX6_crate_22 rfl (by first | rfl | exact rfv_rf _) ?_
    refine R.getS (l.1) dX6_crate_23 fl_X6_9 (by decide) rfl ?_
    refine cl_X6_59 rfl rfl (by first | exact Nat.le_of_ble_eq_true rfl | simp [rf_cat, Value.category]) dX6_crate_26 ?_
    refine s_tNextN h (fun M26 h26 F26 => ?_)
    have g26 := g.fr F26 nTY
    have l26 := l.fr F26 nT5
    have G26 := G.tr (F26.mo T_S)
    refine R.if_ne (tgt := 34) dX6_crate_29 (by decide) (fun c29 => ?_) (fun c29 => ?_)
    · have z26 := er_0 c29
      replace h26 := h26.ok z26
      rw [crP1, if_pos z26] at hq
      refine R.aload_n dX6_crate_34 rfl (by first | rfl | exact rfv_rf _) ?_
      refine R.getS (l26.1) dX6_crate_35 fl_X6_9 (by decide) rfl ?_
      refine cl_X6_62 rfl rfl (by first | exact Nat.le_of_ble_eq_true rfl | simp [rf_cat, Value.category]) dX6_crate_38 ?_
      refine s_tName h26 tS_tE ?_
      refine R.istore_n dX6_crate_41 (Nat.le_of_ble_eq_true rfl) (by decide) (by first | rfl | simp [lft, rf_cat]) rfl ?_
      refine R.aload_n dX6_crate_42 rfl (by first | rfl | exact rfv_rf _) ?_
      refine R.getS (l26.2) dX6_crate_43 fl_X6_15 (by decide) rfl ?_
      refine R.iload_n dX6_crate_46 rfl ?_
      refine cl_X6_66 rfl rfl (by first | exact Nat.le_of_ble_eq_true rfl | simp [rf_cat, Value.category]) dX6_crate_47 ?_
      refine s_yNamed g26 ?_
      cases hcn : cnF Y (nmF b (tS b n e) (tE b n e)) 16 0 with
      | some c9 =>
        rw [crP2, hcn, if_neg (fun z => nomatch z)] at hq
        refine R.ifnullS (tgt := 62) (by first | decide | exact Nat.lt_of_le_of_lt (Nat.le_of_eq (kd_rf _ _ (by decide))) (by decide)) dX6_crate_50 (by decide) ?_
        refine R.aload_n dX6_crate_53 rfl (by first | rfl | exact rfv_rf _) ?_
        refine R.getS (l26.1) dX6_crate_54 fl_X6_9 (by decide) rfl ?_
        refine R.iconst (v := 3) dX6_crate_57 rfl ?_
        refine cl_X6_55 rfl rfl (by first | exact Nat.le_of_ble_eq_true rfl | simp [rf_cat, Value.category]) dX6_crate_58 ?_
        refine s_tFail h26 (fun M58 h58 F58 => ?_)
        have g58 := g26.fr F58 nTY
        have l58 := l26.fr F58 nT5
        have G58 := G26.tr (F58.mo T_S)
        refine WP.ret (ov := some (.int _)) dX6_crate_61 ⟨rfl, _, rfl, by first | rfl | assumption | exact nar_b01 (by assumption)⟩ ?_
        exact hq M58 (PoR.no G58 h58 g58)
      | none =>
        rw [crP2, if_pos hcn] at hq
        refine R.ifnullN (tgt := 62) dX6_crate_50 (by decide) ?_
        refine R.aload_n dX6_crate_62 rfl (by first | rfl | exact rfv_rf _) ?_
        refine R.getS (l26.1) dX6_crate_63 fl_X6_9 (by decide) rfl ?_
        refine R.iconst (v := 1) dX6_crate_66 rfl ?_
        refine R.bipush (v := 50) dX6_crate_67 (by decide) ?_
        refine cl_X6_70 rfl rfl (by first | exact Nat.le_of_ble_eq_true rfl | simp [rf_cat, Value.category]) dX6_crate_69 ?_
        refine s_tNextI h26 (fun M69 h69 F69 => ?_)
        have g69 := g26.fr F69 nTY
        have l69 := l26.fr F69 nT5
        have G69 := G26.tr (F69.mo T_S)
        refine R.if_ne (tgt := 77) dX6_crate_72 (by decide) (fun c72 => ?_) (fun c72 => ?_)
        · have z69 := er_0 c72
          replace h69 := h69.ok z69
          rw [crP3, if_pos z69] at hq
          refine R.aload_n dX6_crate_77 rfl (by first | rfl | exact rfv_rf _) ?_
          refine R.getS (l69.1) dX6_crate_78 fl_X6_9 (by decide) rfl ?_
          refine cl_X6_74 rfl rfl (by first | exact Nat.le_of_ble_eq_true rfl | simp [rf_cat, Value.category]) dX6_crate_81 ?_
          refine s_tNum h69 tS_tE ?_
          refine R.istore_n dX6_crate_84 (Nat.le_of_ble_eq_true rfl) (by decide) (by first | rfl | simp [lft, rf_cat]) rfl ?_
          refine R.aload_n dX6_crate_85 rfl (by first | rfl | exact rfv_rf _) ?_
          refine R.getS (l69.1) dX6_crate_86 fl_X6_9 (by decide) rfl ?_
          refine R.iconst (v := 0) dX6_crate_89 rfl ?_
          refine R.sipush (v := 500) dX6_crate_90 (by decide) ?_
          refine cl_X6_70 rfl rfl (by first | exact Nat.le_of_ble_eq_true rfl | simp [rf_cat, Value.category]) dX6_crate_93 ?_
          refine s_tNextI h69 (fun M93 h93 F93 => ?_)
          have g93 := g69.fr F93 nTY
          have l93 := l69.fr F93 nT5
          have G93 := G69.tr (F93.mo T_S)
          refine R.if_ne (tgt := 101) dX6_crate_96 (by decide) (fun c96 => ?_) (fun c96 => ?_)
          · have z93 := er_0 c96
            replace h93 := h93.ok z93
            rw [crP4, if_pos z93] at hq
            refine R.aload_n dX6_crate_101 rfl (by first | rfl | exact rfv_rf _) ?_
            refine R.getS (l93.1) dX6_crate_102 fl_X6_9 (by decide) rfl ?_
            refine cl_X6_74 rfl rfl (by first | exact Nat.le_of_ble_eq_true rfl | simp [rf_cat, Value.category]) dX6_crate_105 ?_
            refine s_tNum h93 tS_tE ?_
            refine R.istore_n dX6_crate_108 (Nat.le_of_ble_eq_true rfl) (by decide) (by first | rfl | simp [lft, rf_cat]) rfl ?_
            refine R.null dX6_crate_109 ?_
            refine R.astore dX6_crate_110 (by first | rfl | exact rfv_rf _) (Nat.le_of_ble_eq_true rfl) (by decide) (by first | rfl | simp [lft, rf_cat]) rfl ?_
            refine R.aload_n dX6_crate_112 rfl (by first | rfl | exact rfv_rf _) ?_
            refine R.getS (l93.1) dX6_crate_113 fl_X6_9 (by decide) rfl ?_
            refine cl_X6_77 rfl rfl (by first | exact Nat.le_of_ble_eq_true rfl | simp [rf_cat, Value.category]) dX6_crate_116 ?_
            refine s_tAdv h93 (fun M116 h116 F116 => ?_)
            have g116 := g93.fr F116 nTY
            have l116 := l93.fr F116 nT5
            have G116 := G93.tr (F116.mo T_S)
            refine R.aload_n dX6_crate_119 rfl (by first | rfl | exact rfv_rf _) ?_
            refine R.getS (l116.1) dX6_crate_120 fl_X6_9 (by decide) rfl ?_
            refine R.ldcS (i := 13) rfl dX6_crate_123 ?_
            refine cl_X6_35 rfl rfl (by first | exact Nat.le_of_ble_eq_true rfl | simp [rf_cat, Value.category]) dX6_crate_125 ?_
            refine s_tIsW h116 (by decide) tS_tE ?_
            refine R.if_eq (tgt := 173) dX6_crate_128 (by decide) (fun c128 => ?_) (fun c128 => ?_)
            rw [crP5, if_neg (fls c128)] at hq
            refine R.aload_n dX6_crate_173 rfl (by first | rfl | exact rfv_rf _) ?_
            refine R.getS (l116.1) dX6_crate_174 fl_X6_9 (by decide) rfl ?_
            refine cl_X6_85 rfl rfl (by first | exact Nat.le_of_ble_eq_true rfl | simp [rf_cat, Value.category]) dX6_crate_177 ?_
            refine s_tReq h116 (fun M177 h177 F177 => ?_)
            have g177 := g116.fr F177 nTY
            have l177 := l116.fr F177 nT5
            have G177 := G116.tr (F177.mo T_S)
            refine R.if_ne (tgt := 185) dX6_crate_180 (by decide) (fun c180 => ?_) (fun c180 => ?_)
            · have z177 := er_0 c180
              replace h177 := h177.ok z177
              rw [crP9, if_pos z177] at hq
              refine R.aload_n dX6_crate_185 rfl (by first | rfl | exact rfv_rf _) ?_
              refine R.getS (l177.2) dX6_crate_186 fl_X6_15 (by decide) rfl ?_
              refine R.iload_n dX6_crate_189 rfl ?_
              refine R.iload_n dX6_crate_190 rfl ?_
              refine R.iload_n dX6_crate_191 rfl ?_
              refine cl_X6_88 rfl rfl (by first | exact Nat.le_of_ble_eq_true rfl | simp [rf_cat, Value.category]) dX6_crate_192 ?_
              refine s_yAddC g177 hm6 hD.2.2.1 (fun M192 h192 F192 => ?_)
              refine R.astore dX6_crate_195 (by first | rfl | exact rfv_rf _) (Nat.le_of_ble_eq_true rfl) (by decide) (by first | rfl | simp [lft, rf_cat]) rfl ?_
              refine R.aload dX6_crate_197 rfl (by first | rfl | exact rfv_rf _) ?_
              refine R.ifnullS (tgt := 218) (by first | decide | exact Nat.lt_of_le_of_lt (Nat.le_of_eq (kd_rf _ _ (by decide))) (by decide)) dX6_crate_199 (by decide) ?_
              refine R.aload dX6_crate_202 rfl (by first | rfl | exact rfv_rf _) ?_
              refine R.ifnullN (tgt := 218) dX6_crate_204 (by decide) ?_
              refine R.iconst (v := 1) dX6_crate_218 rfl ?_
              refine WP.ret (ov := some (.int _)) dX6_crate_219 ⟨rfl, _, rfl, by first | rfl | assumption | exact nar_b01 (by assumption)⟩ ?_
              exact hq M192 (PoR.yes (G177.tr (F192.mo Y_S)) (h177.fr F192 nY7 nY13) h192)
            · refine R.iconst (v := 0) dX6_crate_183 rfl ?_
              refine WP.ret (ov := some (.int _)) dX6_crate_184 ⟨rfl, _, rfl, by first | rfl | assumption | exact nar_b01 (by assumption)⟩ ?_
              have w177 := er_1 c180
              rw [crP9, if_neg w177] at hq
              exact hq M177 (PoR.no G177 (h177.no w177) g177)
            · rw [crP5, if_pos (tru c128)] at hq
              refine R.aload_n dX6_crate_131 rfl (by first | rfl | exact rfv_rf _) ?_
              refine R.getS (l116.1) dX6_crate_132 fl_X6_9 (by decide) rfl ?_
              refine cl_X6_59 rfl rfl (by first | exact Nat.le_of_ble_eq_true rfl | simp [rf_cat, Value.category]) dX6_crate_135 ?_
              refine s_tNextN h116 (fun M135 h135 F135 => ?_)
              have g135 := g116.fr F135 nTY
              have l135 := l116.fr F135 nT5
              have G135 := G116.tr (F135.mo T_S)
              refine R.if_eq (tgt := 148) dX6_crate_138 (by decide) (fun c138 => ?_) (fun c138 => ?_)
              · refine R.iconst (v := 0) dX6_crate_148 rfl ?_
                refine WP.ret (ov := some (.int _)) dX6_crate_149 ⟨rfl, _, rfl, by first | rfl | assumption | exact nar_b01 (by assumption)⟩ ?_
                have w135 := er_1 c138
                rw [crP6, if_neg w135] at hq
                exact hq M135 (PoR.no G135 (h135.no w135) g135)
              · have z135 := er_0 c138
                replace h135 := h135.ok z135
                rw [crP6, if_pos z135] at hq
                refine R.aload_n dX6_crate_141 rfl (by first | rfl | exact rfv_rf _) ?_
                refine cl_X6_82 rfl rfl (by first | exact Nat.le_of_ble_eq_true rfl | simp [rf_cat, Value.category]) dX6_crate_142 ?_
                refine s_suReq h135 tS_tE g135 l135 (hD : DY Y m w) (fun M142 h142 F142 => ?_)
                have g142 := g135.fr F142 nTY
                have l142 := l135.fr F142 nT5
                have G142 := G135.tr (F142.mo T_S)
                refine R.if_ne (tgt := 150) dX6_crate_145 (by decide) (fun c145 => ?_) (fun c145 => ?_)
                have z142 := er_0 c145
                replace h142 := h142.ok z142
                rw [crP7, if_pos z142] at hq
                cases hcj : cnF Y (nmF b (tS b n (tE b n (tE b n (tE b n (tE b n e))))) (tE b n (tE b n (tE b n (tE b n (tE b n e)))))) 16 0 with
                | none =>
                  exact absurd z142 (by unfold rqC; rw [hcj]; exact (by decide : ¬ (4 : Int32) = 0))
                | some j =>
                  rw [hcj] at hq
                  dsimp only at hq
                  have hj := cnF_lt 16 0 (by omega) hcj
                  have hA1 := acy_new (nm := nmF b (tS b n e) (tE b n e)) (ta := nbV b n (tE b n e)) (go := nbV b n (tE b n (tE b n e))) hD hm6
                  have hA2 := acy_nest (nm := nmF b (tS b n e) (tE b n e)) (ta := nbV b n (tE b n e)) (go := nbV b n (tE b n (tE b n e))) hD hm6 hj (rq_lt z142 hcj) (cn_m hD z135 hcj)
                  refine R.aload_n dX6_crate_150 rfl (by first | rfl | exact rfv_rf _) ?_
                  refine R.getS (l142.2) dX6_crate_151 fl_X6_15 (by decide) rfl ?_
                  refine R.aload_n dX6_crate_154 rfl (by first | rfl | exact rfv_rf _) ?_
                  refine R.getS (l142.1) dX6_crate_155 fl_X6_9 (by decide) rfl ?_
                  refine cl_X6_62 rfl rfl (by first | exact Nat.le_of_ble_eq_true rfl | simp [rf_cat, Value.category]) dX6_crate_158 ?_
                  refine s_tName h142 tS_tE ?_
                  refine cl_X6_66 rfl rfl (by first | exact Nat.le_of_ble_eq_true rfl | simp [rf_cat, Value.category]) dX6_crate_161 ?_
                  refine s_yNamed g142 ?_
                  rw [hcj]
                  change WP _ _ _ _ (.ref (rf 1 (16 * 2 + j)) :: _) _ _
                  refine R.astore dX6_crate_164 (by first | rfl | exact rfv_rf _) (Nat.le_of_ble_eq_true rfl) (by decide) (by first | rfl | simp [lft, rf_cat]) rfl ?_
                  refine R.aload_n dX6_crate_166 rfl (by first | rfl | exact rfv_rf _) ?_
                  refine R.getS (l142.1) dX6_crate_167 fl_X6_9 (by decide) rfl ?_
                  refine cl_X6_77 rfl rfl (by first | exact Nat.le_of_ble_eq_true rfl | simp [rf_cat, Value.category]) dX6_crate_170 ?_
                  refine s_tAdv h142 (fun M170 h170 F170 => ?_)
                  have g170 := g142.fr F170 nTY
                  have l170 := l142.fr F170 nT5
                  have G170 := G142.tr (F170.mo T_S)
                  refine R.aload_n dX6_crate_173 rfl (by first | rfl | exact rfv_rf _) ?_
                  refine R.getS (l170.1) dX6_crate_174 fl_X6_9 (by decide) rfl ?_
                  refine cl_X6_85 rfl rfl (by first | exact Nat.le_of_ble_eq_true rfl | simp [rf_cat, Value.category]) dX6_crate_177 ?_
                  refine s_tReq h170 (fun M177 h177 F177 => ?_)
                  have g177 := g170.fr F177 nTY
                  have l177 := l170.fr F177 nT5
                  have G177 := G170.tr (F177.mo T_S)
                  refine R.if_ne (tgt := 185) dX6_crate_180 (by decide) (fun c180 => ?_) (fun c180 => ?_)
                  · have z177 := er_0 c180
                    replace h177 := h177.ok z177
                    rw [crP9, if_pos z177] at hq
                    refine R.aload_n dX6_crate_185 rfl (by first | rfl | exact rfv_rf _) ?_
                    refine R.getS (l177.2) dX6_crate_186 fl_X6_15 (by decide) rfl ?_
                    refine R.iload_n dX6_crate_189 rfl ?_
                    refine R.iload_n dX6_crate_190 rfl ?_
                    refine R.iload_n dX6_crate_191 rfl ?_
                    refine cl_X6_88 rfl rfl (by first | exact Nat.le_of_ble_eq_true rfl | simp [rf_cat, Value.category]) dX6_crate_192 ?_
                    refine s_yAddC g177 hm6 hD.2.2.1 (fun M192 h192 F192 => ?_)
                    refine R.astore dX6_crate_195 (by first | rfl | exact rfv_rf _) (Nat.le_of_ble_eq_true rfl) (by decide) (by first | rfl | simp [lft, rf_cat]) rfl ?_
                    refine R.aload dX6_crate_197 rfl (by first | rfl | exact rfv_rf _) ?_
                    refine R.ifnullS (tgt := 218) (by first | decide | exact Nat.lt_of_le_of_lt (Nat.le_of_eq (kd_rf _ _ (by decide))) (by decide)) dX6_crate_199 (by decide) ?_
                    refine R.aload dX6_crate_202 rfl (by first | rfl | exact rfv_rf _) ?_
                    refine R.ifnullS (tgt := 218) (by first | decide | exact Nat.lt_of_le_of_lt (Nat.le_of_eq (kd_rf _ _ (by decide))) (by decide)) dX6_crate_204 (by decide) ?_
                    refine R.aload_n dX6_crate_207 rfl (by first | rfl | exact rfv_rf _) ?_
                    refine R.getS ((l177.fr F192 nY5).2) dX6_crate_208 fl_X6_15 (by decide) rfl ?_
                    refine R.aload dX6_crate_211 rfl (by first | rfl | exact rfv_rf _) ?_
                    refine R.aload dX6_crate_213 rfl (by first | rfl | exact rfv_rf _) ?_
                    refine cl_X6_92 rfl rfl (by first | exact Nat.le_of_ble_eq_true rfl | simp [rf_cat, Value.category]) dX6_crate_215 ?_
                    refine s_yNest h192 hm6 (by omega) hA1 hA2 (fun M215 h215 F215 => ?_)
                    refine R.iconst (v := 1) dX6_crate_218 rfl ?_
                    refine WP.ret (ov := some (.int _)) dX6_crate_219 ⟨rfl, _, rfl, by first | rfl | assumption | exact nar_b01 (by assumption)⟩ ?_
                    exact hq M215 (PoR.yes ((G177.tr (F192.mo Y_S)).tr (F215.mo Y_S)) ((h177.fr F192 nY7 nY13).fr F215 nY7 nY13) h215)
                  · refine R.iconst (v := 0) dX6_crate_183 rfl ?_
                    refine WP.ret (ov := some (.int _)) dX6_crate_184 ⟨rfl, _, rfl, by first | rfl | assumption | exact nar_b01 (by assumption)⟩ ?_
                    have w177 := er_1 c180
                    rw [crP9, if_neg w177] at hq
                    exact hq M177 (PoR.no G177 (h177.no w177) g177)
                · refine R.iconst (v := 0) dX6_crate_148 rfl ?_
                  refine WP.ret (ov := some (.int _)) dX6_crate_149 ⟨rfl, _, rfl, by first | rfl | assumption | exact nar_b01 (by assumption)⟩ ?_
                  have w142 := er_1 c145
                  rw [crP7, if_neg w142] at hq
                  exact hq M142 (PoR.no G142 (h142.no w142) g142)
          · refine R.iconst (v := 0) dX6_crate_99 rfl ?_
            refine WP.ret (ov := some (.int _)) dX6_crate_100 ⟨rfl, _, rfl, by first | rfl | assumption | exact nar_b01 (by assumption)⟩ ?_
            have w93 := er_1 c96
            rw [crP4, if_neg w93] at hq
            exact hq M93 (PoR.no G93 (h93.no w93) g93)
        · refine R.iconst (v := 0) dX6_crate_75 rfl ?_
          refine WP.ret (ov := some (.int _)) dX6_crate_76 ⟨rfl, _, rfl, by first | rfl | assumption | exact nar_b01 (by assumption)⟩ ?_
          have w69 := er_1 c72
          rw [crP3, if_neg w69] at hq
          exact hq M69 (PoR.no G69 (h69.no w69) g69)
    · refine R.iconst (v := 0) dX6_crate_32 rfl ?_
      refine WP.ret (ov := some (.int _)) dX6_crate_33 ⟨rfl, _, rfl, by first | rfl | assumption | exact nar_b01 (by assumption)⟩ ?_
      have w26 := er_1 c29
      rw [crP1, if_neg w26] at hq
      exact hq M26 (PoR.no G26 (h26.no w26) g26)
  · have n9 := i_nlt c9
    refine R.aload_n dX6_crate_12 rfl (by first | rfl | exact rfv_rf _) ?_
    refine R.getS (l.1) dX6_crate_13 fl_X6_9 (by decide) rfl ?_
    refine R.bipush (v := 6) dX6_crate_16 (by decide) ?_
    refine cl_X6_55 rfl rfl (by first | exact Nat.le_of_ble_eq_true rfl | simp [rf_cat, Value.category]) dX6_crate_18 ?_
    refine s_tFail h (fun M18 h18 F18 => ?_)
    have g18 := g.fr F18 nTY
    have l18 := l.fr F18 nT5
    have G18 := G.tr (F18.mo T_S)
    refine WP.ret (ov := some (.int _)) dX6_crate_21 ⟨rfl, _, rfl, by first | rfl | assumption | exact nar_b01 (by assumption)⟩ ?_
    rw [crP0, if_pos (Nat.le_of_not_lt (fun z => c9 (by rw [hD.2.2.1]; exact (lt_16 (k := 16) (m := m) (by decide) (by omega)).mpr z)))] at hq
    exact hq M18 (PoR.no G18 h18 g18)
set_option maxHeartbeats 1000000 in
set_option maxRecDepth 4000 in
theorem s_suBuyer {d : Nat} {b : Nat → Int32} {n s e : Nat} {k : Int32} {Y : Yd} {m w : Nat} {M : Mem} {Q : Out → Mem → Prop} (h : Tx M b n (s, e, k, 0, -1)) (hse : s ≤ e) (g : Yv M 2 Y) (l : LSe M) (hD : DY Y m w) (hq : ∀ M', PoR b n (buP0 b n s e w Y) M M' → Q (.inl (some (.int (okR (buP0 b n s e w Y))))) M') : WPc (d + 6) mX6_buyer [.ref (rf 5 0)] M Q := by
  refine WPc.of (by decide +kernel) (Nat.le_of_ble_eq_true rfl) rfl ?_
  have G := Fr.rf inS M
  have hw6 := hD.2.1
  refine R.aload_n dX6_buyer_0 rfl (by first | rfl | exact rfv_rf _) ?_
  refine R.getS (l.2) dX6_buyer_1 fl_X6_15 (by decide) rfl ?_
  refine R.getI dX6_buyer_4 fl_X6_101 (by decide) rfl ?_
  rw [g.rF]
  refine R.bipush (v := 6) dX6_buyer_7 (by decide) ?_
  refine R.icmp_lt (tgt := 22) dX6_buyer_9 (by decide) (fun c9 => ?_) (fun c9 => ?_)
  · have n9 := i_nle c9
    have hm6 := (lt_16 (k := 6) (m := w) (by decide) (by omega)).mp (by rw [← hD.2.2.2.1]; exact c9)
    rw [buP0, if_neg (by omega)] at hq
    refine R.aload_n dX6_buyer_22 rfl (by first | rfl | exact rfv_rf _) ?_
    refine R.getS (l.1) dX6_buyer_23 fl_X6_9 (by decide) rfl ?_
    refine cl_X6_59 rfl rfl (by first | exact Nat.le_of_ble_eq_true rfl | simp [rf_cat, Value.category]) dX6_buyer_26 ?_
    refine s_tNextN h (fun M26 h26 F26 => ?_)
    have g26 := g.fr F26 nTY
    have l26 := l.fr F26 nT5
    have G26 := G.tr (F26.mo T_S)
    refine R.if_ne (tgt := 34) dX6_buyer_29 (by decide) (fun c29 => ?_) (fun c29 => ?_)
    · have z26 := er_0 c29
      replace h26 := h26.ok z26
      rw [buP1, if_pos z26] at hq
      refine R.aload_n dX6_buyer_34 rfl (by first | rfl | exact rfv_rf _) ?_
      refine R.getS (l26.1) dX6_buyer_35 fl_X6_9 (by decide) rfl ?_
      refine cl_X6_62 rfl rfl (by first | exact Nat.le_of_ble_eq_true rfl | simp [rf_cat, Value.category]) dX6_buyer_38 ?_
      refine s_tName h26 tS_tE ?_
      refine R.istore_n dX6_buyer_41 (Nat.le_of_ble_eq_true rfl) (by decide) (by first | rfl | simp [lft, rf_cat]) rfl ?_
      refine R.aload_n dX6_buyer_42 rfl (by first | rfl | exact rfv_rf _) ?_
      refine R.getS (l26.2) dX6_buyer_43 fl_X6_15 (by decide) rfl ?_
      refine R.iload_n dX6_buyer_46 rfl ?_
      refine cl_X6_104 rfl rfl (by first | exact Nat.le_of_ble_eq_true rfl | simp [rf_cat, Value.category]) dX6_buyer_47 ?_
      refine s_yBnamed g26 ?_
      cases hcn : bnF Y (nmF b (tS b n e) (tE b n e)) 6 0 with
      | some c9 =>
        rw [buP2, hcn, if_neg (fun z => nomatch z)] at hq
        refine R.ifnullS (tgt := 62) (by first | decide | exact Nat.lt_of_le_of_lt (Nat.le_of_eq (kd_rf _ _ (by decide))) (by decide)) dX6_buyer_50 (by decide) ?_
        refine R.aload_n dX6_buyer_53 rfl (by first | rfl | exact rfv_rf _) ?_
        refine R.getS (l26.1) dX6_buyer_54 fl_X6_9 (by decide) rfl ?_
        refine R.iconst (v := 3) dX6_buyer_57 rfl ?_
        refine cl_X6_55 rfl rfl (by first | exact Nat.le_of_ble_eq_true rfl | simp [rf_cat, Value.category]) dX6_buyer_58 ?_
        refine s_tFail h26 (fun M58 h58 F58 => ?_)
        have g58 := g26.fr F58 nTY
        have l58 := l26.fr F58 nT5
        have G58 := G26.tr (F58.mo T_S)
        refine WP.ret (ov := some (.int _)) dX6_buyer_61 ⟨rfl, _, rfl, by first | rfl | assumption | exact nar_b01 (by assumption)⟩ ?_
        exact hq M58 (PoR.no G58 h58 g58)
      | none =>
        rw [buP2, if_pos hcn] at hq
        refine R.ifnullN (tgt := 62) dX6_buyer_50 (by decide) ?_
        refine R.aload_n dX6_buyer_62 rfl (by first | rfl | exact rfv_rf _) ?_
        refine R.getS (l26.1) dX6_buyer_63 fl_X6_9 (by decide) rfl ?_
        refine R.iconst (v := 0) dX6_buyer_66 rfl ?_
        refine R.sipush (v := 9999) dX6_buyer_67 (by decide) ?_
        refine cl_X6_70 rfl rfl (by first | exact Nat.le_of_ble_eq_true rfl | simp [rf_cat, Value.category]) dX6_buyer_70 ?_
        refine s_tNextI h26 (fun M70 h70 F70 => ?_)
        have g70 := g26.fr F70 nTY
        have l70 := l26.fr F70 nT5
        have G70 := G26.tr (F70.mo T_S)
        refine R.if_ne (tgt := 78) dX6_buyer_73 (by decide) (fun c73 => ?_) (fun c73 => ?_)
        · have z70 := er_0 c73
          replace h70 := h70.ok z70
          rw [buP3, if_pos z70] at hq
          refine R.aload_n dX6_buyer_78 rfl (by first | rfl | exact rfv_rf _) ?_
          refine R.getS (l70.1) dX6_buyer_79 fl_X6_9 (by decide) rfl ?_
          refine cl_X6_74 rfl rfl (by first | exact Nat.le_of_ble_eq_true rfl | simp [rf_cat, Value.category]) dX6_buyer_82 ?_
          refine s_tNum h70 tS_tE ?_
          refine R.istore_n dX6_buyer_85 (Nat.le_of_ble_eq_true rfl) (by decide) (by first | rfl | simp [lft, rf_cat]) rfl ?_
          refine R.aload_n dX6_buyer_86 rfl (by first | rfl | exact rfv_rf _) ?_
          refine R.getS (l70.1) dX6_buyer_87 fl_X6_9 (by decide) rfl ?_
          refine R.iconst (v := 0) dX6_buyer_90 rfl ?_
          refine R.bipush (v := 50) dX6_buyer_91 (by decide) ?_
          refine cl_X6_70 rfl rfl (by first | exact Nat.le_of_ble_eq_true rfl | simp [rf_cat, Value.category]) dX6_buyer_93 ?_
          refine s_tNextI h70 (fun M93 h93 F93 => ?_)
          have g93 := g70.fr F93 nTY
          have l93 := l70.fr F93 nT5
          have G93 := G70.tr (F93.mo T_S)
          refine R.if_ne (tgt := 101) dX6_buyer_96 (by decide) (fun c96 => ?_) (fun c96 => ?_)
          · have z93 := er_0 c96
            replace h93 := h93.ok z93
            rw [buP4, if_pos z93] at hq
            refine R.aload_n dX6_buyer_101 rfl (by first | rfl | exact rfv_rf _) ?_
            refine R.getS (l93.1) dX6_buyer_102 fl_X6_9 (by decide) rfl ?_
            refine cl_X6_74 rfl rfl (by first | exact Nat.le_of_ble_eq_true rfl | simp [rf_cat, Value.category]) dX6_buyer_105 ?_
            refine s_tNum h93 tS_tE ?_
            refine R.istore_n dX6_buyer_108 (Nat.le_of_ble_eq_true rfl) (by decide) (by first | rfl | simp [lft, rf_cat]) rfl ?_
            refine R.aload_n dX6_buyer_109 rfl (by first | rfl | exact rfv_rf _) ?_
            refine R.getS (l93.1) dX6_buyer_110 fl_X6_9 (by decide) rfl ?_
            refine R.iconst (v := 0) dX6_buyer_113 rfl ?_
            refine R.bipush (v := 100) dX6_buyer_114 (by decide) ?_
            refine cl_X6_70 rfl rfl (by first | exact Nat.le_of_ble_eq_true rfl | simp [rf_cat, Value.category]) dX6_buyer_116 ?_
            refine s_tNextI h93 (fun M116 h116 F116 => ?_)
            have g116 := g93.fr F116 nTY
            have l116 := l93.fr F116 nT5
            have G116 := G93.tr (F116.mo T_S)
            refine R.if_ne (tgt := 124) dX6_buyer_119 (by decide) (fun c119 => ?_) (fun c119 => ?_)
            · have z116 := er_0 c119
              replace h116 := h116.ok z116
              rw [buP5, if_pos z116] at hq
              refine R.aload_n dX6_buyer_124 rfl (by first | rfl | exact rfv_rf _) ?_
              refine R.getS (l116.1) dX6_buyer_125 fl_X6_9 (by decide) rfl ?_
              refine cl_X6_74 rfl rfl (by first | exact Nat.le_of_ble_eq_true rfl | simp [rf_cat, Value.category]) dX6_buyer_128 ?_
              refine s_tNum h116 tS_tE ?_
              refine R.istore dX6_buyer_131 (Nat.le_of_ble_eq_true rfl) (by decide) (by first | rfl | simp [lft, rf_cat]) rfl ?_
              refine R.aload_n dX6_buyer_133 rfl (by first | rfl | exact rfv_rf _) ?_
              refine R.getS (l116.1) dX6_buyer_134 fl_X6_9 (by decide) rfl ?_
              refine cl_X6_48 rfl rfl (by first | exact Nat.le_of_ble_eq_true rfl | simp [rf_cat, Value.category]) dX6_buyer_137 ?_
              refine s_tSemi h116 (fun M137 h137 F137 => ?_)
              have g137 := g116.fr F137 nTY
              have l137 := l116.fr F137 nT5
              have G137 := G116.tr (F137.mo T_S)
              refine R.if_ne (tgt := 145) dX6_buyer_140 (by decide) (fun c140 => ?_) (fun c140 => ?_)
              · have z137 := er_0 c140
                replace h137 := h137.ok z137
                rw [buP6, if_pos z137] at hq
                refine R.aload_n dX6_buyer_145 rfl (by first | rfl | exact rfv_rf _) ?_
                refine R.getS (l137.2) dX6_buyer_146 fl_X6_15 (by decide) rfl ?_
                refine R.iload_n dX6_buyer_149 rfl ?_
                refine R.iload_n dX6_buyer_150 rfl ?_
                refine R.iload_n dX6_buyer_151 rfl ?_
                refine R.iload dX6_buyer_152 rfl ?_
                refine cl_X6_108 rfl rfl (by first | exact Nat.le_of_ble_eq_true rfl | simp [rf_cat, Value.category]) dX6_buyer_154 ?_
                refine s_yAddB g137 hm6 hD.2.2.2.1 (fun M154 h154 F154 => ?_)
                refine R.iconst (v := 1) dX6_buyer_157 rfl ?_
                refine WP.ret (ov := some (.int _)) dX6_buyer_158 ⟨rfl, _, rfl, by first | rfl | assumption | exact nar_b01 (by assumption)⟩ ?_
                exact hq M154 (PoR.yes (G137.tr (F154.mo Y_S)) (h137.fr F154 nY7 nY13) h154)
              · refine R.iconst (v := 0) dX6_buyer_143 rfl ?_
                refine WP.ret (ov := some (.int _)) dX6_buyer_144 ⟨rfl, _, rfl, by first | rfl | assumption | exact nar_b01 (by assumption)⟩ ?_
                have w137 := er_1 c140
                rw [buP6, if_neg w137] at hq
                exact hq M137 (PoR.no G137 (h137.no w137) g137)
            · refine R.iconst (v := 0) dX6_buyer_122 rfl ?_
              refine WP.ret (ov := some (.int _)) dX6_buyer_123 ⟨rfl, _, rfl, by first | rfl | assumption | exact nar_b01 (by assumption)⟩ ?_
              have w116 := er_1 c119
              rw [buP5, if_neg w116] at hq
              exact hq M116 (PoR.no G116 (h116.no w116) g116)
          · refine R.iconst (v := 0) dX6_buyer_99 rfl ?_
            refine WP.ret (ov := some (.int _)) dX6_buyer_100 ⟨rfl, _, rfl, by first | rfl | assumption | exact nar_b01 (by assumption)⟩ ?_
            have w93 := er_1 c96
            rw [buP4, if_neg w93] at hq
            exact hq M93 (PoR.no G93 (h93.no w93) g93)
        · refine R.iconst (v := 0) dX6_buyer_76 rfl ?_
          refine WP.ret (ov := some (.int _)) dX6_buyer_77 ⟨rfl, _, rfl, by first | rfl | assumption | exact nar_b01 (by assumption)⟩ ?_
          have w70 := er_1 c73
          rw [buP3, if_neg w70] at hq
          exact hq M70 (PoR.no G70 (h70.no w70) g70)
    · refine R.iconst (v := 0) dX6_buyer_32 rfl ?_
      refine WP.ret (ov := some (.int _)) dX6_buyer_33 ⟨rfl, _, rfl, by first | rfl | assumption | exact nar_b01 (by assumption)⟩ ?_
      have w26 := er_1 c29
      rw [buP1, if_neg w26] at hq
      exact hq M26 (PoR.no G26 (h26.no w26) g26)
  · have n9 := i_nlt c9
    refine R.aload_n dX6_buyer_12 rfl (by first | rfl | exact rfv_rf _) ?_
    refine R.getS (l.1) dX6_buyer_13 fl_X6_9 (by decide) rfl ?_
    refine R.bipush (v := 6) dX6_buyer_16 (by decide) ?_
    refine cl_X6_55 rfl rfl (by first | exact Nat.le_of_ble_eq_true rfl | simp [rf_cat, Value.category]) dX6_buyer_18 ?_
    refine s_tFail h (fun M18 h18 F18 => ?_)
    have g18 := g.fr F18 nTY
    have l18 := l.fr F18 nT5
    have G18 := G.tr (F18.mo T_S)
    refine WP.ret (ov := some (.int _)) dX6_buyer_21 ⟨rfl, _, rfl, by first | rfl | assumption | exact nar_b01 (by assumption)⟩ ?_
    rw [buP0, if_pos (Nat.le_of_not_lt (fun z => c9 (by rw [hD.2.2.2.1]; exact (lt_16 (k := 6) (m := w) (by decide) (by omega)).mpr z)))] at hq
    exact hq M18 (PoR.no G18 h18 g18)
def st1 (b : Nat → Int32) (n e : Nat) (lo hi : Int32) (F : Int32 → Yd) : PR := if nbC b n e lo hi = 0 then .inr (tE b n e, F (nbV b n e)) else .inl (nbC b n e lo hi, tS b n e)
def setR (b : Nat → Int32) (n s e : Nat) (k : Int32) (Y : Yd) : PR :=
  if isW b s e k 14 = true then st1 b n e 0 50 (uS Y 1) else
  if isW b s e k 15 = true then st1 b n e 0 9999 (uS Y 0) else
  if isW b s e k 16 = true then st1 b n e 1 100 (uS Y 2) else
  if isW b s e k 17 = true then st1 b n e 1 9 (uF Y 6) else
  if isW b s e k 18 = true then st1 b n e 0 100 (uF Y 7) else .inl (1, s)
set_option maxHeartbeats 1000000 in
set_option maxRecDepth 4000 in
theorem s_suSet {d : Nat} {b : Nat → Int32} {n s e : Nat} {k : Int32} {Y : Yd} {M : Mem} {Q : Out → Mem → Prop} (h : Tx M b n (s, e, k, 0, -1)) (hse : s ≤ e) (g : Yv M 2 Y) (l : LSe M) (hq : ∀ M', PoR b n (setR b n s e k Y) M M' → Q (.inl (some (.int (okR (setR b n s e k Y))))) M') : WPc (d + 6) mX6_setting [.ref (rf 5 0)] M Q := by
  refine WPc.of (by decide +kernel) (Nat.le_of_ble_eq_true rfl) rfl ?_
  have G := Fr.rf inS M
  refine R.aload_n dX6_setting_0 rfl (by first | rfl | exact rfv_rf _) ?_
  refine R.getS (l.1) dX6_setting_1 fl_X6_9 (by decide) rfl ?_
  refine R.ldcS (i := 14) rfl dX6_setting_4 ?_
  refine cl_X6_35 rfl rfl (by first | exact Nat.le_of_ble_eq_true rfl | simp [rf_cat, Value.category]) dX6_setting_6 ?_
  refine s_tIsW h (by decide) hse ?_
  refine R.if_eq (tgt := 45) dX6_setting_9 (by decide) (fun c9 => ?_) (fun c9 => ?_)
  · refine R.aload_n dX6_setting_45 rfl (by first | rfl | exact rfv_rf _) ?_
    refine R.getS (l.1) dX6_setting_46 fl_X6_9 (by decide) rfl ?_
    refine R.ldcS (i := 15) rfl dX6_setting_49 ?_
    refine cl_X6_35 rfl rfl (by first | exact Nat.le_of_ble_eq_true rfl | simp [rf_cat, Value.category]) dX6_setting_51 ?_
    refine s_tIsW h (by decide) hse ?_
    refine R.if_eq (tgt := 91) dX6_setting_54 (by decide) (fun c54 => ?_) (fun c54 => ?_)
    · refine R.aload_n dX6_setting_91 rfl (by first | rfl | exact rfv_rf _) ?_
      refine R.getS (l.1) dX6_setting_92 fl_X6_9 (by decide) rfl ?_
      refine R.ldcS (i := 16) rfl dX6_setting_95 ?_
      refine cl_X6_35 rfl rfl (by first | exact Nat.le_of_ble_eq_true rfl | simp [rf_cat, Value.category]) dX6_setting_97 ?_
      refine s_tIsW h (by decide) hse ?_
      refine R.if_eq (tgt := 136) dX6_setting_100 (by decide) (fun c100 => ?_) (fun c100 => ?_)
      · refine R.aload_n dX6_setting_136 rfl (by first | rfl | exact rfv_rf _) ?_
        refine R.getS (l.1) dX6_setting_137 fl_X6_9 (by decide) rfl ?_
        refine R.ldcS (i := 17) rfl dX6_setting_140 ?_
        refine cl_X6_35 rfl rfl (by first | exact Nat.le_of_ble_eq_true rfl | simp [rf_cat, Value.category]) dX6_setting_142 ?_
        refine s_tIsW h (by decide) hse ?_
        refine R.if_eq (tgt := 178) dX6_setting_145 (by decide) (fun c145 => ?_) (fun c145 => ?_)
        · refine R.aload_n dX6_setting_178 rfl (by first | rfl | exact rfv_rf _) ?_
          refine R.getS (l.1) dX6_setting_179 fl_X6_9 (by decide) rfl ?_
          refine R.ldcS (i := 18) rfl dX6_setting_182 ?_
          refine cl_X6_35 rfl rfl (by first | exact Nat.le_of_ble_eq_true rfl | simp [rf_cat, Value.category]) dX6_setting_184 ?_
          refine s_tIsW h (by decide) hse ?_
          refine R.if_eq (tgt := 220) dX6_setting_187 (by decide) (fun c187 => ?_) (fun c187 => ?_)
          · rw [setR, if_neg (fls c9), if_neg (fls c54), if_neg (fls c100), if_neg (fls c145), if_neg (fls c187)] at hq
            refine R.aload_n dX6_setting_220 rfl (by first | rfl | exact rfv_rf _) ?_
            refine R.getS (l.1) dX6_setting_221 fl_X6_9 (by decide) rfl ?_
            refine R.iconst (v := 1) dX6_setting_224 rfl ?_
            refine cl_X6_55 rfl rfl (by first | exact Nat.le_of_ble_eq_true rfl | simp [rf_cat, Value.category]) dX6_setting_225 ?_
            refine s_tFail h (fun M225 h225 F225 => ?_)
            have g225 := g.fr F225 nTY
            have l225 := l.fr F225 nT5
            have G225 := G.tr (F225.mo T_S)
            refine R.pop dX6_setting_228 (by first | rfl | exact rf_cat _) ?_
            refine R.aload_n dX6_setting_229 rfl (by first | rfl | exact rfv_rf _) ?_
            refine R.getS (l225.1) dX6_setting_230 fl_X6_9 (by decide) rfl ?_
            refine R.getI dX6_setting_233 fl_X6_142 (by decide) rfl ?_
            rw [h225.hc]
            refine R.if_ne (tgt := 243) dX6_setting_236 (by decide) (fun _ => ?_) (fun c => absurd c (by decide))
            refine R.iconst (v := 0) dX6_setting_243 rfl ?_
            refine WP.ret (ov := some (.int _)) dX6_setting_244 ⟨rfl, _, rfl, by first | rfl | assumption | exact nar_b01 (by assumption)⟩ ?_
            exact hq M225 (PoR.no G225 h225 g225)
          · rw [setR, if_neg (fls c9), if_neg (fls c54), if_neg (fls c100), if_neg (fls c145), if_pos (tru c187)] at hq
            refine R.aload_n dX6_setting_190 rfl (by first | rfl | exact rfv_rf _) ?_
            refine R.getS (l.1) dX6_setting_191 fl_X6_9 (by decide) rfl ?_
            refine R.iconst (v := 0) dX6_setting_194 rfl ?_
            refine R.bipush (v := 100) dX6_setting_195 (by decide) ?_
            refine cl_X6_70 rfl rfl (by first | exact Nat.le_of_ble_eq_true rfl | simp [rf_cat, Value.category]) dX6_setting_197 ?_
            refine s_tNextI h (fun M197 h197 F197 => ?_)
            have g197 := g.fr F197 nTY
            have l197 := l.fr F197 nT5
            have G197 := G.tr (F197.mo T_S)
            refine R.if_eq (tgt := 229) dX6_setting_200 (by decide) (fun c200 => ?_) (fun c200 => ?_)
            · refine R.aload_n dX6_setting_229 rfl (by first | rfl | exact rfv_rf _) ?_
              refine R.getS (l197.1) dX6_setting_230 fl_X6_9 (by decide) rfl ?_
              have w197 := er_1 c200
              replace h197 := h197.no w197
              rw [st1, if_neg w197] at hq
              refine R.getI dX6_setting_233 fl_X6_142 (by decide) rfl ?_
              rw [h197.hc]
              refine R.if_ne (tgt := 243) dX6_setting_236 (by decide) (fun _ => ?_) (fun c => absurd c w197)
              refine R.iconst (v := 0) dX6_setting_243 rfl ?_
              refine WP.ret (ov := some (.int _)) dX6_setting_244 ⟨rfl, _, rfl, by first | rfl | assumption | exact nar_b01 (by assumption)⟩ ?_
              exact hq M197 (PoR.no G197 h197 g197)
            · have z197 := er_0 c200
              replace h197 := h197.ok z197
              rw [st1, if_pos z197] at hq
              refine R.aload_n dX6_setting_203 rfl (by first | rfl | exact rfv_rf _) ?_
              refine R.getS (l197.2) dX6_setting_204 fl_X6_15 (by decide) rfl ?_
              refine R.aload_n dX6_setting_207 rfl (by first | rfl | exact rfv_rf _) ?_
              refine R.getS (l197.1) dX6_setting_208 fl_X6_9 (by decide) rfl ?_
              refine cl_X6_74 rfl rfl (by first | exact Nat.le_of_ble_eq_true rfl | simp [rf_cat, Value.category]) dX6_setting_211 ?_
              refine s_tNum h197 tS_tE ?_
              refine R.putI dX6_setting_214 fl_X6_139 (fun q hq => by cases hq; exact Or.inl rfl) (by decide) rfl rfl rfl ?_
              refine R.goto (tgt := 229) dX6_setting_217 (by decide) ?_
              refine R.aload_n dX6_setting_229 rfl (by first | rfl | exact rfv_rf _) ?_
              refine R.getS (l197.1) dX6_setting_230 fl_X6_9 (by decide) rfl ?_
              refine R.getI dX6_setting_233 fl_X6_142 (by decide) rfl ?_
              rw [mI_sI, if_neg (by decide), h197.hc]
              refine R.if_ne (tgt := 243) dX6_setting_236 (by decide) (fun c => absurd rfl c) (fun _ => ?_)
              refine R.iconst (v := 1) dX6_setting_239 rfl ?_
              refine R.goto (tgt := 244) dX6_setting_240 (by decide) ?_
              refine WP.ret (ov := some (.int _)) dX6_setting_244 ⟨rfl, _, rfl, by first | rfl | assumption | exact nar_b01 (by assumption)⟩ ?_
              exact hq _ (PoR.yes (Fr.sI G197 (Y_S _ _ inY_F)) (h197.fr (Fr.sI (Fr.rf (inY 2) _) inY_F) nY7 nY13) (Yv.tF g197 (by decide) (fun _ => rfl)))
        · rw [setR, if_neg (fls c9), if_neg (fls c54), if_neg (fls c100), if_pos (tru c145)] at hq
          refine R.aload_n dX6_setting_148 rfl (by first | rfl | exact rfv_rf _) ?_
          refine R.getS (l.1) dX6_setting_149 fl_X6_9 (by decide) rfl ?_
          refine R.iconst (v := 1) dX6_setting_152 rfl ?_
          refine R.bipush (v := 9) dX6_setting_153 (by decide) ?_
          refine cl_X6_70 rfl rfl (by first | exact Nat.le_of_ble_eq_true rfl | simp [rf_cat, Value.category]) dX6_setting_155 ?_
          refine s_tNextI h (fun M155 h155 F155 => ?_)
          have g155 := g.fr F155 nTY
          have l155 := l.fr F155 nT5
          have G155 := G.tr (F155.mo T_S)
          refine R.if_eq (tgt := 229) dX6_setting_158 (by decide) (fun c158 => ?_) (fun c158 => ?_)
          · refine R.aload_n dX6_setting_229 rfl (by first | rfl | exact rfv_rf _) ?_
            refine R.getS (l155.1) dX6_setting_230 fl_X6_9 (by decide) rfl ?_
            have w155 := er_1 c158
            replace h155 := h155.no w155
            rw [st1, if_neg w155] at hq
            refine R.getI dX6_setting_233 fl_X6_142 (by decide) rfl ?_
            rw [h155.hc]
            refine R.if_ne (tgt := 243) dX6_setting_236 (by decide) (fun _ => ?_) (fun c => absurd c w155)
            refine R.iconst (v := 0) dX6_setting_243 rfl ?_
            refine WP.ret (ov := some (.int _)) dX6_setting_244 ⟨rfl, _, rfl, by first | rfl | assumption | exact nar_b01 (by assumption)⟩ ?_
            exact hq M155 (PoR.no G155 h155 g155)
          · have z155 := er_0 c158
            replace h155 := h155.ok z155
            rw [st1, if_pos z155] at hq
            refine R.aload_n dX6_setting_161 rfl (by first | rfl | exact rfv_rf _) ?_
            refine R.getS (l155.2) dX6_setting_162 fl_X6_15 (by decide) rfl ?_
            refine R.aload_n dX6_setting_165 rfl (by first | rfl | exact rfv_rf _) ?_
            refine R.getS (l155.1) dX6_setting_166 fl_X6_9 (by decide) rfl ?_
            refine cl_X6_74 rfl rfl (by first | exact Nat.le_of_ble_eq_true rfl | simp [rf_cat, Value.category]) dX6_setting_169 ?_
            refine s_tNum h155 tS_tE ?_
            refine R.putI dX6_setting_172 fl_X6_134 (fun q hq => by cases hq; exact Or.inl rfl) (by decide) rfl rfl rfl ?_
            refine R.goto (tgt := 229) dX6_setting_175 (by decide) ?_
            refine R.aload_n dX6_setting_229 rfl (by first | rfl | exact rfv_rf _) ?_
            refine R.getS (l155.1) dX6_setting_230 fl_X6_9 (by decide) rfl ?_
            refine R.getI dX6_setting_233 fl_X6_142 (by decide) rfl ?_
            rw [mI_sI, if_neg (by decide), h155.hc]
            refine R.if_ne (tgt := 243) dX6_setting_236 (by decide) (fun c => absurd rfl c) (fun _ => ?_)
            refine R.iconst (v := 1) dX6_setting_239 rfl ?_
            refine R.goto (tgt := 244) dX6_setting_240 (by decide) ?_
            refine WP.ret (ov := some (.int _)) dX6_setting_244 ⟨rfl, _, rfl, by first | rfl | assumption | exact nar_b01 (by assumption)⟩ ?_
            exact hq _ (PoR.yes (Fr.sI G155 (Y_S _ _ inY_F)) (h155.fr (Fr.sI (Fr.rf (inY 2) _) inY_F) nY7 nY13) (Yv.tF g155 (by decide) (fun _ => rfl)))
      · rw [setR, if_neg (fls c9), if_neg (fls c54), if_pos (tru c100)] at hq
        refine R.aload_n dX6_setting_103 rfl (by first | rfl | exact rfv_rf _) ?_
        refine R.getS (l.1) dX6_setting_104 fl_X6_9 (by decide) rfl ?_
        refine R.iconst (v := 1) dX6_setting_107 rfl ?_
        refine R.bipush (v := 100) dX6_setting_108 (by decide) ?_
        refine cl_X6_70 rfl rfl (by first | exact Nat.le_of_ble_eq_true rfl | simp [rf_cat, Value.category]) dX6_setting_110 ?_
        refine s_tNextI h (fun M110 h110 F110 => ?_)
        have g110 := g.fr F110 nTY
        have l110 := l.fr F110 nT5
        have G110 := G.tr (F110.mo T_S)
        refine R.if_eq (tgt := 229) dX6_setting_113 (by decide) (fun c113 => ?_) (fun c113 => ?_)
        · refine R.aload_n dX6_setting_229 rfl (by first | rfl | exact rfv_rf _) ?_
          refine R.getS (l110.1) dX6_setting_230 fl_X6_9 (by decide) rfl ?_
          have w110 := er_1 c113
          replace h110 := h110.no w110
          rw [st1, if_neg w110] at hq
          refine R.getI dX6_setting_233 fl_X6_142 (by decide) rfl ?_
          rw [h110.hc]
          refine R.if_ne (tgt := 243) dX6_setting_236 (by decide) (fun _ => ?_) (fun c => absurd c w110)
          refine R.iconst (v := 0) dX6_setting_243 rfl ?_
          refine WP.ret (ov := some (.int _)) dX6_setting_244 ⟨rfl, _, rfl, by first | rfl | assumption | exact nar_b01 (by assumption)⟩ ?_
          exact hq M110 (PoR.no G110 h110 g110)
        · have z110 := er_0 c113
          replace h110 := h110.ok z110
          rw [st1, if_pos z110] at hq
          refine R.aload_n dX6_setting_116 rfl (by first | rfl | exact rfv_rf _) ?_
          refine R.getS (l110.2) dX6_setting_117 fl_X6_15 (by decide) rfl ?_
          refine R.getS (lay2 g110.lay) dX6_setting_120 fl_X6_114 (by decide) rfl ?_
          refine R.aload_n dX6_setting_123 rfl (by first | rfl | exact rfv_rf _) ?_
          refine R.getS (l110.1) dX6_setting_124 fl_X6_9 (by decide) rfl ?_
          refine cl_X6_74 rfl rfl (by first | exact Nat.le_of_ble_eq_true rfl | simp [rf_cat, Value.category]) dX6_setting_127 ?_
          refine s_tNum h110 tS_tE ?_
          refine R.putI dX6_setting_130 fl_X6_130 (fun q hq => by cases hq; exact Or.inl rfl) (by decide) rfl rfl rfl ?_
          refine R.goto (tgt := 229) dX6_setting_133 (by decide) ?_
          refine R.aload_n dX6_setting_229 rfl (by first | rfl | exact rfv_rf _) ?_
          refine R.getS (l110.1) dX6_setting_230 fl_X6_9 (by decide) rfl ?_
          refine R.getI dX6_setting_233 fl_X6_142 (by decide) rfl ?_
          rw [mI_sI, if_neg (by decide), h110.hc]
          refine R.if_ne (tgt := 243) dX6_setting_236 (by decide) (fun c => absurd rfl c) (fun _ => ?_)
          refine R.iconst (v := 1) dX6_setting_239 rfl ?_
          refine R.goto (tgt := 244) dX6_setting_240 (by decide) ?_
          refine WP.ret (ov := some (.int _)) dX6_setting_244 ⟨rfl, _, rfl, by first | rfl | assumption | exact nar_b01 (by assumption)⟩ ?_
          exact hq _ (PoR.yes (Fr.sI G110 (Y_S _ _ inY_S)) (h110.fr (Fr.sI (Fr.rf (inY 2) _) inY_S) nY7 nY13) (Yv.tS g110 (by decide) (fun _ => rfl)))
    · rw [setR, if_neg (fls c9), if_pos (tru c54)] at hq
      refine R.aload_n dX6_setting_57 rfl (by first | rfl | exact rfv_rf _) ?_
      refine R.getS (l.1) dX6_setting_58 fl_X6_9 (by decide) rfl ?_
      refine R.iconst (v := 0) dX6_setting_61 rfl ?_
      refine R.sipush (v := 9999) dX6_setting_62 (by decide) ?_
      refine cl_X6_70 rfl rfl (by first | exact Nat.le_of_ble_eq_true rfl | simp [rf_cat, Value.category]) dX6_setting_65 ?_
      refine s_tNextI h (fun M65 h65 F65 => ?_)
      have g65 := g.fr F65 nTY
      have l65 := l.fr F65 nT5
      have G65 := G.tr (F65.mo T_S)
      refine R.if_eq (tgt := 229) dX6_setting_68 (by decide) (fun c68 => ?_) (fun c68 => ?_)
      · refine R.aload_n dX6_setting_229 rfl (by first | rfl | exact rfv_rf _) ?_
        refine R.getS (l65.1) dX6_setting_230 fl_X6_9 (by decide) rfl ?_
        have w65 := er_1 c68
        replace h65 := h65.no w65
        rw [st1, if_neg w65] at hq
        refine R.getI dX6_setting_233 fl_X6_142 (by decide) rfl ?_
        rw [h65.hc]
        refine R.if_ne (tgt := 243) dX6_setting_236 (by decide) (fun _ => ?_) (fun c => absurd c w65)
        refine R.iconst (v := 0) dX6_setting_243 rfl ?_
        refine WP.ret (ov := some (.int _)) dX6_setting_244 ⟨rfl, _, rfl, by first | rfl | assumption | exact nar_b01 (by assumption)⟩ ?_
        exact hq M65 (PoR.no G65 h65 g65)
      · have z65 := er_0 c68
        replace h65 := h65.ok z65
        rw [st1, if_pos z65] at hq
        refine R.aload_n dX6_setting_71 rfl (by first | rfl | exact rfv_rf _) ?_
        refine R.getS (l65.2) dX6_setting_72 fl_X6_15 (by decide) rfl ?_
        refine R.getS (lay2 g65.lay) dX6_setting_75 fl_X6_114 (by decide) rfl ?_
        refine R.aload_n dX6_setting_78 rfl (by first | rfl | exact rfv_rf _) ?_
        refine R.getS (l65.1) dX6_setting_79 fl_X6_9 (by decide) rfl ?_
        refine cl_X6_74 rfl rfl (by first | exact Nat.le_of_ble_eq_true rfl | simp [rf_cat, Value.category]) dX6_setting_82 ?_
        refine s_tNum h65 tS_tE ?_
        refine R.putI dX6_setting_85 fl_X6_125 (fun q hq => by cases hq; exact Or.inl rfl) (by decide) rfl rfl rfl ?_
        refine R.goto (tgt := 229) dX6_setting_88 (by decide) ?_
        refine R.aload_n dX6_setting_229 rfl (by first | rfl | exact rfv_rf _) ?_
        refine R.getS (l65.1) dX6_setting_230 fl_X6_9 (by decide) rfl ?_
        refine R.getI dX6_setting_233 fl_X6_142 (by decide) rfl ?_
        rw [mI_sI, if_neg (by decide), h65.hc]
        refine R.if_ne (tgt := 243) dX6_setting_236 (by decide) (fun c => absurd rfl c) (fun _ => ?_)
        refine R.iconst (v := 1) dX6_setting_239 rfl ?_
        refine R.goto (tgt := 244) dX6_setting_240 (by decide) ?_
        refine WP.ret (ov := some (.int _)) dX6_setting_244 ⟨rfl, _, rfl, by first | rfl | assumption | exact nar_b01 (by assumption)⟩ ?_
        exact hq _ (PoR.yes (Fr.sI G65 (Y_S _ _ inY_S)) (h65.fr (Fr.sI (Fr.rf (inY 2) _) inY_S) nY7 nY13) (Yv.tS g65 (by decide) (fun _ => rfl)))
  · rw [setR, if_pos (tru c9)] at hq
    refine R.aload_n dX6_setting_12 rfl (by first | rfl | exact rfv_rf _) ?_
    refine R.getS (l.1) dX6_setting_13 fl_X6_9 (by decide) rfl ?_
    refine R.iconst (v := 0) dX6_setting_16 rfl ?_
    refine R.bipush (v := 50) dX6_setting_17 (by decide) ?_
    refine cl_X6_70 rfl rfl (by first | exact Nat.le_of_ble_eq_true rfl | simp [rf_cat, Value.category]) dX6_setting_19 ?_
    refine s_tNextI h (fun M19 h19 F19 => ?_)
    have g19 := g.fr F19 nTY
    have l19 := l.fr F19 nT5
    have G19 := G.tr (F19.mo T_S)
    refine R.if_eq (tgt := 229) dX6_setting_22 (by decide) (fun c22 => ?_) (fun c22 => ?_)
    · refine R.aload_n dX6_setting_229 rfl (by first | rfl | exact rfv_rf _) ?_
      refine R.getS (l19.1) dX6_setting_230 fl_X6_9 (by decide) rfl ?_
      have w19 := er_1 c22
      replace h19 := h19.no w19
      rw [st1, if_neg w19] at hq
      refine R.getI dX6_setting_233 fl_X6_142 (by decide) rfl ?_
      rw [h19.hc]
      refine R.if_ne (tgt := 243) dX6_setting_236 (by decide) (fun _ => ?_) (fun c => absurd c w19)
      refine R.iconst (v := 0) dX6_setting_243 rfl ?_
      refine WP.ret (ov := some (.int _)) dX6_setting_244 ⟨rfl, _, rfl, by first | rfl | assumption | exact nar_b01 (by assumption)⟩ ?_
      exact hq M19 (PoR.no G19 h19 g19)
    · have z19 := er_0 c22
      replace h19 := h19.ok z19
      rw [st1, if_pos z19] at hq
      refine R.aload_n dX6_setting_25 rfl (by first | rfl | exact rfv_rf _) ?_
      refine R.getS (l19.2) dX6_setting_26 fl_X6_15 (by decide) rfl ?_
      refine R.getS (lay2 g19.lay) dX6_setting_29 fl_X6_114 (by decide) rfl ?_
      refine R.aload_n dX6_setting_32 rfl (by first | rfl | exact rfv_rf _) ?_
      refine R.getS (l19.1) dX6_setting_33 fl_X6_9 (by decide) rfl ?_
      refine cl_X6_74 rfl rfl (by first | exact Nat.le_of_ble_eq_true rfl | simp [rf_cat, Value.category]) dX6_setting_36 ?_
      refine s_tNum h19 tS_tE ?_
      refine R.putI dX6_setting_39 fl_X6_118 (fun q hq => by cases hq; exact Or.inl rfl) (by decide) rfl rfl rfl ?_
      refine R.goto (tgt := 229) dX6_setting_42 (by decide) ?_
      refine R.aload_n dX6_setting_229 rfl (by first | rfl | exact rfv_rf _) ?_
      refine R.getS (l19.1) dX6_setting_230 fl_X6_9 (by decide) rfl ?_
      refine R.getI dX6_setting_233 fl_X6_142 (by decide) rfl ?_
      rw [mI_sI, if_neg (by decide), h19.hc]
      refine R.if_ne (tgt := 243) dX6_setting_236 (by decide) (fun c => absurd rfl c) (fun _ => ?_)
      refine R.iconst (v := 1) dX6_setting_239 rfl ?_
      refine R.goto (tgt := 244) dX6_setting_240 (by decide) ?_
      refine WP.ret (ov := some (.int _)) dX6_setting_244 ⟨rfl, _, rfl, by first | rfl | assumption | exact nar_b01 (by assumption)⟩ ?_
      exact hq _ (PoR.yes (Fr.sI G19 (Y_S _ _ inY_S)) (h19.fr (Fr.sI (Fr.rf (inY 2) _) inY_S) nY7 nY13) (Yv.tS g19 (by decide) (fun _ => rfl)))
