/-! the whole setup -/
def mY (Y : Yd) : Nat := (yF Y 4).toNatClampNeg
def wY (Y : Yd) : Nat := (yF Y 5).toNatClampNeg
theorem DY.m {Y : Yd} {m w : Nat} (h : DY Y m w) : mY Y = m := by unfold mY; rw [h.2.2.1, nI_clamp (by have := h.1; omega)]
theorem DY.w {Y : Yd} {m w : Nat} (h : DY Y m w) : wY Y = w := by unfold wY; rw [h.2.2.2.1, nI_clamp (by have := h.2.1; omega)]
def seP (b : Nat → Int32) (n : Nat) (r : PR) : PR := match r with
  | .inl x => .inl x
  | .inr (e', Y') => if scC (tK b n e') = 0 then .inr (tE b n e', Y') else .inl (scC (tK b n e'), tS b n e')
def stmP (b : Nat → Int32) (n s e : Nat) (k : Int32) (Y : Yd) : PR :=
  if isW b s e k 11 = true then crP0 b n s e (mY Y) Y else
  if isW b s e k 12 = true then buP0 b n s e (wY Y) Y else seP b n (setR b n s e k Y)
def finS (s : Nat) (Y : Yd) : PR := if 0 < yF Y 4 then .inr (s, Y) else .inl (7, s)
def suP (b : Nat → Int32) (n : Nat) : Nat → Nat → Yd → PR
  | 0, e, Y => finS e Y
  | f + 1, e, Y => if tK b n e = 0 then finS (tS b n e) Y else match stmP b n (tS b n e) (tE b n e) (tK b n e) Y with
    | .inl x => .inl x
    | .inr (e', Y') => suP b n f e' Y'
theorem tE_gt {b : Nat → Int32} {n e : Nat} (h : ¬ tK b n e = 0) : e < tE b n e := by
  have h1 : e ≤ tS b n e := runF_ge _ _ _ _
  have h2 : ¬ kp b n (tS b n e) = 0 := by
    intro z
    unfold tK at h
    rw [if_neg (by rw [z]; rintro (w | w) <;> exact absurd w.1 (by decide))] at h
    exact h z
  unfold tE
  rw [if_neg h2]
  split
  · exact Nat.lt_of_lt_of_le (Nat.lt_succ_of_le h1) (runF_ge _ _ _ _)
  · omega
theorem tE_ge {b : Nat → Int32} {n e : Nat} : e ≤ tE b n e := Nat.le_trans (runF_ge _ _ _ _) tS_tE
theorem sc_gt {b : Nat → Int32} {n e : Nat} (h : scC (tK b n e) = 0) : e < tE b n e := by
  refine tE_gt fun z => ?_
  rw [z] at h
  exact absurd h (by decide)
theorem yF_awO : ∀ (n : Nat) (Y : Yd) (o : Option Nat) (w : Int32), yF (awO n Y o w) = yF Y := by
  intro n
  induction n with
  | zero => intro Y o w; rfl
  | succ n ih =>
    intro Y o w
    cases o with
    | none => rfl
    | some j => exact (ih (awC Y j w) (yP Y j) w).trans rfl
theorem yN_awO : ∀ (n : Nat) (Y : Yd) (o : Option Nat) (w : Int32) (i : Nat), yC (awO n Y o w) i 1 = yC Y i 1 := by
  intro n
  induction n with
  | zero => intro Y o w i; rfl
  | succ n ih =>
    intro Y o w i
    cases o with
    | none => rfl
    | some j =>
      refine (ih (awC Y j w) (yP Y j) w i).trans ?_
      simp [awC, dscY, yC_uC, yC_uL, yC_uT]
theorem DY.ac {Y : Yd} {m w : Nat} {nm ta go : Int32} (h : DY Y m w) (hm : m < 16) : DY (acY Y m nm ta go) (m + 1) w := by
  obtain ⟨h1, h2, h3, h4, h5, h6, h7⟩ := h
  refine ⟨by omega, h2, ?_, h4, fun i j hi e => ?_, h6, fun i hi hmi => ?_⟩
  · show yF (uF Y 4 (yF Y 4 + 1)) 4 = _
    rw [yF_uF, if_pos rfl, h3, nI_succ]
  · have := h5 i j hi e; omega
  · have h8 := h7 i hi (by omega)
    simp [acY, yC_uC, yC_uF, show ¬ i = m by omega, h8]
theorem nz5 {k : Nat} (hk : k < 2 ^ 31) (h : nI k < 5) : k < 5 := (lt_16 (k := 5) (by decide) hk).mp h
theorem depO_up {P : Nat → Option Nat} {m j : Nat} (hP : ∀ i k, i < m → P i = some k → k < m) : ∀ (n : Nat) (o : Option Nat), (∀ i, o = some i → i < m) → acyO n P o → acyO n (fun i => if i = m then some j else P i) o := by
  intro k
  induction k with
  | zero => intro o _ h; exact h
  | succ k ih =>
    intro o ho h
    cases o with
    | none => trivial
    | some i =>
      have hi := ho i rfl
      show acyO k _ (if i = m then some j else P i)
      rw [if_neg (by omega)]
      exact ih (P i) (fun x hx => hP i x hi hx) h
theorem DY.ne {Y : Yd} {m w j : Nat} {nm ta go : Int32} (h : DY Y m w) (hm : m < 16) (hj : j < m) (hd : nI (dp Y j) < 5) : DY (neY (acY Y m nm ta go) m j) (m + 1) w := by
  have ha := DY.ac (nm := nm) (ta := ta) (go := go) h hm
  obtain ⟨h1, h2, h3, h4, h5, h6, h7⟩ := ha
  have hP : ∀ i k, i < m → yP Y i = some k → k < m := fun i k hi e => (h.2.2.2.2.1 i k (by omega) e).2
  have eP : yP (neY (acY Y m nm ta go) m j) = fun i => if i = m then some j else yP Y i := by
    unfold neY
    rw [yP_awO]
    show yP (uC (uF (uP _ m (some j)) 8 _) m 6 _) = _
    rw [yP_uC, yP_uF]
    funext i
    rw [yP_uP, yP_awO]
    rfl
  have eF : ∀ f, f ≠ 8 → yF (neY (acY Y m nm ta go) m j) f = yF (acY Y m nm ta go) f := by
    intro f hf
    unfold neY
    rw [yF_awO]
    show yF (uC (uF (uP (awO 5 (acY Y m nm ta go) _ _) m (some j)) 8 _) m 6 _) f = _
    rw [yF_uC, yF_uF, if_neg hf, yF_uP, yF_awO]
  have eN : ∀ i, yC (neY (acY Y m nm ta go) m j) i 1 = yC (acY Y m nm ta go) i 1 := by
    intro i
    unfold neY
    rw [yN_awO]
    show yC (uC (uF (uP (awO 5 (acY Y m nm ta go) _ _) m (some j)) 8 _) m 6 _) i 1 = _
    rw [yC_uC, if_neg (fun z => absurd z.2 (by decide)), yC_uF, yC_uP, yN_awO]
  refine ⟨h1, h2, (eF 4 (by decide)).trans h3, (eF 5 (by decide)).trans h4, fun i k hi e => ?_, fun i hi => ?_, fun i hi hmi => (eN i).trans (h7 i hi hmi)⟩
  · rw [eP] at e
    dsimp only at e
    split at e
    · cases e; omega
    · have := h.2.2.2.2.1 i k hi e; omega
  · rw [eP]
    dsimp only
    by_cases z : i = m
    · rw [if_pos z]
      show acyO 4 _ (if j = m then some j else yP Y j)
      rw [if_neg (by omega)]
      exact depO_up hP 4 _ (fun x hx => hP j x hj hx) (acy4 h.2.2.2.2.2.1 (by omega) hd)
    · rw [if_neg z]
      exact depO_up hP 5 _ (fun x hx => (h.2.2.2.2.1 i x hi hx).2) (h.2.2.2.2.2.1 i hi)
theorem DY.ab {Y : Yd} {m w : Nat} {nm mo to tr : Int32} (h : DY Y m w) (hw : w < 6) : DY (abY Y w nm mo to tr) m (w + 1) := by
  obtain ⟨h1, h2, h3, h4, h5, h6, h7⟩ := h
  refine ⟨h1, by omega, h3, ?_, h5, h6, h7⟩
  show yF (uF Y 5 (yF Y 5 + 1)) 5 = _
  rw [yF_uF, if_pos rfl, h4, nI_succ]
/-- a statement that holds leaves a draft, and goes on -/
def OKP (e : Nat) (m w : Nat) (r : PR) : Prop := match r with
  | .inl _ => True
  | .inr (e', Y') => e < e' ∧ ∃ m' w', DY Y' m' w'
theorem okP9 {b : Nat → Int32} {n e e0 m w m' w' : Nat} {Y : Yd} (h : DY Y m' w') (he : e0 ≤ e) : OKP e0 m w (crP9 b n e Y) := by
  unfold crP9
  split
  next z => exact ⟨Nat.lt_of_le_of_lt he (sc_gt z), _, _, h⟩
  next => trivial
theorem okP0 {b : Nat → Int32} {n s e m w : Nat} {Y : Yd} (h : DY Y m w) : OKP e m w (crP0 b n s e m Y) := by
  unfold crP0
  split
  next => trivial
  next hm =>
  unfold crP1
  split
  next z1 =>
    unfold crP2
    split
    next z2 =>
      unfold crP3
      split
      next z3 =>
        unfold crP4
        split
        next z4 =>
          unfold crP5
          split
          next z5 =>
            unfold crP6
            split
            next z6 =>
              unfold crP7
              split
              next z7 =>
                split
                next => trivial
                next j hj => exact okP9 (DY.ne h (by omega) (cn_m h z6 hj) (rq_lt z7 hj)) (Nat.le_trans tE_ge (Nat.le_trans tE_ge (Nat.le_trans tE_ge (Nat.le_trans tE_ge tE_ge))))
              next => trivial
            next => trivial
          next => exact okP9 (DY.ac h (by omega)) (Nat.le_trans tE_ge (Nat.le_trans tE_ge tE_ge))
        next => trivial
      next => trivial
    next => trivial
  next => trivial
theorem okB0 {b : Nat → Int32} {n s e m w : Nat} {Y : Yd} (h : DY Y m w) : OKP e m w (buP0 b n s e w Y) := by
  unfold buP0
  split
  next => trivial
  next hw =>
  unfold buP1
  split
  next =>
    unfold buP2
    split
    next =>
      unfold buP3
      split
      next =>
        unfold buP4
        split
        next =>
          unfold buP5
          split
          next =>
            unfold buP6
            split
            next z => exact ⟨Nat.lt_of_le_of_lt (Nat.le_trans tE_ge (Nat.le_trans tE_ge (Nat.le_trans tE_ge tE_ge))) (sc_gt z), _, _, DY.ab h (by omega)⟩
            next => trivial
          next => trivial
        next => trivial
      next => trivial
    next => trivial
  next => trivial
theorem okS1 {b : Nat → Int32} {n e m w : Nat} {lo hi : Int32} {F : Int32 → Yd} (h : ∀ v, ∃ m' w', DY (F v) m' w') : OKP e m w (seP b n (st1 b n e lo hi F)) := by
  unfold st1
  split
  next =>
    show OKP e m w (if scC (tK b n (tE b n e)) = 0 then _ else _)
    split
    next z => exact ⟨Nat.lt_of_le_of_lt tE_ge (sc_gt z), h _⟩
    next => trivial
  next => trivial
theorem okS {b : Nat → Int32} {n s e m w : Nat} {k : Int32} {Y : Yd} (h : DY Y m w) : OKP e m w (seP b n (setR b n s e k Y)) := by
  have hS : ∀ f v, ∃ m' w', DY (uS Y f v) m' w' := fun f v => ⟨m, w, h⟩
  have hF : ∀ f v, f ≠ 4 → f ≠ 5 → ∃ m' w', DY (uF Y f v) m' w' := fun f v h4 h5 => ⟨m, w, h.1, h.2.1, by rw [yF_uF, if_neg h4.symm]; exact h.2.2.1, by rw [yF_uF, if_neg h5.symm]; exact h.2.2.2.1, h.2.2.2.2.1, h.2.2.2.2.2.1, h.2.2.2.2.2.2⟩
  unfold setR
  split
  · exact okS1 (hS 1)
  · split
    · exact okS1 (hS 0)
    · split
      · exact okS1 (hS 2)
      · split
        · exact okS1 (fun v => hF 6 v (by decide) (by decide))
        · split
          · exact okS1 (fun v => hF 7 v (by decide) (by decide))
          · trivial
theorem okStm {b : Nat → Int32} {n s e m w : Nat} {k : Int32} {Y : Yd} (h : DY Y m w) : OKP e m w (stmP b n s e k Y) := by
  unfold stmP
  split
  · rw [h.m]; exact okP0 h
  · split
    · rw [h.w]; exact okB0 h
    · exact okS h
theorem DY_bl : DY blY 0 0 := by
  refine ⟨by decide, by decide, rfl, rfl, ?_, ?_, ?_⟩
  · intro i j _ e; cases e
  · intro i _; trivial
  · intro i _ _; rfl
theorem okR_1 {x : Nat × Yd} : ¬ okR (.inr x) = 0 := by show ¬ (1 : Int32) = 0; decide
theorem PoR.tr {b : Nat → Int32} {n : Nat} {r : PR} {M M1 M2 : Mem} (h : Fr inS M M1) (h2 : PoR b n r M1 M2) : PoR b n r M M2 := ⟨h.tr h2.1, h2.2⟩
theorem tE_end {b : Nat → Int32} {n e : Nat} (h : tK b n e = 0) : tE b n e = tS b n e := by
  have h2 : kp b n (tS b n e) = 0 := by
    unfold tK at h
    split at h
    · exact absurd h (by decide)
    · exact h
  unfold tE
  rw [if_pos h2]
set_option maxHeartbeats 1000000 in
set_option maxRecDepth 4000 in
theorem s_suParse {d : Nat} {b : Nat → Int32} {n : Nat} {c q : Int32} {Y : Yd} {M : Mem} {Q : Out → Mem → Prop} (h : Tz M b n c q) (g : Yv M 2 Y) (l : LSe M) (hq : ∀ M', PoR b n (suP b n 600 0 blY) M M' → Q (.inl (some (.int (okR (suP b n 600 0 blY))))) M') : WPc (d + 8) mX6_parse [.ref (rf 5 0)] M Q := by
  refine WPc.of (by decide +kernel) (Nat.le_of_ble_eq_true rfl) rfl ?_
  have key : ∀ (f i : Nat) (v : Value) (e m w s : Nat) (k : Int32) (M1 : Mem) (Y : Yd), DY Y m w → Tx M1 b n (s, e, k, 0, -1) → Yv M1 2 Y → LSe M1 → Fr inS M M1 → i + f = 600 → 2 * i ≤ e → (∀ M', PoR b n (suP b n f e Y) M M' → Q (.inl (some (.int (okR (suP b n f e Y))))) M') → WP mX6_parse (d + 8) 16 [.ref (rf 5 0), .int (nI i), v] [] M1 Q := by
    intro f
    induction f with
    | zero =>
      intro i v e m w s k M1 Y hD h1 g1 l1 G1 hi he hq
      have := h1.hen
      have := h1.hn
      omega
    | succ f ih =>
      intro i v e m w s k M1 Y hD h1 g1 l1 G1 hi he hq
      have hen9 := h1.hen
      have hn69 := h1.hn
      refine R.iload_n dX6_parse_16 rfl ?_
      refine R.sipush (v := nI 600) dX6_parse_17 (by decide) ?_
      refine R.geF (tgt := 108) (nI_ge (show i < 600 by omega) (by decide)) dX6_parse_20 (by decide) ?_
      refine R.aload_n dX6_parse_23 rfl (by first | rfl | exact rfv_rf _) ?_
      refine R.getS (l1.1) dX6_parse_24 fl_X6_9 (by decide) rfl ?_
      refine cl_X6_29 rfl rfl (by first | exact Nat.le_of_ble_eq_true rfl | simp [rf_cat, Value.category]) dX6_parse_27 ?_
      refine s_tHas h1 (fun M27 h27 F27 => ?_)
      have g27 := g1.fr F27 nTY
      have l27 := l1.fr F27 nT5
      have G27 := G1.tr (F27.mo T_S)
      refine R.if_eq (tgt := 108) dX6_parse_30 (by decide) (fun c30 => ?_) (fun c30 => ?_)
      · have k0 : tK b n e = 0 := by apply Decidable.byContradiction; intro z; rw [if_neg z] at c30; exact absurd c30 (by decide)
        rw [suP, if_pos k0] at hq
        have h27x : Tx M27 b n (tS b n e, tS b n e, tK b n e, 0, -1) := ⟨h27.1, h27.2.1, h27.2.2.1, h27.2.2.2.1, h27.2.2.2.2.1, h27.2.2.2.2.2.1, by rw [← tE_end k0]; exact h27.2.2.2.2.2.2.1, h27.2.2.2.2.2.2.2.1, h27.2.2.2.2.2.2.2.2.1, h27.2.2.2.2.2.2.2.2.2.1, h27.2.2.2.2.2.2.2.2.2.2.1, by have := h27.hen; rw [tE_end k0] at this; exact this⟩
        refine R.aload_n dX6_parse_108 rfl (by first | rfl | exact rfv_rf _) ?_
        refine R.getS (l27.2) dX6_parse_109 fl_X6_15 (by decide) rfl ?_
        refine R.getI dX6_parse_112 fl_X6_51 (by decide) rfl ?_
        rw [g27.rF]
        refine R.if_gt (tgt := 130) dX6_parse_115 (by decide) (fun c115 => ?_) (fun c115 => ?_)
        · refine R.iconst (v := 1) dX6_parse_130 rfl ?_
          refine R.goto (tgt := 135) dX6_parse_131 (by decide) ?_
          refine WP.ret (ov := some (.int _)) dX6_parse_135 ⟨rfl, _, rfl, by first | rfl | assumption | exact nar_b01 (by assumption)⟩ ?_
          rw [finS, if_pos c115] at hq
          exact hq _ (PoR.yes G27 h27x g27)
        · refine R.aload_n dX6_parse_118 rfl (by first | rfl | exact rfv_rf _) ?_
          refine R.getS (l27.1) dX6_parse_119 fl_X6_9 (by decide) rfl ?_
          refine R.bipush (v := 7) dX6_parse_122 (by decide) ?_
          refine cl_X6_55 rfl rfl (by first | exact Nat.le_of_ble_eq_true rfl | simp [rf_cat, Value.category]) dX6_parse_124 ?_
          refine s_tFail h27 (fun M124 h124 F124 => ?_)
          refine R.if_eq (tgt := 134) dX6_parse_127 (by decide) (fun _ => ?_) (fun c => absurd rfl c)
          refine R.iconst (v := 0) dX6_parse_134 rfl ?_
          refine WP.ret (ov := some (.int _)) dX6_parse_135 ⟨rfl, _, rfl, by first | rfl | assumption | exact nar_b01 (by assumption)⟩ ?_
          rw [finS, if_neg c115] at hq
          exact hq _ (PoR.no (G27.tr (F124.mo T_S)) h124 (g27.fr F124 nTY))
      · have k0 : ¬ tK b n e = 0 := by intro z; rw [if_pos z] at c30; exact absurd rfl c30
        rw [suP, if_neg k0] at hq
        have hgt := tE_gt k0
        refine R.aload_n dX6_parse_33 rfl (by first | rfl | exact rfv_rf _) ?_
        refine R.getS (l27.1) dX6_parse_34 fl_X6_9 (by decide) rfl ?_
        refine R.ldcS (i := 11) rfl dX6_parse_37 ?_
        refine cl_X6_35 rfl rfl (by first | exact Nat.le_of_ble_eq_true rfl | simp [rf_cat, Value.category]) dX6_parse_39 ?_
        refine s_tIsW h27 (by decide) tS_tE ?_
        refine R.if_eq (tgt := 53) dX6_parse_42 (by decide) (fun c42 => ?_) (fun c42 => ?_)
        · refine R.aload_n dX6_parse_53 rfl (by first | rfl | exact rfv_rf _) ?_
          refine R.getS (l27.1) dX6_parse_54 fl_X6_9 (by decide) rfl ?_
          refine R.ldcS (i := 12) rfl dX6_parse_57 ?_
          refine cl_X6_35 rfl rfl (by first | exact Nat.le_of_ble_eq_true rfl | simp [rf_cat, Value.category]) dX6_parse_59 ?_
          refine s_tIsW h27 (by decide) tS_tE ?_
          refine R.if_eq (tgt := 73) dX6_parse_62 (by decide) (fun c62 => ?_) (fun c62 => ?_)
          · refine R.aload_n dX6_parse_73 rfl (by first | rfl | exact rfv_rf _) ?_
            refine cl_X6_45 rfl rfl (by first | exact Nat.le_of_ble_eq_true rfl | simp [rf_cat, Value.category]) dX6_parse_74 ?_
            refine s_suSet h27 tS_tE g27 l27 (fun M74 P74 => ?_)
            have hst : stmP b n (tS b n e) (tE b n e) (tK b n e) Y = seP b n (setR b n (tS b n e) (tE b n e) (tK b n e) Y) := by
              unfold stmP
              rw [if_neg (fls c42), if_neg (fls c62)]
            have hok : OKP (tE b n e) m w (stmP b n (tS b n e) (tE b n e) (tK b n e) Y) := okStm hD
            rw [hst] at hq hok
            cases hr : setR b n (tS b n e) (tE b n e) (tK b n e) Y with
            | inl x =>
              try rw [hr] at hq
              try rw [hr] at hok
              try rw [hr] at P74
              try rw [hr]
              dsimp only [seP] at hq
              refine R.if_eq (tgt := 94) dX6_parse_77 (by decide) (fun _ => ?_) (fun c => absurd rfl c)
              refine R.iconst (v := 0) dX6_parse_94 rfl ?_
              refine R.istore_n dX6_parse_95 (Nat.le_of_ble_eq_true rfl) (by decide) (by first | rfl | simp [lft, rf_cat]) rfl ?_
              refine R.iload_n dX6_parse_96 rfl ?_
              refine R.if_ne (tgt := 102) dX6_parse_97 (by decide) (fun c => absurd rfl c) (fun _ => ?_)
              refine R.iconst (v := 0) dX6_parse_100 rfl ?_
              refine WP.ret (ov := some (.int _)) dX6_parse_101 ⟨rfl, _, rfl, by first | rfl | assumption | exact nar_b01 (by assumption)⟩ ?_
              exact hq _ (PoR.tr G27 P74)
            | inr x =>
              obtain ⟨e', Y'⟩ := x
              try rw [hr] at hq
              try rw [hr] at hok
              try rw [hr] at P74
              try rw [hr]
              dsimp only [seP] at hq hok
              obtain ⟨PF, ⟨s', k', hT⟩, hY⟩ := P74
              have l74 := l27.fr PF nS5
              refine R.if_eq (tgt := 94) dX6_parse_77 (by decide) (fun c => absurd c okR_1) (fun _ => ?_)
              refine R.aload_n dX6_parse_80 rfl (by first | rfl | exact rfv_rf _) ?_
              refine R.getS (l74.1) dX6_parse_81 fl_X6_9 (by decide) rfl ?_
              refine cl_X6_48 rfl rfl (by first | exact Nat.le_of_ble_eq_true rfl | simp [rf_cat, Value.category]) dX6_parse_84 ?_
              refine s_tSemi hT (fun M84 h84 F84 => ?_)
              refine R.if_eq (tgt := 94) dX6_parse_87 (by decide) (fun c87 => ?_) (fun c87 => ?_)
              · have w84 := er_1 c87
                rw [if_neg w84] at hq hok
                dsimp only at hq
                refine R.iconst (v := 0) dX6_parse_94 rfl ?_
                refine R.istore_n dX6_parse_95 (Nat.le_of_ble_eq_true rfl) (by decide) (by first | rfl | simp [lft, rf_cat]) rfl ?_
                refine R.iload_n dX6_parse_96 rfl ?_
                refine R.if_ne (tgt := 102) dX6_parse_97 (by decide) (fun c => absurd rfl c) (fun _ => ?_)
                refine R.iconst (v := 0) dX6_parse_100 rfl ?_
                refine WP.ret (ov := some (.int _)) dX6_parse_101 ⟨rfl, _, rfl, by first | rfl | assumption | exact nar_b01 (by assumption)⟩ ?_
                exact hq _ (PoR.no ((G27.tr PF).tr (F84.mo T_S)) (h84.no w84) (hY.fr F84 nTY))
              · have z84 := er_0 c87
                rw [if_pos z84] at hq hok
                dsimp only at hq
                refine R.iconst (v := 1) dX6_parse_90 rfl ?_
                refine R.goto (tgt := 95) dX6_parse_91 (by decide) ?_
                refine R.istore_n dX6_parse_95 (Nat.le_of_ble_eq_true rfl) (by decide) (by first | rfl | simp [lft, rf_cat]) rfl ?_
                refine R.iload_n dX6_parse_96 rfl ?_
                refine R.if_ne (tgt := 102) dX6_parse_97 (by decide) (fun _ => ?_) (fun c => absurd c (by decide))
                refine R.iinc dX6_parse_102 (Nat.le_of_ble_eq_true rfl) (by decide) (by first | rfl | simp [lft, rf_cat]) rfl (inc_nI _) rfl ?_
                refine R.goto (tgt := 16) dX6_parse_105 (by decide) ?_
                obtain ⟨ho1, m', w', hD'⟩ := hok
                exact ih (i + 1) _ _ _ _ _ _ _ _ hD' (h84.ok z84) (hY.fr F84 nTY) (l74.fr F84 nT5) ((G27.tr PF).tr (F84.mo T_S)) (by omega) (by omega) hq
          · refine R.aload_n dX6_parse_65 rfl (by first | rfl | exact rfv_rf _) ?_
            refine cl_X6_43 rfl rfl (by first | exact Nat.le_of_ble_eq_true rfl | simp [rf_cat, Value.category]) dX6_parse_66 ?_
            refine s_suBuyer h27 tS_tE g27 l27 hD (fun M66 P66 => ?_)
            have hst : stmP b n (tS b n e) (tE b n e) (tK b n e) Y = buP0 b n (tS b n e) (tE b n e) w Y := by
              unfold stmP
              rw [if_neg (fls c42), if_pos (tru c62), hD.w]
            have hok : OKP (tE b n e) m w (stmP b n (tS b n e) (tE b n e) (tK b n e) Y) := okStm hD
            rw [hst] at hq hok
            cases hr : buP0 b n (tS b n e) (tE b n e) w Y with
            | inl x =>
              try rw [hr] at hq
              try rw [hr] at hok
              try rw [hr] at P66
              try rw [hr]
              dsimp only at hq
              refine R.istore_n dX6_parse_69 (Nat.le_of_ble_eq_true rfl) (by decide) (by first | rfl | simp [lft, rf_cat]) rfl ?_
              refine R.goto (tgt := 96) dX6_parse_70 (by decide) ?_
              refine R.iload_n dX6_parse_96 rfl ?_
              refine R.if_ne (tgt := 102) dX6_parse_97 (by decide) (fun c => absurd rfl c) (fun _ => ?_)
              refine R.iconst (v := 0) dX6_parse_100 rfl ?_
              refine WP.ret (ov := some (.int _)) dX6_parse_101 ⟨rfl, _, rfl, by first | rfl | assumption | exact nar_b01 (by assumption)⟩ ?_
              exact hq _ (PoR.tr G27 P66)
            | inr x =>
              obtain ⟨e', Y'⟩ := x
              try rw [hr] at hq
              try rw [hr] at hok
              try rw [hr] at P66
              try rw [hr]
              dsimp only at hq
              refine R.istore_n dX6_parse_69 (Nat.le_of_ble_eq_true rfl) (by decide) (by first | rfl | simp [lft, rf_cat]) rfl ?_
              refine R.goto (tgt := 96) dX6_parse_70 (by decide) ?_
              refine R.iload_n dX6_parse_96 rfl ?_
              refine R.if_ne (tgt := 102) dX6_parse_97 (by decide) (fun _ => ?_) (fun c => absurd c okR_1)
              refine R.iinc dX6_parse_102 (Nat.le_of_ble_eq_true rfl) (by decide) (by first | rfl | simp [lft, rf_cat]) rfl (inc_nI _) rfl ?_
              refine R.goto (tgt := 16) dX6_parse_105 (by decide) ?_
              obtain ⟨ho1, m', w', hD'⟩ := hok
              obtain ⟨PF, ⟨s', k', hT⟩, hY⟩ := P66
              exact ih (i + 1) _ _ _ _ _ _ _ _ hD' hT hY (l27.fr PF nS5) (G27.tr PF) (by omega) (by omega) hq
        · refine R.aload_n dX6_parse_45 rfl (by first | rfl | exact rfv_rf _) ?_
          refine cl_X6_39 rfl rfl (by first | exact Nat.le_of_ble_eq_true rfl | simp [rf_cat, Value.category]) dX6_parse_46 ?_
          refine s_suCrate h27 tS_tE g27 l27 hD (fun M46 P46 => ?_)
          have hst : stmP b n (tS b n e) (tE b n e) (tK b n e) Y = crP0 b n (tS b n e) (tE b n e) m Y := by
            unfold stmP
            rw [if_pos (tru c42), hD.m]
          have hok : OKP (tE b n e) m w (stmP b n (tS b n e) (tE b n e) (tK b n e) Y) := okStm hD
          rw [hst] at hq hok
          cases hr : crP0 b n (tS b n e) (tE b n e) m Y with
          | inl x =>
            try rw [hr] at hq
            try rw [hr] at hok
            try rw [hr] at P46
            try rw [hr]
            dsimp only at hq
            refine R.istore_n dX6_parse_49 (Nat.le_of_ble_eq_true rfl) (by decide) (by first | rfl | simp [lft, rf_cat]) rfl ?_
            refine R.goto (tgt := 96) dX6_parse_50 (by decide) ?_
            refine R.iload_n dX6_parse_96 rfl ?_
            refine R.if_ne (tgt := 102) dX6_parse_97 (by decide) (fun c => absurd rfl c) (fun _ => ?_)
            refine R.iconst (v := 0) dX6_parse_100 rfl ?_
            refine WP.ret (ov := some (.int _)) dX6_parse_101 ⟨rfl, _, rfl, by first | rfl | assumption | exact nar_b01 (by assumption)⟩ ?_
            exact hq _ (PoR.tr G27 P46)
          | inr x =>
            obtain ⟨e', Y'⟩ := x
            try rw [hr] at hq
            try rw [hr] at hok
            try rw [hr] at P46
            try rw [hr]
            dsimp only at hq
            refine R.istore_n dX6_parse_49 (Nat.le_of_ble_eq_true rfl) (by decide) (by first | rfl | simp [lft, rf_cat]) rfl ?_
            refine R.goto (tgt := 96) dX6_parse_50 (by decide) ?_
            refine R.iload_n dX6_parse_96 rfl ?_
            refine R.if_ne (tgt := 102) dX6_parse_97 (by decide) (fun _ => ?_) (fun c => absurd c okR_1)
            refine R.iinc dX6_parse_102 (Nat.le_of_ble_eq_true rfl) (by decide) (by first | rfl | simp [lft, rf_cat]) rfl (inc_nI _) rfl ?_
            refine R.goto (tgt := 16) dX6_parse_105 (by decide) ?_
            obtain ⟨ho1, m', w', hD'⟩ := hok
            obtain ⟨PF, ⟨s', k', hT⟩, hY⟩ := P46
            exact ih (i + 1) _ _ _ _ _ _ _ _ hD' hT hY (l27.fr PF nS5) (G27.tr PF) (by omega) (by omega) hq
  refine R.aload_n dX6_parse_0 rfl (by first | rfl | exact rfv_rf _) ?_
  refine R.getS (l.2) dX6_parse_1 fl_X6_15 (by decide) rfl ?_
  refine cl_X6_19 rfl rfl (by first | exact Nat.le_of_ble_eq_true rfl | simp [rf_cat, Value.category]) dX6_parse_4 ?_
  refine s_yReset g (fun M4 g4 F4 => ?_)
  have h4 := h.fr F4 nY7 nY13
  have l0 := l.fr F4 nY5
  refine R.aload_n dX6_parse_7 rfl (by first | rfl | exact rfv_rf _) ?_
  refine R.getS (l0.1) dX6_parse_8 fl_X6_9 (by decide) rfl ?_
  refine cl_X6_24 rfl rfl (by first | exact Nat.le_of_ble_eq_true rfl | simp [rf_cat, Value.category]) dX6_parse_11 ?_
  refine s_tRew h4 (fun M11 s11 k11 h11 F11 => ?_)
  refine R.iconst (v := 0) dX6_parse_14 rfl ?_
  refine R.istore_n dX6_parse_15 (Nat.le_of_ble_eq_true rfl) (by decide) (by first | rfl | simp [lft, rf_cat]) rfl ?_
  exact key 600 0 _ 0 0 0 _ _ _ _ DY_bl h11 (g4.fr F11 nTY) (l0.fr F11 nT5) ((F4.mo Y_S).tr (F11.mo T_S)) (by omega) (by omega) hq
