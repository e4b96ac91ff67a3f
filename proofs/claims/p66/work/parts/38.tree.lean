/-! trees of crates: chains upwards -/
theorem acyO_le {P : Nat → Option Nat} {n m : Nat} {o : Option Nat} (h : acyO n P o) (hm : n ≤ m) : acyO m P o := by
  induction m with
  | zero => cases (show n = 0 by omega); exact h
  | succ m ih =>
    by_cases z : n = m + 1
    · rw [← z]; exact h
    · exact acyO_mo m P o (ih (by omega))
theorem depO_st {P : Nat → Option Nat} : ∀ (n m : Nat) (o : Option Nat), acyO n P o → acyO m P o → depO n P o = depO m P o := by
  intro n
  induction n with
  | zero =>
    intro m o h _
    cases (show o = none from h)
    cases m <;> rfl
  | succ n ih =>
    intro m o h h2
    cases o with
    | none => cases m <;> rfl
    | some j =>
      cases m with
      | zero => cases h2
      | succ m =>
        show depO n P (P j) + 1 = depO m P (P j) + 1
        rw [ih m (P j) h h2]
theorem acyO_dep {P : Nat → Option Nat} : ∀ (n : Nat) (o : Option Nat), acyO n P o → acyO (depO n P o) P o := by
  intro n
  induction n with
  | zero => intro o h; exact h
  | succ n ih =>
    intro o h
    cases o with
    | none => rfl
    | some j => exact ih (P j) h
theorem inO_st {P : Nat → Option Nat} {t : Nat} : ∀ (n m : Nat) (o : Option Nat), acyO n P o → acyO m P o → inO n P o t = inO m P o t := by
  intro n
  induction n with
  | zero =>
    intro m o h _
    cases (show o = none from h)
    cases m <;> rfl
  | succ n ih =>
    intro m o h h2
    cases o with
    | none => cases m <;> rfl
    | some j =>
      cases m with
      | zero => cases h2
      | succ m =>
        show (if j = t then true else inO n P (P j) t) = (if j = t then true else inO m P (P j) t)
        rw [ih m (P j) h h2]
/-- a chain that does not meet c is the same when c hangs elsewhere -/
theorem acyO_off {P : Nat → Option Nat} {c : Nat} {v : Option Nat} : ∀ (n : Nat) (o : Option Nat), inO n P o c = false → acyO n P o → acyO n (fun i => if i = c then v else P i) o := by
  intro n
  induction n with
  | zero => intro o _ h; exact h
  | succ n ih =>
    intro o hi h
    cases o with
    | none => trivial
    | some j =>
      have hi2 : (if j = c then true else inO n P (P j) c) = false := hi
      have hj : ¬ j = c := by intro z; rw [if_pos z] at hi2; cases hi2
      rw [if_neg hj] at hi2
      show acyO n _ (if j = c then v else P j)
      rw [if_neg hj]
      exact ih (P j) hi2 h
theorem depO_off {P : Nat → Option Nat} {c : Nat} {v : Option Nat} : ∀ (n : Nat) (o : Option Nat), inO n P o c = false → depO n (fun i => if i = c then v else P i) o = depO n P o := by
  intro n
  induction n with
  | zero => intro o _; rfl
  | succ n ih =>
    intro o hi
    cases o with
    | none => rfl
    | some j =>
      have hi2 : (if j = c then true else inO n P (P j) c) = false := hi
      have hj : ¬ j = c := by intro z; rw [if_pos z] at hi2; cases hi2
      rw [if_neg hj] at hi2
      show depO n _ (if j = c then v else P j) + 1 = depO n P (P j) + 1
      rw [if_neg hj, ih (P j) hi2]
/-- what is inside c stands at least as deep -/
theorem depO_in {P : Nat → Option Nat} {c : Nat} (hc : acyO 5 P (P c)) : ∀ (n : Nat) (o : Option Nat), acyO n P o → inO n P o c = true → depO 5 P (P c) + 1 ≤ depO n P o := by
  intro n
  induction n with
  | zero => intro o _ h; cases h
  | succ n ih =>
    intro o ha hi
    cases o with
    | none => cases hi
    | some j =>
      have hi2 : (if j = c then true else inO n P (P j) c) = true := hi
      have ha2 : acyO n P (P j) := ha
      show depO 5 P (P c) + 1 ≤ depO n P (P j) + 1
      by_cases hj : j = c
      · rw [hj] at ha2 ⊢
        rw [depO_st 5 n (P c) hc ha2]
        exact Nat.le_refl _
      · rw [if_neg hj] at hi2
        have := ih (P j) ha2 hi2
        omega
theorem acyO_on {P : Nat → Option Nat} {c o r : Nat} (hc : acyO 5 P (P c)) (hr : acyO r (fun i => if i = c then some o else P i) (some o)) : ∀ (n : Nat) (x : Option Nat), acyO n P x → inO n P x c = true → acyO (depO n P x - (depO 5 P (P c) + 1) + 1 + r) (fun i => if i = c then some o else P i) x := by
  intro n
  induction n with
  | zero => intro o _ h; cases h
  | succ n ih =>
    intro x ha hi
    cases x with
    | none => cases hi
    | some j =>
      have hi2 : (if j = c then true else inO n P (P j) c) = true := hi
      have ha2 : acyO n P (P j) := ha
      by_cases hj : j = c
      · subst hj
        refine acyO_le (n := 1 + r) ?_ (by omega)
        rw [Nat.add_comm]
        show acyO r _ (if j = j then some o else P j)
        rw [if_pos rfl]
        exact hr
      · rw [if_neg hj] at hi2
        have h1 := ih (P j) ha2 hi2
        have h2 := depO_in hc n (P j) ha2 hi2
        have e : depO (n + 1) P (some j) - (depO 5 P (P c) + 1) + 1 + r = (depO n P (P j) - (depO 5 P (P c) + 1) + 1 + r) + 1 := by
          show depO n P (P j) + 1 - (depO 5 P (P c) + 1) + 1 + r = _
          omega
        rw [e]
        show acyO _ _ (if j = c then some o else P j)
        rw [if_neg hj]
        exact h1
theorem fmax_nI {a b : Nat} (ha : a < 2 ^ 31) (hb : b < 2 ^ 31) : fmax (nI a) (nI b) = nI (max a b) := by
  unfold fmax
  by_cases z : a < b
  · rw [if_pos (nI_lt z hb), Nat.max_eq_right (by omega)]
  · rw [if_neg (nI_nlt (by omega) ha), Nat.max_eq_left (by omega)]
def lvN (Y : Yd) (t : Nat) : Nat → Nat → Nat → Nat
  | 0, _, a => a
  | k + 1, i, a => lvN Y t k (i + 1) (if ins Y i t = true then max a (dp Y i - dp Y t) else a)
theorem dp_le (Y : Yd) (i : Nat) : dp Y i ≤ 5 := depO_le 5 _ _
theorem ins_dp {Y : Yd} {i t : Nat} (hA : Acy Y) (hi : i < 16) (ht : t < 16) (h : ins Y i t = true) : dp Y t ≤ dp Y i := by
  have := depO_in (hA t ht) 6 (some i) (hA i hi) h
  have e : depO 6 (yP Y) (some i) = dp Y i + 1 := rfl
  unfold dp at *
  omega
theorem lvF_N {Y : Yd} {t : Nat} (hA : Acy Y) (ht : t < 16) : ∀ k i a, i + k = 16 → a ≤ 5 → lvF Y t k i (nI a) = nI (lvN Y t k i a) ∧ lvN Y t k i a ≤ 5 ∧ a ≤ lvN Y t k i a ∧ ∀ j, i ≤ j → j < 16 → ins Y j t = true → dp Y j - dp Y t ≤ lvN Y t k i a := by
  intro k
  induction k with
  | zero => intro i a hi ha; exact ⟨rfl, ha, Nat.le_refl _, fun j h1 h2 => by omega⟩
  | succ k ih =>
    intro i a hi ha
    have d1 := dp_le Y i
    rw [lvF, lvN]
    by_cases z : ins Y i t = true
    · rw [if_pos z, if_pos z]
      have hd := ins_dp hA (by omega) ht z
      rw [nI_sub hd, fmax_nI (by omega) (by omega)]
      obtain ⟨h1, h2, h3, h4⟩ := ih (i + 1) (max a (dp Y i - dp Y t)) (by omega) (by omega)
      refine ⟨h1, h2, by omega, fun j h5 h6 h7 => ?_⟩
      by_cases e : j = i
      · rw [e]; omega
      · exact h4 j (by omega) h6 h7
    · rw [if_neg z, if_neg z]
      obtain ⟨h1, h2, h3, h4⟩ := ih (i + 1) a (by omega) ha
      refine ⟨h1, h2, h3, fun j h5 h6 h7 => ?_⟩
      by_cases e : j = i
      · rw [e] at h7; exact absurd h7 z
      · exact h4 j (by omega) h6 h7
theorem b01_can (Y : Yd) (i o : Nat) : yCan Y i o = 0 ∨ yCan Y i o = 1 := by
  unfold yCan
  split
  · exact Or.inr rfl
  · exact Or.inl rfl
/-- what canNest answers, in numbers -/
theorem can_iff {Y : Yd} {i o : Nat} (hA : Acy Y) (hi : i < 16) : ¬ yCan Y i o = 0 ↔ (¬ yC Y i 7 = 0 ∧ ¬ yC Y o 7 = 0 ∧ ¬ ins Y o i = true ∧ dp Y o + 1 + lvN Y i 16 0 0 ≤ 5) := by
  obtain ⟨h1, h2, -, -⟩ := lvF_N hA hi 16 0 0 (by omega) (by omega)
  have h0 : nI 0 = 0 := nI_0
  rw [h0] at h1
  have hd := dp_le Y o
  have e : nI (dp Y o) + 1 + lvF Y i 16 0 0 = nI (dp Y o + 1 + lvN Y i 16 0 0) := by
    rw [h1, nI_1, nI_add]
  have le5 : nI (dp Y o) + 1 + lvF Y i 16 0 0 ≤ 5 ↔ dp Y o + 1 + lvN Y i 16 0 0 ≤ 5 := by
    rw [e]
    constructor
    · intro h
      apply Decidable.byContradiction
      intro z
      exact nI_ge (a := 5) (by omega) (by omega) h
    · intro h; exact nI_le (b := 5) h (by decide)
  rw [← le5]
  unfold yCan
  constructor
  · intro h
    apply Decidable.byContradiction
    intro z
    rw [if_neg z] at h
    exact h rfl
  · intro h
    rw [if_pos h]
    decide
theorem yP_neY (Y : Yd) (i o : Nat) : yP (neY Y i o) = fun x => if x = i then some o else yP Y x := by
  unfold neY
  rw [yP_awO]
  show yP (uC (uF (uP _ i (some o)) 8 _) i 6 _) = _
  rw [yP_uC, yP_uF]
  funext x
  rw [yP_uP, yP_awO]
theorem yP_neY0 (Y : Yd) (i o : Nat) : yP (neY0 Y i o) = fun x => if x = i then some o else yP Y x := by
  show yP (uC (uF (uP _ i (some o)) 8 _) i 6 _) = _
  rw [yP_uC, yP_uF]
  funext x
  rw [yP_uP, yP_awO]
theorem acy_can0 {Y : Yd} {i o : Nat} (hA : Acy Y) (ho : o < 16) (h3 : ¬ ins Y o i = true) : acyO 6 (yP (neY0 Y i o)) (some o) := by
  rw [yP_neY0]
  exact acyO_off 6 (some o) (Bool.eq_false_iff.mpr h3) (hA o ho)
theorem acy_can {Y : Yd} {i o : Nat} (hA : Acy Y) (hi : i < 16) (ho : o < 16) (h3 : ¬ ins Y o i = true) (h4 : dp Y o + 1 + lvN Y i 16 0 0 ≤ 5) : Acy (neY Y i o) := by
  intro x hx
  rw [yP_neY]
  have hr : acyO (dp Y o + 1) (fun x => if x = i then some o else yP Y x) (some o) := by
    have h5 : acyO (dp Y o + 1) (yP Y) (some o) := acyO_dep 5 (yP Y (o)) (hA o ho)
    refine acyO_off _ (some o) ?_ h5
    rw [← inO_st 6 (dp Y o + 1) (some o) (hA o ho) h5]
    exact Bool.eq_false_iff.mpr h3
  cases z : ins Y x i with
  | true =>
    have h6 := acyO_on (hA i hi) hr 6 (some x) (hA x hx) z
    have h7 := (lvF_N hA hi 16 0 0 (by omega) (by omega)).2.2.2 x (by omega) hx z
    have e : depO 6 (yP Y) (some x) = dp Y x + 1 := rfl
    rw [e] at h6
    have h8 := ins_dp hA hx hi z
    have h9 : dp Y x + 1 - (depO 5 (yP Y) (yP Y i) + 1) + 1 + (dp Y o + 1) = (dp Y x - dp Y i + dp Y o + 1) + 1 := by
      unfold dp at h8 ⊢
      omega
    rw [h9] at h6
    exact acyO_le (show acyO (dp Y x - dp Y i + dp Y o + 1) _ ((fun x => if x = i then some o else yP Y x) x) from h6) (by omega)
  | false =>
    exact acyO_off 6 (some x) z (hA x hx)
theorem acy_un {Y : Yd} {i : Nat} (hA : Acy Y) : Acy (unY Y i) := by
  have e : yP (unY Y i) = fun x => if x = i then none else yP Y x := by
    funext x
    unfold unY
    rw [yP_uP, yP_awO]
  intro x hx
  rw [e]
  have gen : ∀ (n : Nat) (p : Option Nat), acyO n (yP Y) p → acyO n (fun x => if x = i then none else yP Y x) p := by
    intro n
    induction n with
    | zero => intro p h; exact h
    | succ n ih =>
      intro p h
      cases p with
      | none => trivial
      | some j =>
        show acyO n _ (if j = i then none else yP Y j)
        by_cases z : j = i
        · rw [if_pos z]; cases n <;> trivial
        · rw [if_neg z]; exact ih (yP Y j) h
  by_cases z : x = i
  · show acyO 5 _ (if x = i then none else yP Y x)
    rw [if_pos z]; trivial
  · show acyO 5 _ (if x = i then none else yP Y x)
    rw [if_neg z]; exact gen 5 _ (hA x hx)
