/-! the children of a crate, one after another -/
/-- siblings were put in one after another -/
def SbD (Y : Yd) : Prop := (∀ i, i < 16 → ∀ o, yP Y i = some o → 0 < (yC Y i 6).toInt) ∧ ∀ i, i < 16 → ∀ j, j < 16 → ∀ o, yP Y i = some o → yP Y j = some o → (yC Y i 6).toInt = (yC Y j 6).toInt → i = j
def nxP (Y : Yd) (o : Nat) (t : Int32) (r : Option Nat) : Prop := match r with
  | none => ∀ k, k < 16 → yP Y k = some o → ¬ t.toInt < (yC Y k 6).toInt
  | some c => c < 16 ∧ yP Y c = some o ∧ t.toInt < (yC Y c 6).toInt ∧ ∀ k, k < 16 → yP Y k = some o → t.toInt < (yC Y k 6).toInt → (yC Y c 6).toInt ≤ (yC Y k 6).toInt
theorem caF_nx (Y : Yd) (o : Nat) (t : Int32) : nxP Y o t (caF Y o t 16 0 none) := by
  have key : ∀ (k i : Nat) (b : Option Nat), i + k = 16 → (match b with
      | none => ∀ k, k < i → yP Y k = some o → ¬ t.toInt < (yC Y k 6).toInt
      | some c => c < 16 ∧ yP Y c = some o ∧ t.toInt < (yC Y c 6).toInt ∧ ∀ k, k < i → yP Y k = some o → t.toInt < (yC Y k 6).toInt → (yC Y c 6).toInt ≤ (yC Y k 6).toInt) → nxP Y o t (caF Y o t k i b) := by
    intro k
    induction k with
    | zero =>
      intro i b hi h
      have e : i = 16 := by omega
      subst e
      exact h
    | succ k ih =>
      intro i b hi h
      rw [caF]
      refine ih (i + 1) _ (by omega) ?_
      unfold caC
      by_cases z1 : yP Y i = some o
      · by_cases z2 : t < yC Y i 6
        · have z2' := Int32.lt_iff_toInt_lt.mp z2
          cases b with
          | none =>
            simp only [z1, z2, decide_true, Bool.and_true, if_true]
            refine ⟨by omega, trivial, z2', fun k hk p q => ?_⟩
            by_cases w : k = i
            · subst w; omega
            · exact absurd q (h k (by omega) p)
          | some c =>
            obtain ⟨h1, h2, h3, h4⟩ := h
            by_cases z3 : yC Y i 6 < yC Y c 6
            · have z3' := Int32.lt_iff_toInt_lt.mp z3
              simp only [z1, z2, z3, decide_true, Bool.and_true, if_true]
              refine ⟨by omega, trivial, z2', fun k hk p q => ?_⟩
              by_cases w : k = i
              · subst w; omega
              · have := h4 k (by omega) p q; omega
            · have z3' : ¬ (yC Y i 6).toInt < (yC Y c 6).toInt := fun w => z3 (Int32.lt_iff_toInt_lt.mpr w)
              simp only [z1, z2, z3, decide_true, decide_false, Bool.and_false, Bool.false_eq_true, if_false]
              refine ⟨h1, h2, h3, fun k hk p q => ?_⟩
              by_cases w : k = i
              · subst w; omega
              · exact h4 k (by omega) p q
        · have z2' : ¬ t.toInt < (yC Y i 6).toInt := fun w => z2 (Int32.lt_iff_toInt_lt.mpr w)
          simp only [z2, decide_false, Bool.false_and, Bool.and_false, Bool.false_eq_true, if_false]
          cases b with
          | none =>
            intro k hk p
            by_cases w : k = i
            · subst w; exact z2'
            · exact h k (by omega) p
          | some c =>
            obtain ⟨h1, h2, h3, h4⟩ := h
            refine ⟨h1, h2, h3, fun k hk p q => ?_⟩
            by_cases w : k = i
            · subst w; exact absurd q z2'
            · exact h4 k (by omega) p q
      · simp only [z1, decide_false, Bool.false_and, Bool.false_eq_true, if_false]
        cases b with
        | none =>
          intro k hk p
          by_cases w : k = i
          · subst w; exact absurd p z1
          · exact h k (by omega) p
        | some c =>
          obtain ⟨h1, h2, h3, h4⟩ := h
          refine ⟨h1, h2, h3, fun k hk p q => ?_⟩
          by_cases w : k = i
          · subst w; exact absurd p z1
          · exact h4 k (by omega) p q
  exact key 16 0 none rfl (fun k hk => absurd hk (Nat.not_lt_zero k))
/-- the sum over the children behind t -/
def sG {α : Type} [Lean.Grind.AddCommMonoid α] (Y : Yd) (o : Nat) (t : Int32) (f : Nat → α) : α := sm (fun k => if yP Y k = some o ∧ t.toInt < (yC Y k 6).toInt then f k else 0) 16
def nG (Y : Yd) (o : Nat) (t : Int32) : Nat := sG Y o t fun _ => 1
def nL (Y : Yd) (o : Nat) (t : Int32) : Nat := sm (fun k => if yP Y k = some o ∧ (yC Y k 6).toInt ≤ t.toInt then 1 else 0) 16
/-- how many children of the same crate were put in before -/
def pl (Y : Yd) (o : Nat) (c : Nat) : Nat := sm (fun k => if yP Y k = some o ∧ (yC Y k 6).toInt < (yC Y c 6).toInt then 1 else 0) 16
section CHN
variable {Y : Yd} {o : Nat} {t : Int32}
theorem sG_n {α : Type} [Lean.Grind.AddCommMonoid α] {f : Nat → α} (h : nxP Y o t none) : sG Y o t f = 0 := sm_z fun k hk => if_neg fun w => h k hk w.1 w.2
theorem sG_s {α : Type} [Lean.Grind.AddCommMonoid α] {f : Nat → α} (hD : SbD Y) {c : Nat} (h : nxP Y o t (some c)) : sG Y o t f = f c + sG Y o (yC Y c 6) f := by
  obtain ⟨h1, h2, h3, h4⟩ := h
  have e1 : sm (fun k => if k = c then f c else 0) 16 = f c := by
    rw [sm_1 h1 fun j hj hne => if_neg hne]
    exact if_pos rfl
  rw [← e1]
  unfold sG
  rw [← sm_a]
  refine sm_c fun k hk => ?_
  by_cases z : k = c
  · subst z
    rw [if_pos ⟨h2, h3⟩, if_pos rfl, if_neg (fun w => absurd w.2 (Int.lt_irrefl _)), az]
  · rw [if_neg z, za]
    by_cases w : yP Y k = some o ∧ t.toInt < (yC Y k 6).toInt
    · have q := h4 k hk w.1 w.2
      have ne : (yC Y k 6).toInt ≠ (yC Y c 6).toInt := fun e => z (hD.2 k hk c h1 o w.1 h2 e)
      rw [if_pos w, if_pos ⟨w.1, by omega⟩]
    · rw [if_neg w, if_neg fun q => w ⟨q.1, by omega⟩]
theorem nL_s (hD : SbD Y) {c : Nat} (h : nxP Y o t (some c)) : pl Y o c = nL Y o t ∧ nL Y o (yC Y c 6) = nL Y o t + 1 := by
  obtain ⟨h1, h2, h3, h4⟩ := h
  constructor
  · refine sm_c fun k hk => ?_
    by_cases w : yP Y k = some o
    · by_cases q : (yC Y k 6).toInt ≤ t.toInt
      · rw [if_pos ⟨w, by omega⟩, if_pos ⟨w, q⟩]
      · have := h4 k hk w (by omega)
        rw [if_neg (fun x => by have := x.2; omega), if_neg (fun x => q x.2)]
    · rw [if_neg (fun x => w x.1), if_neg (fun x => w x.1)]
  · have e1 : sm (fun k => if k = c then (1 : Nat) else 0) 16 = 1 := by
      rw [sm_1 h1 fun j hj hne => if_neg hne]
      exact if_pos rfl
    rw [← e1]
    unfold nL
    rw [← sm_a]
    refine sm_c fun k hk => ?_
    by_cases z : k = c
    · subst z
      rw [if_pos ⟨h2, Int.le_refl _⟩, if_neg (fun x => by have := x.2; omega), if_pos rfl]
    · rw [if_neg z]
      by_cases w : yP Y k = some o
      · by_cases q : (yC Y k 6).toInt ≤ t.toInt
        · rw [if_pos ⟨w, by omega⟩, if_pos ⟨w, q⟩]
        · have := h4 k hk w (by omega)
          have ne : (yC Y k 6).toInt ≠ (yC Y c 6).toInt := fun e => z (hD.2 k hk c h1 o w h2 e)
          rw [if_neg (fun x => by have := x.2; omega), if_neg (fun x => q x.2)]
      · rw [if_neg (fun x => w x.1), if_neg (fun x => w x.1)]
theorem nCh_e {c : Nat} (h : yP Y c = some o) : nCh Y c = caF Y o (yC Y c 6) 16 0 none := by
  unfold nCh; rw [h]
theorem chE_of (hD : SbD Y) : ∀ (f : Nat) (t : Int32), nG Y o t < f → chE Y f (caF Y o t 16 0 none) := by
  intro f
  induction f with
  | zero => intro t h; exact absurd h (Nat.not_lt_zero _)
  | succ f ih =>
    intro t h
    have hx := caF_nx Y o t
    cases e : caF Y o t 16 0 none with
    | none => trivial
    | some c =>
      rw [e] at hx
      show chE Y f (nCh Y c)
      rw [nCh_e hx.2.1]
      refine ih _ ?_
      have := sG_s (f := fun _ => (1 : Nat)) hD hx
      unfold nG at h ⊢
      omega
theorem sm_le {f : Nat → Nat} {b n : Nat} (h : ∀ i, i < n → f i ≤ b) : sm f n ≤ n * b := by
  induction n with
  | zero => exact Nat.zero_le _
  | succ n ih =>
    have := ih fun i hi => h i (by omega)
    have := h n (by omega)
    rw [sm, Nat.succ_mul]
    omega
theorem nG_le (Y : Yd) (o : Nat) (t : Int32) : nG Y o t ≤ 16 := sm_le (b := 1) fun i _ => by split; exact Nat.le_refl _; exact Nat.zero_le _
theorem chE_all (hD : SbD Y) : ChE Y := fun i _ => chE_of hD 17 0 (Nat.lt_succ_of_le (nG_le Y i 0))
theorem gcL_e (hD : SbD Y) (g : Nat → Int32) : ∀ (f : Nat) (t a : Int32), nG Y o t < f → gcL Y g f (caF Y o t 16 0 none) a = a + sG Y o t g := by
  intro f
  induction f with
  | zero => intro t a h; exact absurd h (Nat.not_lt_zero _)
  | succ f ih =>
    intro t a h
    have hx := caF_nx Y o t
    cases e : caF Y o t 16 0 none with
    | none => rw [e] at hx; rw [sG_n hx, gcL]; exact (az a).symm
    | some c =>
      rw [e] at hx
      rw [gcL]
      show gcL Y g f (nCh Y c) (a + g c) = _
      have := sG_s (f := fun _ => (1 : Nat)) hD hx
      rw [nCh_e hx.2.1, ih _ _ (by unfold nG at h ⊢; omega), sG_s hD hx, aa]
theorem ccF_e (hD : SbD Y) : ∀ (f : Nat) (t : Int32) (a : Nat), nG Y o t < f → ccF Y f (caF Y o t 16 0 none) a = a + nG Y o t := by
  intro f
  induction f with
  | zero => intro t a h; exact absurd h (Nat.not_lt_zero _)
  | succ f ih =>
    intro t a h
    have hx := caF_nx Y o t
    cases e : caF Y o t 16 0 none with
    | none => rw [e] at hx; unfold nG; rw [sG_n hx, ccF]; rfl
    | some c =>
      rw [e] at hx
      rw [ccF]
      show ccF Y f (nCh Y c) (a + 1) = _
      have := sG_s (f := fun _ => (1 : Nat)) hD hx
      rw [nCh_e hx.2.1, ih _ _ (by unfold nG at h ⊢; omega)]
      unfold nG
      omega
theorem coF_y (hD : SbD Y) (z : Int32) : ∀ (f : Nat) (t : Int32), nG Y o t < f → ∀ c, c < 16 → yP Y c = some o → t.toInt < (yC Y c 6).toInt → nI (pl Y o c) = z → (∀ k, k < 16 → yP Y k = some o → t.toInt < (yC Y k 6).toInt → nI (pl Y o k) = z → k = c) → coF Y f (caF Y o t 16 0 none) (nL Y o t) z = nI c := by
  intro f
  induction f with
  | zero => intro t h; exact absurd h (Nat.not_lt_zero _)
  | succ f ih =>
    intro t h c hc p q r u
    have hx := caF_nx Y o t
    cases e : caF Y o t 16 0 none with
    | none => rw [e] at hx; exact absurd q (hx c hc p)
    | some c1 =>
      rw [e] at hx
      rw [coF]
      show (if nI (nL Y o t) = z then nI c1 else coF Y f (nCh Y c1) (nL Y o t + 1) z) = nI c
      have e2 := nL_s hD hx
      by_cases w : nI (nL Y o t) = z
      · rw [if_pos w, u c1 hx.1 hx.2.1 hx.2.2.1 (by rw [e2.1]; exact w)]
      · have := sG_s (f := fun _ => (1 : Nat)) hD hx
        rw [if_neg w, nCh_e hx.2.1, ← e2.2]
        have ne : c ≠ c1 := fun x => w (by rw [← e2.1, ← x]; exact r)
        have le := hx.2.2.2 c hc p q
        have ne2 : (yC Y c 6).toInt ≠ (yC Y c1 6).toInt := fun x => ne (hD.2 c hc c1 hx.1 o p hx.2.1 x)
        exact ih _ (by unfold nG at h ⊢; omega) c hc p (by omega) r fun k hk p' q' r' => u k hk p' (by have := hx.2.2.1; omega) r'
theorem coF_n (hD : SbD Y) (z : Int32) : ∀ (f : Nat) (t : Int32), nG Y o t < f → (∀ k, k < 16 → yP Y k = some o → t.toInt < (yC Y k 6).toInt → nI (pl Y o k) ≠ z) → coF Y f (caF Y o t 16 0 none) (nL Y o t) z = -1 := by
  intro f
  induction f with
  | zero => intro t h; exact absurd h (Nat.not_lt_zero _)
  | succ f ih =>
    intro t h u
    have hx := caF_nx Y o t
    cases e : caF Y o t 16 0 none with
    | none => rfl
    | some c1 =>
      rw [e] at hx
      rw [coF]
      show (if nI (nL Y o t) = z then nI c1 else coF Y f (nCh Y c1) (nL Y o t + 1) z) = -1
      have e2 := nL_s hD hx
      have := sG_s (f := fun _ => (1 : Nat)) hD hx
      rw [if_neg fun w => u c1 hx.1 hx.2.1 hx.2.2.1 (by rw [e2.1]; exact w), nCh_e hx.2.1, ← e2.2]
      exact ih _ (by unfold nG at h ⊢; omega) fun k hk p' q' => u k hk p' (by have := hx.2.2.1; omega)
theorem sm_lt {f g : Nat → Nat} {n c : Nat} (h : ∀ i, i < n → f i ≤ g i) (hc : c < n) (hlt : f c < g c) : sm f n < sm g n := by
  induction n with
  | zero => exact absurd hc (Nat.not_lt_zero _)
  | succ n ih =>
    rw [sm, sm]
    have h1 := h n (by omega)
    by_cases z : c = n
    · subst z
      have : sm f c ≤ sm g c := by
        clear ih hlt h1
        have hh : ∀ m, m ≤ c → sm f m ≤ sm g m := by
          intro m
          induction m with
          | zero => intro _; exact Nat.le_refl _
          | succ m ihm => intro hm; rw [sm, sm]; have := ihm (by omega); have := h m (by omega); omega
        exact hh c (Nat.le_refl _)
      omega
    · have := ih (fun i hi => h i (by omega)) (by omega)
      omega
theorem pl_in (hD : SbD Y) {c k : Nat} (hc : c < 16) (hk : k < 16) (p : yP Y c = some o) (q : yP Y k = some o) (h : pl Y o c = pl Y o k) : c = k := by
  have aux : ∀ c k, c < 16 → yP Y c = some o → (yC Y c 6).toInt < (yC Y k 6).toInt → pl Y o c < pl Y o k := by
    intro c k hc p hlt
    refine sm_lt (c := c) (fun i _ => ?_) hc ?_
    · by_cases w : yP Y i = some o ∧ (yC Y i 6).toInt < (yC Y c 6).toInt
      · rw [if_pos w, if_pos ⟨w.1, by have := w.2; omega⟩]; exact Nat.le_refl _
      · rw [if_neg w]; exact Nat.zero_le _
    · rw [if_neg (fun w => absurd w.2 (Int.lt_irrefl _)), if_pos ⟨p, hlt⟩]; exact Nat.zero_lt_one
  rcases Int.lt_trichotomy (yC Y c 6).toInt (yC Y k 6).toInt with z | z | z
  · have := aux c k hc p z; omega
  · exact hD.2 c hc k hk o p q z
  · have := aux k c hk q z; omega
theorem nL_0 (hD : SbD Y) : nL Y o 0 = 0 := sm_z fun k hk => if_neg fun w => by
  have := hD.1 k hk o w.1
  have e : (0 : Int32).toInt = 0 := by decide
  have := w.2
  omega
theorem nG_0 (hD : SbD Y) : nG Y o 0 = sm (fun k => if yP Y k = some o then 1 else 0) 16 := sm_c fun k hk => by
  by_cases w : yP Y k = some o
  · rw [if_pos w, if_pos ⟨w, hD.1 k hk o w⟩]
  · rw [if_neg w, if_neg (fun x => w x.1)]
theorem nGL (hD : SbD Y) (t : Int32) : nL Y o t + nG Y o t = nG Y o 0 := by
  rw [nG_0 hD]
  unfold nL nG sG
  rw [← sm_a]
  refine sm_c fun k hk => ?_
  by_cases w : yP Y k = some o
  · rw [if_pos w]
    by_cases q : (yC Y k 6).toInt ≤ t.toInt
    · rw [if_pos ⟨w, q⟩, if_neg (fun x => by have := x.2; omega)]; exact az _
    · rw [if_neg (fun x => q x.2), if_pos ⟨w, by omega⟩]; exact za _
  · rw [if_neg (fun x => w x.1), if_neg (fun x => w x.1), if_neg w]; exact az _
end CHN
