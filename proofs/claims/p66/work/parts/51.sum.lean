/-! sums over the first n numbers -/
def sm {α : Type} [Lean.Grind.AddCommMonoid α] (f : Nat → α) : Nat → α
  | 0 => 0
  | n + 1 => sm f n + f n
section SM
theorem az {α : Type} [Lean.Grind.AddCommMonoid α] (a : α) : a + 0 = a := Lean.Grind.AddCommMonoid.add_zero a
theorem ac {α : Type} [Lean.Grind.AddCommMonoid α] (a b : α) : a + b = b + a := Lean.Grind.AddCommMonoid.add_comm a b
theorem aa {α : Type} [Lean.Grind.AddCommMonoid α] (a b c : α) : a + b + c = a + (b + c) := Lean.Grind.AddCommMonoid.add_assoc a b c
theorem za {α : Type} [Lean.Grind.AddCommMonoid α] (a : α) : 0 + a = a := by rw [ac, az]
theorem a4 {α : Type} [Lean.Grind.AddCommMonoid α] (a b c d : α) : (a + b) + (c + d) = (a + c) + (b + d) := by rw [aa, aa, ← aa b, ac b c, aa c]
theorem sm_c {α : Type} [Lean.Grind.AddCommMonoid α] {f g : Nat → α} {n : Nat} (h : ∀ i, i < n → f i = g i) : sm f n = sm g n := by
  induction n with
  | zero => rfl
  | succ n ih => rw [sm, sm, ih (fun i hi => h i (Nat.lt_succ_of_lt hi)), h n (Nat.lt_succ_self n)]
theorem sm_z {α : Type} [Lean.Grind.AddCommMonoid α] {f : Nat → α} {n : Nat} (h : ∀ i, i < n → f i = 0) : sm f n = 0 := by
  induction n with
  | zero => rfl
  | succ n ih => rw [sm, ih (fun i hi => h i (Nat.lt_succ_of_lt hi)), h n (Nat.lt_succ_self n), az]
theorem sm_a {α : Type} [Lean.Grind.AddCommMonoid α] (f g : Nat → α) (n : Nat) : sm (fun i => f i + g i) n = sm f n + sm g n := by
  induction n with
  | zero => exact (az 0).symm
  | succ n ih => rw [sm, sm, sm, ih, a4]
theorem sm_w {α : Type} [Lean.Grind.AddCommMonoid α] (f : Nat → Nat → α) (n m : Nat) : sm (fun i => sm (f i) m) n = sm (fun j => sm (fun i => f i j) n) m := by
  induction n with
  | zero => exact (sm_z fun i _ => rfl).symm
  | succ n ih => rw [sm, ih, ← sm_a]; rfl
theorem sm_1 {α : Type} [Lean.Grind.AddCommMonoid α] {f : Nat → α} {n i : Nat} (hi : i < n) (h : ∀ j, j < n → j ≠ i → f j = 0) : sm f n = f i := by
  induction n with
  | zero => exact absurd hi (Nat.not_lt_zero _)
  | succ n ih =>
    rw [sm]
    by_cases z : i = n
    · subst z
      rw [sm_z fun j hj => h j (Nat.lt_succ_of_lt hj) (Nat.ne_of_lt hj), za]
    · rw [ih (by omega) fun j hj => h j (Nat.lt_succ_of_lt hj), h n (Nat.lt_succ_self n) (fun w => z w.symm), az]
theorem sm_f {α : Type} [Lean.Grind.AddCommMonoid α] (f : Nat → α) (n : Nat) : sm f (n + 1) = f 0 + sm (fun i => f (i + 1)) n := by
  induction n with
  | zero => rw [sm, sm, sm, za, az]
  | succ n ih => rw [sm, ih, sm, aa]
theorem sm_i {α : Type} [Lean.Grind.AddCommMonoid α] (c : Prop) [Decidable c] (f : Nat → α) (n : Nat) : (if c then sm f n else 0) = sm (fun i => if c then f i else 0) n := by
  by_cases h : c
  · rw [if_pos h]; exact sm_c fun i _ => (if_pos h).symm
  · rw [if_neg h]; exact (sm_z fun i _ => if_neg h).symm
theorem if_a {α : Type} [Lean.Grind.AddCommMonoid α] (c : Prop) [Decidable c] (a b : α) : (if c then a + b else 0) = (if c then a else 0) + (if c then b else 0) := by
  by_cases h : c
  · rw [if_pos h, if_pos h, if_pos h]
  · rw [if_neg h, if_neg h, if_neg h, az]
end SM
/-- up n times -/
def itO (P : Nat → Option Nat) : Nat → Option Nat → Option Nat
  | 0, o => o
  | n + 1, o => match o with
    | none => none
    | some j => itO P n (P j)
theorem it_n (P : Nat → Option Nat) (n : Nat) : itO P n none = none := by cases n <;> rfl
theorem it_a (P : Nat → Option Nat) (a b : Nat) (o : Option Nat) : itO P (a + b) o = itO P b (itO P a o) := by
  induction a generalizing o with
  | zero => rw [Nat.zero_add]; rfl
  | succ a ih =>
    rw [Nat.succ_add]
    cases o with
    | none => rw [it_n, it_n, it_n]
    | some j => exact ih (P j)
theorem it_le {P : Nat → Option Nat} {a b : Nat} {o : Option Nat} (h : itO P a o = none) (hab : a ≤ b) : itO P b o = none := by
  obtain ⟨c, rfl⟩ := Nat.exists_eq_add_of_le hab
  rw [it_a, h, it_n]
theorem it_lt {P : Nat → Option Nat} {N : Nat} (hP : ∀ i, i < N → ∀ j, P i = some j → j < N) : ∀ (n k t : Nat), k < N → itO P n (some k) = some t → t < N := by
  intro n
  induction n with
  | zero => intro k t hk h; cases h; exact hk
  | succ n ih =>
    intro k t hk h
    cases e : P k with
    | none => rw [itO, e, it_n] at h; cases h
    | some j => rw [itO, e] at h; exact ih j t (hP k hk j e) h
theorem it_m {P : Nat → Option Nat} {t d : Nat} (h : itO P d (some t) = some t) : ∀ n, itO P (d * n) (some t) = some t := by
  intro n
  induction n with
  | zero => rfl
  | succ n ih => rw [Nat.mul_succ, it_a, ih, h]
/-- no crate is inside itself -/
theorem it_un {P : Nat → Option Nat} {N : Nat} (hP : ∀ i, i < N → ∀ j, P i = some j → j < N) (hA : ∀ i, i < N → itO P 6 (some i) = none) {k t a b : Nat} (hk : k < N) (h1 : itO P a (some k) = some t) (h2 : itO P b (some k) = some t) : a = b := by
  have aux : ∀ a b : Nat, a < b → itO P a (some k) = some t → itO P b (some k) = some t → False := by
    intro a b hab h1 h2
    obtain ⟨c, rfl⟩ := Nat.exists_eq_add_of_lt hab
    rw [Nat.add_assoc, it_a, h1] at h2
    have h3 := it_m h2 6
    have h4 := it_le (b := (c + 1) * 6) (hA t (it_lt hP a k t hk h1)) (by omega)
    rw [h4] at h3
    cases h3
  rcases Nat.lt_trichotomy a b with z | z | z
  · exact (aux a b z h1 h2).elim
  · exact z
  · exact (aux b a z h2 h1).elim
section TR
variable {P : Nat → Option Nat} {N : Nat}
/-- is k the crate t, or inside it -/
theorem inO_i {P : Nat → Option Nat} {t : Nat} : ∀ (n : Nat) (o : Option Nat), inO n P o t = true ↔ ∃ m, m < n ∧ itO P m o = some t := by
  intro n
  induction n with
  | zero => intro o; exact ⟨fun h => (by cases h), fun ⟨m, h, _⟩ => absurd h (Nat.not_lt_zero m)⟩
  | succ n ih =>
    intro o
    cases o with
    | none => exact ⟨fun h => (by cases h), fun ⟨m, _, h⟩ => by rw [it_n] at h; cases h⟩
    | some j =>
      rw [inO]
      show (if j = t then true else inO n P (P j) t) = true ↔ _
      by_cases z : j = t
      · rw [if_pos z]
        exact ⟨fun _ => ⟨0, Nat.succ_pos n, by rw [z]; rfl⟩, fun _ => rfl⟩
      · rw [if_neg z, ih]
        refine ⟨fun ⟨m, h1, h2⟩ => ⟨m + 1, Nat.succ_lt_succ h1, h2⟩, fun ⟨m, h1, h2⟩ => ?_⟩
        cases m with
        | zero => exact absurd (by cases h2; rfl) z
        | succ m => exact ⟨m, Nat.lt_of_succ_lt_succ h1, h2⟩
theorem acy_i {P : Nat → Option Nat} : ∀ (n : Nat) (o : Option Nat), acyO n P o ↔ itO P n o = none := by
  intro n
  induction n with
  | zero => intro o; exact Iff.rfl
  | succ n ih =>
    intro o
    cases o with
    | none => exact ⟨fun _ => rfl, fun _ => trivial⟩
    | some j => exact ih (P j)
theorem sm_in {α : Type} [Lean.Grind.AddCommMonoid α] (hP : ∀ i, i < N → ∀ j, P i = some j → j < N) (hA : ∀ i, i < N → itO P 6 (some i) = none) {k t : Nat} (hk : k < N) (x : α) : sm (fun n => if itO P n (some k) = some t then x else 0) 6 = if inO 6 P (some k) t = true then x else 0 := by
  by_cases z : inO 6 P (some k) t = true
  · obtain ⟨n, hn, h⟩ := (inO_i 6 _).mp z
    rw [sm_1 hn fun j hj hne => if_neg fun w => hne (it_un hP hA hk w h), if_pos h, if_pos z]
  · rw [if_neg z]
    exact sm_z fun j hj => if_neg fun w => z ((inO_i 6 _).mpr ⟨j, hj, w⟩)
/-- the sum of what is one step up -/
theorem sm_up {α : Type} [Lean.Grind.AddCommMonoid α] (hP : ∀ i, i < N → ∀ j, P i = some j → j < N) {c : Nat} (hc : c < N) (n i : Nat) (x : α) : sm (fun k => if itO P n (some k) = some i then (if P c = some k then x else 0) else 0) N = if itO P (n + 1) (some c) = some i then x else 0 := by
  rw [itO]
  cases e : P c with
  | none =>
    rw [it_n]
    exact (sm_z fun k _ => by split <;> rfl).trans (if_neg (by intro w; cases w)).symm
  | some k0 =>
    rw [sm_1 (hP c hc k0 e) fun j hj hne => by
      rw [if_neg (c := some k0 = some j) fun w => hne (by cases w; rfl)]
      split <;> rfl, if_pos rfl]
theorem sm_un {α : Type} [Lean.Grind.AddCommMonoid α] (hP : ∀ i, i < N → ∀ j, P i = some j → j < N) (hA : ∀ i, i < N → itO P 6 (some i) = none) {g own : Nat → α} (h : ∀ i, i < N → g i = own i + sm (fun c => if P c = some i then g c else 0) N) {i : Nat} (hi : i < N) : g i = sm (fun k => if inO 6 P (some k) i = true then own k else 0) N := by
  have step : ∀ n, sm (fun k => if itO P n (some k) = some i then g k else 0) N = sm (fun k => if itO P n (some k) = some i then own k else 0) N + sm (fun k => if itO P (n + 1) (some k) = some i then g k else 0) N := by
    intro n
    rw [sm_c (g := fun k => (if itO P n (some k) = some i then own k else 0) + sm (fun c => if itO P n (some k) = some i then (if P c = some k then g c else 0) else 0) N) fun k hk => by rw [h k hk, if_a, sm_i], sm_a, sm_w]
    congr 1
    exact sm_c fun c hc => sm_up hP hc n i (g c)
  have all : ∀ n, sm (fun k => if itO P 0 (some k) = some i then g k else 0) N = sm (fun n => sm (fun k => if itO P n (some k) = some i then own k else 0) N) n + sm (fun k => if itO P n (some k) = some i then g k else 0) N := by
    intro n
    induction n with
    | zero => rw [sm, za]
    | succ n ih => rw [ih, step n, sm, aa]
  have e0 : sm (fun k => if itO P 0 (some k) = some i then g k else 0) N = g i := by
    rw [sm_1 hi fun j hj hne => if_neg fun w => hne (by cases w; rfl)]
    exact if_pos rfl
  rw [← e0, all 6, sm_z (f := fun k => if itO P 6 (some k) = some i then g k else 0) (fun k hk => by rw [hA k hk]; exact if_neg (by intro w; cases w)), az, sm_w]
  exact sm_c fun k hk => sm_in hP hA hk (own k)
/-- a weight added from crate i on upwards -/
theorem sm_ch {α : Type} [Lean.Grind.AddCommMonoid α] (hP : ∀ i, i < N → ∀ j, P i = some j → j < N) (hA : ∀ i, i < N → itO P 6 (some i) = none) {i j : Nat} (hi : i < N) (x : α) : (if inO 6 P (some i) j = true then x else 0) = (if i = j then x else 0) + sm (fun c => if P c = some j then (if inO 6 P (some i) c = true then x else 0) else 0) N := by
  have e1 : sm (fun c => if P c = some j then (if inO 6 P (some i) c = true then x else 0) else 0) N = sm (fun n => if itO P (n + 1) (some i) = some j then x else 0) 6 := by
    rw [sm_c (g := fun c => sm (fun n => if P c = some j then (if itO P n (some i) = some c then x else 0) else 0) 6) fun c hc => by rw [← sm_in hP hA hi x, sm_i], sm_w]
    refine sm_c fun n _ => ?_
    rw [it_a]
    cases e : itO P n (some i) with
    | none =>
      rw [it_n, if_neg (by intro w; cases w)]
      exact sm_z fun k _ => by rw [if_neg (c := none = some k) (by intro w; cases w)]; split <;> rfl
    | some k0 =>
      rw [sm_1 (it_lt hP n i k0 hi e) fun j hj hne => by
        rw [if_neg (c := some k0 = some j) fun w => hne (by cases w; rfl)]
        split <;> rfl, if_pos rfl]
      rfl
  rw [e1, ← sm_in hP hA hi x]
  have e2 := sm_f (fun n => if itO P n (some i) = some j then x else 0) 6
  rw [sm, if_neg (c := itO P 6 (some i) = some j) (by rw [hA i hi]; intro w; cases w), az] at e2
  rw [e2]
  congr 1
  by_cases z : i = j
  · rw [if_pos z, z]; exact if_pos rfl
  · rw [if_neg z]; exact if_neg fun w => z (by cases w; rfl)
theorem sm_cg {α : Type} [Lean.Grind.AddCommMonoid α] (hP : ∀ i, i < N → ∀ j, P i = some j → j < N) (hA : ∀ i, i < N → itO P 6 (some i) = none) {g own : Nat → α} (h : ∀ j, j < N → g j = own j + sm (fun c => if P c = some j then g c else 0) N) {i : Nat} (hi : i < N) (x : α) : ∀ j, j < N → (g j + if inO 6 P (some i) j = true then x else 0) = (own j + if i = j then x else 0) + sm (fun c => if P c = some j then (g c + if inO 6 P (some i) c = true then x else 0) else 0) N := by
  intro j hj
  rw [sm_c (g := fun c => (if P c = some j then g c else 0) + (if P c = some j then (if inO 6 P (some i) c = true then x else 0) else 0)) fun c _ => if_a _ _ _, sm_a, a4, ← sm_ch hP hA hi, ← h j hj]
end TR
