/-! the model's sums -/
/-- crates and buyers not in use are blank -/
def BZ (Y : Yd) (m b : Nat) : Prop := (∀ i, i < 16 → m ≤ i → yC Y i 8 = 0) ∧ ∀ j, j < 6 → b ≤ j → yB Y j 2 = 0 ∧ yB Y j 4 = 0
theorem stF_z {Y : Yd} : ∀ (n i : Nat) (a : Int32), (∀ j, i ≤ j → j < i + n → yC Y j 8 = 0) → stF Y n i a = a := by
  intro n
  induction n with
  | zero => intro i a _; rfl
  | succ n ih =>
    intro i a h
    rw [stF, h i (Nat.le_refl _) (by omega), Int32.add_zero]
    exact ih (i + 1) a fun j h1 h2 => h j (by omega) (by omega)
theorem moF_z {Y : Yd} : ∀ (n i : Nat) (a : Int32), (∀ j, i ≤ j → j < i + n → yB Y j 2 = 0) → moF Y n i a = a := by
  intro n
  induction n with
  | zero => intro i a _; rfl
  | succ n ih =>
    intro i a h
    rw [moF, h i (Nat.le_refl _) (by omega), Int32.add_zero]
    exact ih (i + 1) a fun j h1 h2 => h j (by omega) (by omega)
theorem trF_z {Y : Yd} : ∀ (n i : Nat) (a : Int32), (∀ j, i ≤ j → j < i + n → yB Y j 4 = 0) → trF Y n i a = a := by
  intro n
  induction n with
  | zero => intro i a _; rfl
  | succ n ih =>
    intro i a h
    rw [trF, h i (Nat.le_refl _) (by omega), Int32.add_zero]
    exact ih (i + 1) a fun j h1 h2 => h j (by omega) (by omega)
theorem no_self {Y : Yd} {m n j : Nat} {w : Nat → Int32} (hT : TW Y m w) (hA : Acy Y) (hj : j < 16) (q : inO n (yP Y) (yP Y j) j = true) : False := by
  obtain ⟨a, _, e⟩ := (inO_i n _).mp q
  have h1 : itO (yP Y) (a + 1) (some j) = some j := e
  have hm := hT.le
  have := it_un (P := yP Y) (N := 16) (fun i hi k e => by have := (hT.2.2.2 i k hi e).2; omega) (fun i hi => it_6 hA hi) hj h1 (show itO (yP Y) 0 (some j) = some j from rfl)
  omega
theorem sA_sW {M : Mem} {w g : Nat → Int32} {v : Nat} (hv : ¬ v = 0) : sA (sW M w) v g = sW (sA M v g) w := by
  refine Prod.ext ?_ rfl
  funext k i
  show (if k = 14 ∧ i = v then g else if k = 14 ∧ i = 0 then w else M.1 k i) = (if k = 14 ∧ i = 0 then w else if k = 14 ∧ i = v then g else M.1 k i)
  by_cases z : k = 14 ∧ i = v
  · rw [if_pos z, if_neg (fun q => hv (z.2.symm.trans q.2)), if_pos z]
  · rw [if_neg z, if_neg z]