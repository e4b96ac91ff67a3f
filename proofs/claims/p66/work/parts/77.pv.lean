/-! what holds of every yard: ranges, sums, stamps -/
def PA (Y : Yd) (m b : Nat) : Prop := (∀ i, i < 16 → yC Y i 7 = 0 ∨ yC Y i 7 = 1) ∧ Acy Y ∧ CrB Y m b
def PS (Y : Yd) (T : Nat) : Prop := ∃ t, t ≤ T ∧ yF Y 8 = nI t ∧ (∀ i, i < 16 → ∃ s, s ≤ t ∧ yC Y i 6 = nI s ∧ (yP Y i = none ∨ 1 ≤ s)) ∧ ∀ i, i < 16 → ∀ j, j < 16 → yP Y i = none ∨ yP Y j = none ∨ (yC Y i 6 = yC Y j 6 → i = j)
def PD (Y : Yd) : Prop := ∀ i, i < 16 → ∃ ta go, yC Y i 2 = nI ta ∧ ta ≤ 50 ∧ yC Y i 3 = nI go ∧ go ≤ 500
def PE (Y : Yd) (T i : Nat) : Prop := ∃ r s : Nat, yC Y i 8 = nI r ∧ r ≤ T ∧ (yL Y i 10).toInt = s ∧ 2 * s ≤ T * T ∧ -50 ≤ (yC Y i 12).toInt ∧ (yC Y i 12).toInt ≤ 50 ∧ (yL Y i 9).toInt = r * (yC Y i 4).toInt + s + (if r % 2 = 0 then 0 else (yC Y i 12).toInt)
def PF (Y : Yd) (T : Nat) : Prop := (∃ g, yS Y 0 = nI g ∧ g < 65537) ∧ (∃ a, yS Y 1 = nI a ∧ a ≤ 50) ∧ (∃ q, yS Y 2 = nI q ∧ 1 ≤ q ∧ q ≤ 100) ∧ ∃ e, yS Y 3 = nI e ∧ e ≤ T
def PV (Y : Yd) (m b T : Nat) : Prop := PA Y m b ∧ LG Y ∧ PS Y T ∧ PD Y ∧ (∀ i, i < 16 → PE Y T i) ∧ PF Y T ∧ BZ Y m b ∧ ∃ k, yF Y 6 = nI k ∧ 1 ≤ k ∧ k ≤ 9
section PVS
variable {Y Z : Yd} {m b T T' : Nat}
theorem PV.a (h : PV Y m b T) : PA Y m b := h.1
theorem PV.l (h : PV Y m b T) : LG Y := h.2.1
theorem PV.s (h : PV Y m b T) : PS Y T := h.2.2.1
theorem PV.d (h : PV Y m b T) : PD Y := h.2.2.2.1
theorem PV.e (h : PV Y m b T) {i : Nat} (hi : i < 16) : PE Y T i := h.2.2.2.2.1 i hi
theorem PV.f (h : PV Y m b T) : PF Y T := h.2.2.2.2.2.1
theorem PV.z (h : PV Y m b T) : BZ Y m b := h.2.2.2.2.2.2.1
theorem PV.q (h : PV Y m b T) : ∃ k, yF Y 6 = nI k ∧ 1 ≤ k ∧ k ≤ 9 := h.2.2.2.2.2.2.2
theorem PV.acy (h : PV Y m b T) : Acy Y := h.a.2.1
theorem PV.c (h : PV Y m b T) : CrB Y m b := h.a.2.2
theorem PV.m16 (h : PV Y m b T) : m ≤ 16 := h.c.1
theorem PV.b6 (h : PV Y m b T) : b ≤ 6 := h.c.2.1
theorem PV.f4 (h : PV Y m b T) : yF Y 4 = nI m := h.c.2.2.1
theorem PV.f5 (h : PV Y m b T) : yF Y 5 = nI b := h.c.2.2.2.1
theorem PV.p (h : PV Y m b T) {i j : Nat} (hi : i < 16) (e : yP Y i = some j) : i < m ∧ j < m := h.c.2.2.2.2.2.2 i j hi e
theorem PV.p16 (h : PV Y m b T) : ∀ i, i < 16 → ∀ j, yP Y i = some j → j < 16 := fun i hi j e => by
  have := (h.p hi e).2
  have := h.m16
  omega
theorem PV.i6 (h : PV Y m b T) : ∀ i, i < 16 → itO (yP Y) 6 (some i) = none := fun i hi => it_6 h.acy hi
theorem PV.kg (h : PV Y m b T) : KG Y := ⟨h.a.1, h.a.2.1, m, b, h.c⟩
theorem PS.mono (h : PS Y T) (hT : T ≤ T') : PS Y T' := by
  obtain ⟨t, h1, h2⟩ := h
  exact ⟨t, by omega, h2⟩
theorem PE.mono {i : Nat} (h : PE Y T i) (hT : T ≤ T') : PE Y T' i := by
  obtain ⟨r, s, h1, h2, h3, h4, h5⟩ := h
  have := Nat.mul_le_mul hT hT
  exact ⟨r, s, h1, by omega, h3, by omega, h5⟩
theorem PF.mono (h : PF Y T) (hT : T ≤ T') : PF Y T' := by
  obtain ⟨h1, h2, h3, e, h4, h5⟩ := h
  exact ⟨h1, h2, h3, e, h4, by omega⟩
theorem PV.mono (h : PV Y m b T) (hT : T ≤ T') : PV Y m b T' := ⟨h.a, h.l, h.s.mono hT, h.d, fun i hi => (h.e hi).mono hT, h.f.mono hT, h.z, h.q⟩
/-- sums of small numbers -/
theorem sm_nI {f : Nat → Int32} {B : Nat} : ∀ n, (∀ i, i < n → ∃ k, f i = nI k ∧ k ≤ B) → ∃ k, sm f n = nI k ∧ k ≤ n * B := by
  intro n
  induction n with
  | zero => intro _; exact ⟨0, rfl, by omega⟩
  | succ n ih =>
    intro h
    obtain ⟨k, h1, h2⟩ := ih fun i hi => h i (by omega)
    obtain ⟨l, h3, h4⟩ := h n (by omega)
    refine ⟨k + l, by rw [sm, h1, h3, nI_add9], ?_⟩
    rw [Nat.succ_mul]
    omega
theorem PV.own (h : PV Y m b T) {i : Nat} (hi : i < 16) : ∃ k, yC Y i 2 + yC Y i 3 = nI k ∧ k ≤ 550 := by
  obtain ⟨ta, go, h1, h2, h3, h4⟩ := h.d i hi
  exact ⟨ta + go, by rw [h1, h3, nI_add9], by omega⟩
theorem PV.un (h : PV Y m b T) {i : Nat} (hi : i < 16) : yC Y i 4 = sm (fun k => if inO 6 (yP Y) (some k) i = true then yC Y k 2 + yC Y k 3 else 0) 16 :=
  sm_un (P := yP Y) (N := 16) h.p16 h.i6 (g := fun i => yC Y i 4) (own := fun k => yC Y k 2 + yC Y k 3) (fun i hi => h.l i hi) hi
/-- gross weights are small -/
theorem PV.gr (h : PV Y m b T) {i : Nat} (hi : i < 16) : ∃ g, yC Y i 4 = nI g ∧ g ≤ 8800 := by
  rw [h.un hi]
  refine sm_nI (B := 550) 16 fun k hk => ?_
  split
  · exact h.own hk
  · exact ⟨0, rfl, by omega⟩
theorem PV.gro (h : PV Y m b T) : GrO Y := fun i hi => by
  obtain ⟨g, h1, h2⟩ := h.gr hi
  rw [h1, nI_clamp (by omega)]
  exact ⟨rfl, by omega⟩
theorem PV.sb (h : PV Y m b T) (hT : T < 2 ^ 31) : SbD Y := by
  obtain ⟨t, h1, h2, h3, h4⟩ := h.s
  refine ⟨fun i hi o e => ?_, fun i hi j hj o e f g => ?_⟩
  · obtain ⟨s, h5, h6, h7⟩ := h3 i hi
    rw [h6, nI_toInt (by omega)]
    rcases h7 with z | z
    · rw [e] at z; cases z
    · omega
  · rcases h4 i hi j hj with z | z | z
    · rw [e] at z; cases z
    · rw [f] at z; cases z
    · exact z (Int32.toInt_inj.mp g)
theorem par_rem {r : Nat} (hr : r < 2 ^ 31) : (rem (nI r) 2 = 0) ↔ r % 2 = 0 := by
  rw [rem2 hr]
  constructor
  · intro z
    exact (nI_inj (by omega) (by omega)).mp z
  · intro z; rw [z]; rfl
/-- a stored sum in bounds -/
theorem PV.bd (h : PV Y m b T) (hT : T ≤ 57100) {i : Nat} (hi : i < 16) : -50 ≤ (yL Y i 9).toInt ∧ (yL Y i 9).toInt ≤ 2132685050 := by
  obtain ⟨r, s, h1, h2, h3, h4, h5, h6, h7⟩ := h.e hi
  obtain ⟨g, g1, g2⟩ := h.gr hi
  have e1 := Nat.mul_le_mul hT hT
  have e2 := Nat.mul_le_mul (Nat.le_trans h2 hT) g2
  rw [g1, nI_toInt (by omega)] at h7
  have e3 : ((r : Int) * (g : Int)) = ((r * g : Nat) : Int) := (Int.natCast_mul r g).symm
  rw [e3] at h7
  rw [h7]
  split <;> omega
theorem PV.mo (h : PV Y m b T) (hT : T ≤ 57100) {i : Nat} (hi : i < 16) : MO9 Y i := by
  have e := h.bd hT hi
  unfold MO9
  rw [← Int64.toInt_inj, Int32.toInt_toInt64, Int64.toInt_toInt32]
  exact Int.bmod_eq_of_le (by omega) (by omega)
theorem PV.sq (h : PV Y m b T) (hT : T ≤ 57100) {i : Nat} (hi : i < 16) : SQ Y i := by
  obtain ⟨r, s, h1, h2, h3, h4, h5, h6, h7⟩ := h.e hi
  obtain ⟨g, g1, g2⟩ := h.gr hi
  refine ⟨⟨r, h1, by omega⟩, ?_⟩
  have e1 := Nat.mul_le_mul hT hT
  have e2 := Nat.mul_le_mul (Nat.le_trans h2 hT) g2
  have e3 : ((r : Int) * (g : Int)) = ((r * g : Nat) : Int) := (Int.natCast_mul r g).symm
  rw [g1, nI_toInt (by omega), e3] at h7
  rw [← Int64.toInt_inj, h7, h1, g1]
  simp only [par_rem (show r < 2 ^ 31 by omega)]
  rw [Int64.toInt_add, Int64.toInt_add, Int64.toInt_mul, Int32.toInt_toInt64, Int32.toInt_toInt64, nI_toInt (by omega), nI_toInt (by omega), h3, e3]
  rw [Int.bmod_eq_of_le (n := (r * g : Nat)) (by omega) (by omega), Int.bmod_eq_of_le (n := ((r * g : Nat) : Int) + s) (by omega) (by omega)]
  split
  · rw [show (0 : Int64).toInt = 0 from rfl, Int.bmod_eq_of_le (by omega) (by omega)]
  · rw [Int32.toInt_toInt64, Int.bmod_eq_of_le (by omega) (by omega)]
theorem PV.wg (h : PV Y m b T) (hT : T ≤ 57100) {i : Nat} (hi : i < 16) : WgO Y i := by
  obtain ⟨r, s, h1, h2, -⟩ := h.e hi
  obtain ⟨-, ⟨a, f1, f2⟩, ⟨q, f3, f4, f5⟩, -⟩ := h.f
  refine ⟨h.l, h.acy, ⟨r, h1, by omega⟩, ?_, ?_⟩
  · rw [f3]
    exact nI_nlt (b := 1) (by omega) (by omega)
  · rw [f1]
    have e : 2 * nI a + 1 = nI (2 * a + 1) := by
      rw [show (2 : Int32) = nI 2 from rfl, pk_mul, nI_s1]
    rw [e]
    exact nI_ne0 (by omega) (by omega)
theorem PV.r6 (h : PV Y m b T) : 1 ≤ yF Y 6 := by
  obtain ⟨k, h1, h2, h3⟩ := h.q
  rw [h1]
  exact nI_le (a := 1) h2 (by omega)
theorem BZ.eq (h : BZ Y m b) (h8 : ∀ i, i < 16 → yC Y i 8 = 0 → yC Z i 8 = 0) (hB : yB Z = yB Y) : BZ Z m b := ⟨fun i hi hm => h8 i hi (h.1 i hi hm), fun j hj hb => by rw [hB]; exact h.2 j hj hb⟩
/-- a crate's readings: as they were, or none -/
def eqE (Y Z : Yd) (j : Nat) : Prop := (yC Z j 8 = 0 ∧ yL Z j 9 = 0 ∧ yL Z j 10 = 0 ∧ yC Z j 12 = 0) ∨ (yC Z j 4 = yC Y j 4 ∧ yC Z j 8 = yC Y j 8 ∧ yL Z j 9 = yL Y j 9 ∧ yL Z j 10 = yL Y j 10 ∧ yC Z j 12 = yC Y j 12)
theorem eqE.rf (Y : Yd) (j : Nat) : eqE Y Y j := Or.inr ⟨rfl, rfl, rfl, rfl, rfl⟩
theorem eqE.tr {W : Yd} {j : Nat} (h : eqE Y Z j) (g : eqE Z W j) : eqE Y W j := by
  rcases g with g | ⟨g0, g1, g2, g3, g4⟩
  · exact Or.inl g
  · rcases h with ⟨h1, h2, h3, h4⟩ | ⟨h0, h1, h2, h3, h4⟩
    · exact Or.inl ⟨g1.trans h1, g2.trans h2, g3.trans h3, g4.trans h4⟩
    · exact Or.inr ⟨g0.trans h0, g1.trans h1, g2.trans h2, g3.trans h3, g4.trans h4⟩
theorem PE.eq {j : Nat} (h : PE Y T j) (g : eqE Y Z j) : PE Z T j := by
  rcases g with ⟨g1, g2, g3, g4⟩ | ⟨g0, g1, g2, g3, g4⟩
  · refine ⟨0, 0, g1, by omega, by rw [g3]; rfl, by omega, by rw [g4]; decide, by rw [g4]; decide, ?_⟩
    rw [g2, if_pos rfl, show (0 : Int64).toInt = 0 from rfl]
    omega
  · obtain ⟨r, s, h1, h2, h3, h4, h5, h6, h7⟩ := h
    exact ⟨r, s, g1.trans h1, h2, by rw [g3]; exact h3, h4, by rw [g4]; exact h5, by rw [g4]; exact h6, by rw [g2, g0, g4]; exact h7⟩
theorem eqE.z8 {j : Nat} (h : eqE Y Z j) (z : yC Y j 8 = 0) : yC Z j 8 = 0 := by
  rcases h with h | h
  · exact h.1
  · rw [h.2.1]; exact z
theorem awC_C (Y : Yd) (k : Nat) (w : Int32) (i f : Nat) : yC (awC Y k w) i f = if i = k ∧ f = 12 then 0 else if i = k ∧ f = 11 then 0 else if i = k ∧ f = 8 then 0 else if i = k ∧ f = 4 then yC Y k 4 + w else yC Y i f := rfl
theorem awC_L (Y : Yd) (k : Nat) (w : Int32) (i f : Nat) : yL (awC Y k w) i f = if i = k ∧ f = 10 then 0 else if i = k ∧ f = 9 then 0 else yL Y i f := rfl
theorem eqE_awC (Y : Yd) (k : Nat) (w : Int32) (j : Nat) : eqE Y (awC Y k w) j := by
  by_cases z : j = k
  · subst z
    left
    simp [awC_C, awC_L]
  · right
    simp [awC_C, awC_L, z]
theorem eqE_awO : ∀ (n : Nat) (Y : Yd) (o : Option Nat) (w : Int32) (j : Nat), eqE Y (awO n Y o w) j := by
  intro n
  induction n with
  | zero => intro Y o w j; exact eqE.rf Y j
  | succ n ih =>
    intro Y o w j
    cases o with
    | none => exact eqE.rf Y j
    | some k => exact (eqE_awC Y k w j).tr (ih (awC Y k w) (yP Y k) w j)
theorem aw_st : ∀ (n : Nat) (Y : Yd) (o : Option Nat) (w : Int32), yS (awO n Y o w) = yS Y ∧ yF (awO n Y o w) = yF Y ∧ yB (awO n Y o w) = yB Y ∧ yP (awO n Y o w) = yP Y := by
  intro n
  induction n with
  | zero => intro Y o w; exact ⟨rfl, rfl, rfl, rfl⟩
  | succ n ih =>
    intro Y o w
    cases o with
    | none => exact ⟨rfl, rfl, rfl, rfl⟩
    | some k => exact ih (awC Y k w) (yP Y k) w
/-- a weight is added just to the crates of the chain -/
theorem aw_4 {w : Int32} : ∀ (n : Nat) (Y : Yd) (o : Option Nat), (∀ i, i < 16 → ∀ j, yP Y i = some j → j < 16) → (∀ i, i < 16 → itO (yP Y) 6 (some i) = none) → (∀ k, o = some k → k < 16) → ∀ j, yC (awO n Y o w) j 4 = yC Y j 4 + if inO n (yP Y) o j = true then w else 0 := by
  intro n
  induction n with
  | zero =>
    intro Y o _ _ _ j
    exact (az _).symm
  | succ n ih =>
    intro Y o hP hA ho j
    cases o with
    | none => exact (az _).symm
    | some k =>
      have hk := ho k rfl
      show yC (awO n (awC Y k w) (yP Y k) w) j 4 = yC Y j 4 + if (if k = j then true else inO n (yP Y) (yP Y k) j) = true then w else 0
      rw [ih (awC Y k w) (yP Y k) hP hA (fun i e => hP k hk i e) j]
      by_cases z : k = j
      · subst z
        have hn : ¬ inO n (yP Y) (yP Y k) k = true := by
          intro q
          obtain ⟨a, _, e⟩ := (inO_i n _).mp q
          have h1 : itO (yP Y) (a + 1) (some k) = some k := e
          have := it_un (P := yP Y) (N := 16) hP hA hk h1 (show itO (yP Y) 0 (some k) = some k from rfl)
          omega
        rw [show yP (awC Y k w) = yP Y from rfl, if_neg hn, if_pos (if_pos rfl), az, awC_C]
        simp
      · rw [show yP (awC Y k w) = yP Y from rfl, awC_C]
        simp [z, show ¬ j = k from fun e => z e.symm]
end PVS
