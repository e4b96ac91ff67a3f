/-! the model's trees -/
/-- parents, as the model keeps them -/
def TW (Y : Yd) (m : Nat) (w : Nat → Int32) : Prop := m ≤ 16 ∧ w 0 = nI m ∧ (∀ k, k < m → w (16 + 18 * k + 9) = pIx Y k) ∧ ∀ i j, i < 16 → yP Y i = some j → i < m ∧ j < m
theorem TW.le {Y : Yd} {m : Nat} {w : Nat → Int32} (h : TW Y m w) : m ≤ 16 := h.1
theorem TW.z {Y : Yd} {m : Nat} {w : Nat → Int32} (h : TW Y m w) : w 0 = nI m := h.2.1
theorem TW.p {Y : Yd} {m k : Nat} {w : Nat → Int32} (h : TW Y m w) (hk : k < m) : w (16 + 18 * k + 9) = pIx Y k := h.2.2.1 k hk
theorem pIx_n {Y : Yd} {i : Nat} (h : yP Y i = none) : pIx Y i = -1 := by unfold pIx; rw [h]
theorem pIx_s {Y : Yd} {i j : Nat} (h : yP Y i = some j) : pIx Y i = nI j := by unfold pIx; rw [h]
/-- a parent's number, or -1 -/
def px (o : Option Nat) : Int32 := match o with
  | none => -1
  | some j => nI j
theorem pIx_e (Y : Yd) (i : Nat) : pIx Y i = px (yP Y i) := by
  cases e : yP Y i with
  | none => exact pIx_n e
  | some j => exact pIx_s e
theorem px_i {o : Option Nat} {j : Nat} (ho : ∀ i, o = some i → i < 2 ^ 31) (hj : j < 2 ^ 31) : px o = nI j ↔ o = some j := by
  cases o with
  | none => exact ⟨fun h => absurd h.symm (nI_m1 hj), fun h => nomatch h⟩
  | some i => exact ⟨fun h => by rw [(nI_inj (ho i rfl) hj).mp h], fun h => by cases h; rfl⟩
theorem TW.i {Y : Yd} {m k j : Nat} {w : Nat → Int32} (h : TW Y m w) (hk : k < m) (hj : j < 2 ^ 31) : pIx Y k = nI j ↔ yP Y k = some j := by
  rw [pIx_e]
  exact px_i (fun i hi => by have := (h.2.2.2 k i (by have := h.1; omega) hi).2; have := h.1; omega) hj
theorem sm_m {α : Type} [Lean.Grind.AddCommMonoid α] {f : Nat → α} {m : Nat} (hm : m ≤ 16) (h : ∀ k, k < 16 → m ≤ k → f k = 0) : sm f 16 = sm f m := by
  have key : ∀ n, m + n ≤ 16 → sm f (m + n) = sm f m := by
    intro n
    induction n with
    | zero => intro _; rfl
    | succ n ih => intro hn; rw [Nat.add_succ, sm, ih (by omega), h (m + n) (by omega) (by omega), az]
  have e := key (16 - m) (by omega)
  rw [show m + (16 - m) = 16 by omega] at e
  exact e
theorem TW.kid {α : Type} [Lean.Grind.AddCommMonoid α] {Y : Yd} {m i : Nat} {w : Nat → Int32} {f : Nat → α} (h : TW Y m w) : sm (fun k => if yP Y k = some i then f k else 0) 16 = sm (fun k => if yP Y k = some i then f k else 0) m := sm_m h.1 fun k hk hm => if_neg fun z => by have := (h.2.2.2 k i hk z).1; omega
/-- gross weights add up -/
def LG (Y : Yd) : Prop := ∀ i, i < 16 → yC Y i 4 = (yC Y i 2 + yC Y i 3) + sm (fun c => if yP Y c = some i then yC Y c 4 else 0) 16
theorem it_st {P : Nat → Option Nat} {n k i x : Nat} (e : itO P n (some x) = some k) (h : P k = some i) : itO P (n + 1) (some x) = some i := by
  rw [it_a, e]
  show itO P 0 (P k) = _
  rw [h]; rfl
theorem nI_s1 (n : Nat) : nI n + 1 = nI (n + 1) := by
  unfold nI
  rw [Int32.ofNat_add]; rfl
/-- stamps are ordered as the class's times are -/
def SW (Y : Yd) (m : Nat) (w : Nat → Int32) : Prop := ∀ i j, i < m → j < m → ∀ {o : Nat}, yP Y i = some o → yP Y j = some o → (w (16 + 18 * i + 10) < w (16 + 18 * j + 10) ↔ (yC Y i 6).toInt < (yC Y j 6).toInt)
def mxN (f : Nat → Nat) : Nat → Nat
  | 0 => 0
  | n + 1 => max (mxN f n) (f n)
theorem mxN_le {f : Nat → Nat} {h : Nat} : ∀ n, mxN f n ≤ h ↔ ∀ k, k < n → f k ≤ h := by
  intro n
  induction n with
  | zero => exact ⟨fun _ k hk => absurd hk (Nat.not_lt_zero k), fun _ => Nat.zero_le _⟩
  | succ n ih =>
    rw [mxN, Nat.max_le, ih]
    refine ⟨fun h k hk => ?_, fun h => ⟨fun k hk => h k (by omega), h n (by omega)⟩⟩
    by_cases e : k = n
    · rw [e]; exact h.2
    · exact h.1 k (by omega)
theorem mxN_m {f : Nat → Nat} {m : Nat} (hm : m ≤ 16) (h : ∀ k, k < 16 → m ≤ k → f k = 0) : mxN f 16 = mxN f m := by
  apply Nat.le_antisymm
  · refine (mxN_le 16).mpr fun k hk => ?_
    by_cases e : k < m
    · exact (mxN_le m).mp (Nat.le_refl _) k e
    · rw [h k hk (by omega)]; exact Nat.zero_le _
  · exact (mxN_le m).mpr fun k hk => (mxN_le 16).mp (Nat.le_refl _) k (by omega)
/-- the greatest depth below a crate -/
def hgt (Y : Yd) : Nat → Nat → Nat
  | 0, _ => 0
  | n + 1, i => mxN (fun k => if yP Y k = some i then 1 + hgt Y n k else 0) 16
theorem hgt_n (Y : Yd) : ∀ n i, hgt Y n i ≤ n := by
  intro n
  induction n with
  | zero => intro i; exact Nat.le_refl _
  | succ n ih =>
    intro i
    rw [hgt, mxN_le]
    intro k _
    have := ih k
    split <;> omega
theorem hgt_le {Y : Yd} (hP : ∀ i j, i < 16 → yP Y i = some j → j < 16) : ∀ (n i h : Nat), (∀ x, x < 16 → itO (yP Y) n (some x) ≠ some i) → i < 16 → (hgt Y n i ≤ h ↔ ∀ x k, x < 16 → itO (yP Y) k (some x) = some i → k ≤ h) := by
  have hP' : ∀ i, i < 16 → ∀ j, yP Y i = some j → j < 16 := fun i hi j e => hP i j hi e
  intro n
  induction n with
  | zero => intro i h hN hi; exact absurd rfl (hN i hi)
  | succ n ih =>
    intro i h hN hi
    rw [hgt, mxN_le]
    constructor
    · intro H x k hx e
      cases k with
      | zero => exact Nat.zero_le _
      | succ k =>
        rw [it_a] at e
        cases e1 : itO (yP Y) k (some x) with
        | none => rw [e1] at e; cases e
        | some y =>
          rw [e1] at e
          have hy := it_lt hP' k x y hx e1
          have e2 : yP Y y = some i := e
          have h2 := H y hy
          rw [if_pos e2] at h2
          have := (ih y (h - 1) (fun z hz q => hN z hz (it_st q e2)) hy).mp (by omega) x k hx e1
          omega
    · intro H y hy
      by_cases e2 : yP Y y = some i
      · rw [if_pos e2]
        have h1 : 1 ≤ h := H y 1 hy (by show itO (yP Y) 0 (yP Y y) = _; rw [e2]; rfl)
        have := (ih y (h - 1) (fun z hz q => hN z hz (it_st q e2)) hy).mpr fun x k hx e => by
          have := H x (k + 1) hx (it_st e e2)
          omega
        omega
      · rw [if_neg e2]; exact Nat.zero_le _
theorem dp_s {Y : Yd} {x y : Nat} (hA : Acy Y) (hx : x < 16) (hy : y < 16) (e : yP Y x = some y) : dp Y x = dp Y y + 1 := by
  have h1 := hA x hx
  unfold dp
  rw [depO_st 5 6 _ h1 (acyO_mo 5 _ _ h1), e]
  rfl
theorem dp_it {Y : Yd} (hA : Acy Y) (hP : ∀ i j, i < 16 → yP Y i = some j → j < 16) {t : Nat} : ∀ k x, x < 16 → itO (yP Y) k (some x) = some t → dp Y x = dp Y t + k := by
  intro k
  induction k with
  | zero => intro x _ e; cases e; rfl
  | succ k ih =>
    intro x hx e
    rw [itO] at e
    cases e1 : yP Y x with
    | none => rw [e1] at e; rw [it_n] at e; cases e
    | some y =>
      rw [e1] at e
      have hy := hP x y hx e1
      rw [dp_s hA hx hy e1, ih y hy e]
      omega
theorem lvN_le {Y : Yd} {t h : Nat} : ∀ k i a, a ≤ h → (∀ j, i ≤ j → j < i + k → ins Y j t = true → dp Y j - dp Y t ≤ h) → lvN Y t k i a ≤ h := by
  intro k
  induction k with
  | zero => intro i a ha _; exact ha
  | succ k ih =>
    intro i a ha H
    rw [lvN]
    refine ih (i + 1) _ ?_ (fun j h1 h2 => H j (by omega) (by omega))
    by_cases z : ins Y i t = true
    · rw [if_pos z]; exact Nat.max_le.mpr ⟨ha, H i (Nat.le_refl _) (by omega) z⟩
    · rw [if_neg z]; exact ha
theorem it_6 {Y : Yd} (hA : Acy Y) {x : Nat} (hx : x < 16) : itO (yP Y) 6 (some x) = none := (acy_i 5 _).mp (hA x hx)
theorem hgt_lv {Y : Yd} (hA : Acy Y) (hP : ∀ i j, i < 16 → yP Y i = some j → j < 16) {i : Nat} (hi : i < 16) : hgt Y 6 i = lvN Y i 16 0 0 := by
  have hN : ∀ x, x < 16 → itO (yP Y) 6 (some x) ≠ some i := fun x hx e => by rw [it_6 hA hx] at e; cases e
  apply Nat.le_antisymm
  · refine (hgt_le hP 6 i _ hN hi).mpr fun x k hx e => ?_
    obtain ⟨-, -, -, h4⟩ := lvF_N hA hi 16 0 0 (by omega) (by omega)
    have hk : k < 6 := Decidable.byContradiction fun q => by
      have := it_le (it_6 hA hx) (by omega : 6 ≤ k)
      rw [this] at e; cases e
    have := h4 x (Nat.zero_le _) hx ((inO_i 6 _).mpr ⟨k, hk, e⟩)
    have := dp_it hA hP k x hx e
    omega
  · refine lvN_le 16 0 0 (Nat.zero_le _) fun j _ hj z => ?_
    obtain ⟨k, hk, e⟩ := (inO_i 6 _).mp z
    have h1 := (hgt_le hP 6 i (hgt Y 6 i) hN hi).mp (Nat.le_refl _) j k (by omega) e
    have := dp_it hA hP k j (by omega) e
    omega
theorem nI_1a (n : Nat) : nI 1 + nI n = nI (1 + n) := by
  unfold nI
  rw [Int32.ofNat_add]