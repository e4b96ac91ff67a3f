/-! what the model may do; what it sells -/
/-- crates below i, n levels: gone -/
def LV (P : Nat → Option Nat) (m n i : Nat) (w w' : Nat → Int32) : Prop := (∀ x, (¬ ∃ y, y < m ∧ x = 16 + 18 * y + 11 ∧ ∃ j, j < n ∧ itO P j (some y) = some i) → w' x = w x) ∧ ∀ y, y < m → (∃ j, j < n ∧ itO P j (some y) = some i) → w' (16 + 18 * y + 11) = 1
/-- the same, with the children below k alone -/
def LK (P : Nat → Option Nat) (m n i k : Nat) (w w' : Nat → Int32) : Prop := (∀ x, (¬ ∃ y, y < m ∧ x = 16 + 18 * y + 11 ∧ (y = i ∨ ∃ c, c < k ∧ P c = some i ∧ ∃ j, j < n ∧ itO P j (some y) = some c)) → w' x = w x) ∧ ∀ y, y < m → (y = i ∨ ∃ c, c < k ∧ P c = some i ∧ ∃ j, j < n ∧ itO P j (some y) = some c) → w' (16 + 18 * y + 11) = 1
theorem lv_n {P : Nat → Option Nat} {m n i k : Nat} {w w' : Nat → Int32} (hz : ¬ P k = some i) (g : LK P m n i k w w') : LK P m n i (k + 1) w w' := by
  have e : ∀ y, (y = i ∨ ∃ c, c < k + 1 ∧ P c = some i ∧ ∃ j, j < n ∧ itO P j (some y) = some c) → (y = i ∨ ∃ c, c < k ∧ P c = some i ∧ ∃ j, j < n ∧ itO P j (some y) = some c) := by
    intro y h
    rcases h with h | ⟨c, h1, h2, h3⟩
    · exact Or.inl h
    · by_cases q : c = k
      · exact absurd (q ▸ h2) hz
      · exact Or.inr ⟨c, by omega, h2, h3⟩
  refine ⟨fun x hx => g.1 x fun ⟨y, h1, h2, h3⟩ => hx ⟨y, h1, h2, ?_⟩, fun y hy h => g.2 y hy (e y h)⟩
  rcases h3 with h3 | ⟨c, q1, q2⟩
  · exact Or.inl h3
  · exact Or.inr ⟨c, by omega, q2⟩
theorem lv_y {P : Nat → Option Nat} {m n i k : Nat} {w w1 w2 : Nat → Int32} (_hP : ∀ a b, a < 16 → P a = some b → a < m ∧ b < m) (hz : P k = some i) (_hk : k < m) (g1 : LK P m n i k w w1) (g2 : LV P m n k w1 w2) : LK P m n i (k + 1) w w2 := by
  refine ⟨fun x hx => ?_, fun y hy h => ?_⟩
  · rw [g2.1 x fun ⟨y, h1, h2, h3⟩ => hx ⟨y, h1, h2, Or.inr ⟨k, Nat.lt_succ_self k, hz, h3⟩⟩]
    refine g1.1 x fun ⟨y, h1, h2, h3⟩ => hx ⟨y, h1, h2, ?_⟩
    rcases h3 with h3 | ⟨c, q1, q2⟩
    · exact Or.inl h3
    · exact Or.inr ⟨c, by omega, q2⟩
  · by_cases q : ∃ j, j < n ∧ itO P j (some y) = some k
    · exact g2.2 y hy q
    · rw [g2.1 _ fun ⟨y', h1, h2, h3⟩ => q (by rw [show y = y' by omega]; exact h3)]
      refine g1.2 y hy ?_
      rcases h with h | ⟨c, h1, h2, h3⟩
      · exact Or.inl h
      · by_cases z : c = k
        · exact absurd (z ▸ h3) q
        · exact Or.inr ⟨c, by omega, h2, h3⟩
theorem lv_end {P : Nat → Option Nat} {m n i : Nat} {w w' : Nat → Int32} (hP : ∀ a b, a < 16 → P a = some b → a < m ∧ b < m) (hm : m ≤ 16) (g : LK P m n i m w w') : LV P m (n + 1) i w w' := by
  have hP2 : ∀ a, a < 16 → ∀ b, P a = some b → b < 16 := fun a ha b e => by have := (hP a b ha e).2; omega
  refine ⟨fun x hx => g.1 x fun ⟨y, h1, h2, h3⟩ => hx ⟨y, h1, h2, ?_⟩, fun y hy ⟨j, h1, h2⟩ => g.2 y hy ?_⟩
  · rcases h3 with h3 | ⟨c, q1, q2, j, q3, q4⟩
    · exact ⟨0, by omega, by rw [h3]; rfl⟩
    · exact ⟨j + 1, by omega, it_st q4 q2⟩
  · cases j with
    | zero => cases h2; exact Or.inl rfl
    | succ j =>
      rw [it_a] at h2
      cases e : itO P j (some y) with
      | none => rw [e] at h2; cases h2
      | some c =>
        rw [e] at h2
        have e2 : P c = some i := h2
        exact Or.inr ⟨c, (hP c i (it_lt hP2 j y c (by omega) e) e2).1, e2, j, by omega, e⟩
theorem lv_T {Y : Yd} {m n i k : Nat} {w w1 w2 : Nat → Int32} (h : TW Y m w1) (g : LK (yP Y) m n i k w w2) (h0 : TW Y m w := by assumption) : TW Y m w2 := by
  obtain ⟨t1, t2, t3, t4⟩ := h0
  exact ⟨t1, by rw [g.1 0 fun ⟨y, _, h2, _⟩ => by omega]; exact t2, fun k hk => by rw [g.1 _ fun ⟨y, _, h2, _⟩ => by omega]; exact t3 k hk, t4⟩