/-! names as numbers -/
def lt (x : Int32) : Nat := x.toNatClampNeg - 96
def isL (x : Int32) : Prop := 97 ≤ x ∧ x ≤ 122
theorem lt_of {x : Int32} (h : isL x) : x = nI (96 + lt x) ∧ 1 ≤ lt x ∧ lt x ≤ 26 := by
  obtain ⟨h1, h2⟩ := h
  rw [Int32.le_iff_toInt_le] at h1 h2
  have e1 : (97 : Int32).toInt = 97 := by decide
  have e2 : (122 : Int32).toInt = 122 := by decide
  rw [e1] at h1
  rw [e2] at h2
  have hx : x = nI x.toInt.toNat := by
    apply Int32.toInt_inj.mp
    rw [nI_toInt (by omega)]
    omega
  have hc : x.toNatClampNeg = x.toInt.toNat := rfl
  refine ⟨?_, ?_, ?_⟩
  · unfold lt
    rw [hc, show 96 + (x.toInt.toNat - 96) = x.toInt.toNat by omega]
    exact hx
  · unfold lt; omega
  · unfold lt; omega
def pk (b : Nat → Int32) : Nat → Nat → Nat
  | 0, _ => 0
  | f + 1, s => lt (b s) + 32 * pk b f (s + 1)
theorem pk_snoc (b : Nat → Int32) : ∀ f s, pk b (f + 1) s = pk b f s + 32 ^ f * lt (b (s + f)) := by
  intro f
  induction f with
  | zero => intro s; simp [pk]
  | succ f ih =>
    intro s
    rw [pk, ih (s + 1), pk, show s + 1 + f = s + (f + 1) by omega, Nat.pow_succ]
    have e : 32 * (32 ^ f * lt (b (s + (f + 1)))) = 32 ^ f * 32 * lt (b (s + (f + 1))) := by
      rw [← Nat.mul_assoc, Nat.mul_comm 32 (32 ^ f)]
    omega
theorem pkn_lt {b : Nat → Int32} : ∀ f s, (∀ i, s ≤ i → i < s + f → isL (b i)) → pk b f s < 32 ^ f := by
  intro f
  induction f with
  | zero => intro s _; exact Nat.one_pos
  | succ f ih =>
    intro s h
    have h1 := ih (s + 1) (fun i h1 h2 => h i (by omega) (by omega))
    have h2 := (lt_of (h s (Nat.le_refl _) (by omega))).2.2
    rw [pk, Nat.pow_succ]
    omega
theorem nm_step (a l : Nat) (ha : a < 2 ^ 26) (hl : l ≤ 26) : (nI a <<< ((5 : Int32) &&& 31)) + nI (96 + l) - 97 + 1 = nI (32 * a + l) := by
  rw [pk_shlN ((5 : Int32) &&& 31) 5 (by decide) (by omega), nI_add]
  have e : nI (a * 2 ^ 5 + (96 + l)) - 97 + 1 = nI (a * 2 ^ 5 + (96 + l)) - 96 := by
    rw [Int32.sub_eq_add_neg, Int32.add_assoc, show (-97 : Int32) + 1 = -96 by decide, ← Int32.sub_eq_add_neg]
  rw [e]
  have e2 := nI_sub (a := 96) (b := a * 2 ^ 5 + (96 + l)) (by omega)
  rw [show a * 2 ^ 5 + (96 + l) - 96 = 32 * a + l by omega] at e2
  exact e2
theorem nmG_pk {b : Nat → Int32} {s : Nat} : ∀ f a, (a + 1) * 32 ^ f ≤ 2 ^ 30 → (∀ i, s ≤ i → i < s + f → isL (b i)) → nmG b f (s + f) (nI a) = nI (a * 32 ^ f + pk b f s) := by
  intro f
  induction f with
  | zero => intro a _ _; simp [nmG, pk]
  | succ f ih =>
    intro a ha h
    obtain ⟨e1, e2, e3⟩ := lt_of (h (s + f) (by omega) (by omega))
    have hp : 1 ≤ 32 ^ f := Nat.pow_pos (by decide)
    have ha2 : a * 32 ^ (f + 1) = 32 * a * 32 ^ f := by rw [Nat.pow_succ, Nat.mul_comm (32 ^ f) 32, ← Nat.mul_assoc, Nat.mul_comm a 32]
    have ha4 : (a + 1) * 32 ^ (f + 1) = (32 * a + 32) * 32 ^ f := by rw [Nat.pow_succ, Nat.mul_comm (32 ^ f) 32, ← Nat.mul_assoc, Nat.add_mul, Nat.mul_comm a 32]
    have ha3 : 32 * a + 32 ≤ (32 * a + 32) * 32 ^ f := Nat.le_mul_of_pos_right _ hp
    have hb := nm_step a (lt (b (s + f))) (by omega) e3
    rw [← e1] at hb
    rw [nmG, show s + (f + 1) - 1 = s + f by omega, hb, ih (32 * a + lt (b (s + f))) ?_ (fun i h1 h2 => h i h1 (by omega)), pk_snoc]
    · congr 1
      rw [Nat.add_mul, ha2, Nat.mul_assoc, Nat.mul_comm (lt (b (s + f))) (32 ^ f)]
      omega
    · exact Nat.le_trans (Nat.mul_le_mul_right _ (by omega)) (ha4 ▸ ha)
theorem nmF_pk {b : Nat → Int32} {s e : Nat} (he : e - s ≤ 6) (hse : s ≤ e) (h : ∀ i, s ≤ i → i < e → isL (b i)) : nmF b s e = nI (pk b (e - s) s) := by
  unfold nmF
  have := nmG_pk (b := b) (s := s) (e - s) 0 (by rw [Nat.zero_add, Nat.one_mul]; exact Nat.le_trans (Nat.pow_le_pow_right (by decide) he) (by decide)) (fun i h1 h2 => h i h1 (by omega))
  rw [show s + (e - s) = e by omega, Nat.zero_mul, Nat.zero_add] at this
  exact this
theorem ck_2 {v : Int32} (h : ck v = 2) : isL v := by
  unfold ck at h
  split at h
  next z => exact z
  next =>
    exfalso
    split at h
    · exact absurd h (by decide)
    · split at h
      · exact absurd h (by decide)
      · split at h <;> exact absurd h (by decide)
theorem runF_all {κ : Nat → Int32} {k : Int32} : ∀ f i j, i ≤ j → j < runF κ k f i → κ j = k := by
  intro f
  induction f with
  | zero => intro i j h1 h2; rw [runF] at h2; omega
  | succ f ih =>
    intro i j h1 h2
    rw [runF] at h2
    split at h2
    next e =>
      by_cases z : j = i
      · rw [z]; exact e
      · exact ih (i + 1) j (by omega) h2
    next => omega
theorem tok_w {b : Nat → Int32} {n e : Nat} (h : tK b n e = 2) : (∀ i, tS b n e ≤ i → i < tE b n e → isL (b i)) ∧ tS b n e < tE b n e ∧ tE b n e - tS b n e ≤ 8 := by
  have h2 : kp b n (tS b n e) = 2 ∧ tE b n e - tS b n e ≤ 8 := by
    unfold tK at h
    split at h
    · exact absurd h (by decide)
    next z => exact ⟨h, by
      apply Decidable.byContradiction
      intro w
      exact z (Or.inl ⟨h, by omega⟩)⟩
  have hE : tE b n e = runF (kp b n) 2 601 (tS b n e + 1) := by
    unfold tE
    rw [h2.1, if_neg (by decide), if_pos (Or.inl rfl)]
  have hk : ∀ i, kp b n i = 2 → isL (b i) := fun i hi => by
    unfold kp at hi
    split at hi
    · exact absurd hi (by decide)
    · exact ck_2 hi
  refine ⟨fun i h3 h4 => ?_, ?_, h2.2⟩
  · by_cases z : i = tS b n e
    · rw [z]; exact hk _ h2.1
    · rw [hE] at h4
      exact hk i (runF_all 601 _ i (by omega) h4)
  · rw [hE]
    exact Nat.lt_of_lt_of_le (Nat.lt_succ_self _) (runF_ge _ _ _ _)
