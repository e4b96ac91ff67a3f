/-! names, letter by letter -/
theorem sh_nI {N s : Nat} (hN : N < 2 ^ 31) (k : Int32) (hk : k.toBitVec.smod 32 = BitVec.ofNat 32 s) (hs : s < 32) : nI N >>> k = nI (N / 2 ^ s) := by
  apply Int32.toBitVec_inj.1
  show (BitVec.ofNat 32 N).sshiftRight' (k.toBitVec.smod 32) = BitVec.ofNat 32 (N / 2 ^ s)
  rw [hk]
  show (BitVec.ofNat 32 N).sshiftRight (BitVec.ofNat 32 s).toNat = _
  have e1 : (BitVec.ofNat 32 s).toNat = s := by rw [BitVec.toNat_ofNat]; exact Nat.mod_eq_of_lt (by omega)
  have e2 : (BitVec.ofNat 32 N).toNat = N := by rw [BitVec.toNat_ofNat]; exact Nat.mod_eq_of_lt (by omega)
  rw [e1, BitVec.sshiftRight_eq_of_msb_false (by rw [BitVec.msb_eq_false_iff_two_mul_lt, e2]; omega)]
  apply BitVec.eq_of_toNat_eq
  rw [BitVec.toNat_ushiftRight, e2, Nat.shiftRight_eq_div_pow, BitVec.toNat_ofNat]
  have : N / 2 ^ s ≤ N := Nat.div_le_self _ _
  exact (Nat.mod_eq_of_lt (by omega)).symm
theorem an_nI {N : Nat} (hN : N < 2 ^ 31) : nI N &&& 31 = nI (N % 32) := by
  apply Int32.toBitVec_inj.1
  show BitVec.ofNat 32 N &&& BitVec.ofNat 32 31 = BitVec.ofNat 32 (N % 32)
  apply BitVec.eq_of_toNat_eq
  rw [BitVec.toNat_and, BitVec.toNat_ofNat, BitVec.toNat_ofNat, BitVec.toNat_ofNat, Nat.mod_eq_of_lt (a := N) (by omega), Nat.mod_eq_of_lt (a := 31) (by omega), Nat.mod_eq_of_lt (a := N % 32) (by omega)]
  exact Nat.and_two_pow_sub_one_eq_mod N 5
theorem cd_nI {N j : Nat} (hN : N < 2 ^ 31) (hj : j < 6) : (nI N >>> ((5 * nI j) &&& 31)) &&& 31 = nI (N / 32 ^ j % 32) := by
  have key : ∀ j, j < 6 → ((5 * nI j) &&& 31 : Int32).toBitVec.smod 32 = BitVec.ofNat 32 (5 * j) := by decide +kernel
  have h31 : N / 32 ^ j < 2 ^ 31 := Nat.lt_of_le_of_lt (Nat.div_le_self _ _) hN
  rw [sh_nI hN _ (key j hj) (by omega), show 2 ^ (5 * j) = 32 ^ j from Nat.pow_mul 2 5 j, an_nI h31]
theorem pk_dig {b : Nat → Int32} : ∀ (f s j : Nat), (∀ i, i < f → lt (b (s + i)) < 32) → pk b f s / 32 ^ j % 32 = if j < f then lt (b (s + j)) else 0 := by
  intro f
  induction f with
  | zero => intro s j _; rw [pk, Nat.zero_div, if_neg (Nat.not_lt_zero j)]
  | succ f ih =>
    intro s j h
    have h0 : lt (b s) < 32 := h 0 (Nat.succ_pos f)
    rw [pk]
    cases j with
    | zero =>
      rw [if_pos (Nat.succ_pos f), Nat.pow_zero, Nat.div_one]
      show (lt (b s) + 32 * pk b f (s + 1)) % 32 = lt (b s)
      omega
    | succ j =>
      rw [Nat.pow_succ, Nat.mul_comm (32 ^ j) 32, ← Nat.div_div_eq_div_mul, show (lt (b s) + 32 * pk b f (s + 1)) / 32 = pk b f (s + 1) by omega, ih (s + 1) j (fun i hi => by rw [show s + 1 + i = s + (i + 1) by omega]; exact h (i + 1) (by omega)), show s + 1 + j = s + (j + 1) by omega]
      by_cases z : j < f
      · rw [if_pos z, if_pos (by omega)]
      · rw [if_neg z, if_neg (by omega)]
theorem pk_b {b : Nat → Int32} : ∀ (f s : Nat), (∀ i, i < f → lt (b (s + i)) < 32) → pk b f s < 32 ^ f := by
  intro f
  induction f with
  | zero => intro s _; exact Nat.one_pos
  | succ f ih =>
    intro s h
    have h0 : lt (b s) < 32 := h 0 (Nat.succ_pos f)
    have := ih (s + 1) (fun i hi => by rw [show s + 1 + i = s + (i + 1) by omega]; exact h (i + 1) (by omega))
    rw [pk, Nat.pow_succ]
    omega
/-- a letter of a name -/
theorem NW.l {x : Int32} {w : Nat → Int32} {a : Nat} (h : NW x w a) : ∃ L, 1 ≤ L ∧ L ≤ 6 ∧ w a = nI L ∧ (∀ j, j < L → ltF x (nI j) = w (a + 1 + j) ∧ ¬ w (a + 1 + j) = -1) ∧ ∀ j, L ≤ j → j < 6 → ltF x (nI j) = -1 := by
  obtain ⟨L, h1, h2, h3, h4, h5, h6⟩ := h
  have hl : ∀ i, i < L → lt ((fun j => w (a + 1 + j)) (0 + i)) < 32 := fun i hi => by
    have := (lt_of (h5 i hi)).2.2
    rw [Nat.zero_add]
    show lt (w (a + 1 + i)) < 32
    omega
  have hb : pk (fun j => w (a + 1 + j)) L 0 < 2 ^ 31 := by
    exact Nat.lt_of_lt_of_le (pk_b (b := fun j => w (a + 1 + j)) L 0 hl) (Nat.le_trans (Nat.pow_le_pow_right (by decide) h2) (by decide))
  have dg : ∀ j, j < 6 → (x >>> ((5 * nI j) &&& 31)) &&& 31 = nI (if j < L then lt (w (a + 1 + j)) else 0) := fun j hj => by
    rw [h4, cd_nI hb hj, pk_dig (b := fun j => w (a + 1 + j)) L 0 j hl, Nat.zero_add]
  have ran : ∀ j, j < 6 → ¬ (nI j < 0 ∨ 6 ≤ nI j) := by decide +kernel
  refine ⟨L, h1, h2, h3, fun j hj => ?_, fun j hj1 hj2 => ?_⟩
  · obtain ⟨e1, e2, e3⟩ := lt_of (h5 j hj)
    have ne : ¬ nI (lt (w (a + 1 + j))) = 0 := fun q => by
      have := (nI_inj (b := 0) (by omega) (by decide)).mp q
      omega
    constructor
    · unfold ltF
      rw [if_neg (ran j (by omega)), dg j (by omega), if_pos hj, if_neg ne]
      have key : ∀ l, l < 27 → 1 ≤ l → (97 : Int32) + nI l - 1 = nI (96 + l) := by decide +kernel
      rw [key _ (by omega) e2]
      exact e1.symm
    · rw [e1]; exact nI_m1 (by omega)
  · unfold ltF
    rw [if_neg (ran j hj2), dg j hj2, show (if j < L then lt (w (a + 1 + j)) else 0) = 0 from if_neg (by omega)]
    exact if_pos rfl
theorem nmL_at {x : Int32} {i : Nat} (hi : i < 6) : nmL x (6 - i) i = (if ltF x (nI i) = -1 then [] else [ltF x (nI i)]) ++ nmL x (6 - (i + 1)) (i + 1) := by
  rw [show 6 - i = (6 - (i + 1)) + 1 by omega, nmL]
theorem nmL_z {x : Int32} {L : Nat} (h : ∀ j, L ≤ j → j < 6 → ltF x (nI j) = -1) : ∀ f i, i + f = 6 → L ≤ i → nmL x f i = [] := by
  intro f
  induction f with
  | zero => intro i _ _; rfl
  | succ f ih =>
    intro i hi hL
    rw [nmL, if_pos (h i hL (by omega)), ih (i + 1) (by omega) (by omega)]
    rfl
