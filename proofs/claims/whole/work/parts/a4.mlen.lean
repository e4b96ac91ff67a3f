/-! what a script costs, by its bytes -/
theorem runF_sp {b : Nat → Int32} {n : Nat} {k : Int32} (hk : ¬ k = 0) : ∀ f i, n < i + f → ¬ kp b n (runF (kp b n) k f i) = k := by
  intro f
  induction f with
  | zero =>
    intro i hi z
    rw [runF] at z
    rw [show kp b n i = 0 from if_pos (by omega)] at z
    exact hk z.symm
  | succ f ih =>
    intro i hi
    rw [runF]
    split
    · exact ih (i + 1) (by omega)
    · assumption
theorem tk_kp {b : Nat → Int32} {n e : Nat} {c : Int32} (h : tK b n e = c) (hc : ¬ c = 5) : kp b n (tS b n e) = c := by
  unfold tK at h
  split at h
  · exact absurd h.symm hc
  · exact h
theorem tE_2 {b : Nat → Int32} {n e : Nat} (h : tK b n e = 2) : tE b n e = runF (kp b n) 2 601 (tS b n e + 1) := by
  unfold tE
  rw [tk_kp h (by decide), if_neg (by decide), if_pos (Or.inl rfl)]
theorem tE_np {b : Nat → Int32} {n e : Nat} (h : tK b n e = 2) (hn : n ≤ 600) : ¬ kp b n (tE b n e) = 2 := by
  rw [tE_2 h]
  exact runF_sp (by decide) 601 _ (by omega)
theorem tE_gS {b : Nat → Int32} {n e : Nat} (h : tK b n e = 2) : tS b n e < tE b n e := by
  rw [tE_2 h]
  exact runF_ge _ _ _ _
theorem tS_ge {b : Nat → Int32} {n e : Nat} : e ≤ tS b n e := runF_ge _ _ _ _
theorem tS_np {b : Nat → Int32} {n e : Nat} (h : ¬ kp b n e = 2) (h2 : tK b n e = 2) : e < tS b n e := by
  have h1 : e ≤ tS b n e := tS_ge
  have h3 := tk_kp h2 (by decide)
  rcases Nat.lt_or_eq_of_le h1 with z | z
  · exact z
  · rw [← z] at h3; exact absurd h3 h
theorem sc_end {b : Nat → Int32} {n e : Nat} (h : scC (tK b n e) = 0) : tE b n e ≤ n := by
  have h4 : tK b n e = 4 := by
    unfold scC at h
    split at h
    · assumption
    · exact absurd h (by decide)
  have hk := tk_kp h4 (by decide)
  have hl := kp_0 (b := b) (n := n) (i := tS b n e) (by rw [hk]; decide)
  unfold tE
  rw [hk, if_neg (by decide), if_neg (by decide)]
  exact hl
theorem vbF_is {b : Nat → Int32} {s e v : Nat} {k : Int32} : ∀ f i, vbF b s e k f i = some v → isW b s e k (vWd v) = true := by
  intro f
  induction f with
  | zero => intro i h; cases h
  | succ f ih =>
    intro i h
    rw [vbF] at h
    split at h
    · cases h; assumption
    · exact ih _ h
theorem sqP_0 {b : Nat → Int32} {n e v e' m w : Nat} {Y : Yd} {t : St} (hB : CrB Y m w) (h : sqP b n e v Y = .inr (e', t)) (h0 : t.1 = 0) : v = 0 := by
  unfold sqP at h
  split at h
  · assumption
  exfalso
  split at h
  · obtain ⟨j, -, h⟩ := qC_in hB h
    obtain ⟨x, -, -, e9⟩ := qN_in h
    rw [e9] at h0
    exact absurd (show (1 : Nat) = 0 from h0) (by decide)
  split at h
  · obtain ⟨j, -, h⟩ := qC_in hB h
    obtain ⟨x, -, -, e9⟩ := qN_in h
    rw [e9] at h0
    exact absurd (show (2 : Nat) = 0 from h0) (by decide)
  split at h
  · obtain ⟨j, -, h⟩ := qC_in hB h
    have h := qW_in h
    obtain ⟨j2, -, h⟩ := qC_in hB h
    cases h
    exact absurd (show (3 : Nat) = 0 from h0) (by decide)
  split at h
  · obtain ⟨j, -, h⟩ := qC_in hB h
    cases h
    exact absurd (show (4 : Nat) = 0 from h0) (by decide)
  split at h
  · cases h
    exact absurd (show (5 : Nat) = 0 from h0) (by decide)
  split at h
  · obtain ⟨j, -, h⟩ := qC_in hB h
    have h := qW_in h
    obtain ⟨j2, -, h⟩ := qB_in hB h
    cases h
    exact absurd (show (6 : Nat) = 0 from h0) (by decide)
  split at h
  · obtain ⟨x, -, -, e9⟩ := qN_in h
    rw [e9] at h0
    exact absurd (show (7 : Nat) = 0 from h0) (by decide)
  · obtain ⟨x, -, -, e9⟩ := qN_in h
    rw [e9] at h0
    exact absurd (show (8 : Nat) = 0 from h0) (by decide)
theorem nn_2 {b : Nat → Int32} {n e : Nat} (h : nnC b n e = 0) : tK b n e = 2 := by
  unfold nnC at h
  split at h
  next z => exact z.1
  · exact absurd h (by decide)
theorem nb_3 {b : Nat → Int32} {n e : Nat} {lo hi : Int32} (h : nbC b n e lo hi = 0) : tK b n e = 3 := by
  unfold nbC at h
  split at h
  · assumption
  · exact absurd h (by decide)
theorem sqP_w {b : Nat → Int32} {n e e' : Nat} {Y : Yd} {t : St} (h : sqP b n e 0 Y = .inr (e', t)) : nnC b n e = 0 ∧ tK b n (tE b n e) = 3 ∧ e' = tE b n (tE b n e) ∧ ct t ≤ 50 := by
  unfold sqP at h
  rw [if_pos rfl] at h
  unfold qC at h
  split at h
  next z =>
    split at h
    · cases h
    next j hc =>
      have h : qN b n (tE b n e) 1 50 (fun x => (0, j, 0, x)) = .inr (e', t) := h
      unfold qN at h
      split at h
      next z2 =>
        cases h
        obtain ⟨k, e9, hk⟩ := x50 (nb_in z2).1 (nb_in z2).2
        refine ⟨z, nb_3 z2, rfl, ?_⟩
        show (nbV b n (tE b n e)).toNatClampNeg ≤ 50
        rw [e9, nI_clamp (by omega)]
        exact hk
      · cases h
  · cases h
theorem soF_b {b : Nat → Int32} {n e e2 l m w : Nat} {Y : Yd} {t : St} (hB : CrB Y m w) (hn : n ≤ 600) (h : soF b n Y e l = .inr (e2, t)) (k0 : ¬ tK b n e = 0) : 9 * ct t + 50 * e ≤ 50 * e2 ∧ e2 ≤ n := by
  have hg := soF_gt h k0
  unfold soF at h
  split at h
  · cases h
  next v hv =>
    split at h
    · cases h
    · split at h
      · cases h
      next e' t' hs =>
        split at h
        next hc =>
          cases h
          refine ⟨?_, sc_end hc⟩
          by_cases h0 : t.1 = 0
          · have v0 := sqP_0 hB hs h0
            subst v0
            obtain ⟨q1, q2, q3, q4⟩ := sqP_w hs
            have hw := vbF_is 9 0 hv
            unfold isW at hw
            rw [Bool.and_eq_true, Bool.and_eq_true, decide_eq_true_eq, decide_eq_true_eq] at hw
            obtain ⟨w1, w2, -⟩ := hw
            have w3 : sLn (vWd 0) = 5 := by decide +kernel
            have a1 : e ≤ tS b n e := tS_ge
            have a2 := nn_2 q1
            have a3 := tS_np (tE_np w1 hn) a2
            have a4 := tE_gS a2
            have a5 : ¬ tK b n (tE b n (tE b n e)) = 0 := by rw [q2]; decide
            have a6 := tE_gt a5
            have a7 := tE_gtC hc
            omega
          · have : ct t = 1 := if_neg h0
            omega
        · cases h
theorem scQ_c {b : Nat → Int32} {n m w : Nat} {Y : Yd} (hB : CrB Y m w) (hn : n ≤ 600) : ∀ (f e : Nat) (ac ts : List St), e ≤ n → scQ b n Y f e ac = .inr ts → 9 * ctL ts + 50 * e ≤ 9 * ctL ac + 50 * n := by
  intro f
  induction f with
  | zero =>
    intro e ac ts he h
    cases h
    omega
  | succ f ih =>
    intro e ac ts he h
    rw [scQ_s] at h
    by_cases k0 : tK b n e = 0
    · rw [if_pos k0] at h
      cases h
      omega
    · rw [if_neg k0] at h
      cases es : soF b n Y e ac.length with
      | inl x => simp only [es] at h; cases h
      | inr x =>
        obtain ⟨e2, t⟩ := x
        simp only [es] at h
        obtain ⟨g1, g2⟩ := soF_b hB hn es k0
        have g3 := ih e2 (ac ++ [t]) ts g2 h
        have g4 : ctL (ac ++ [t]) = ctL ac + ct t := by
          unfold ctL
          rw [List.map_append, List.sum_append]
          rfl
        omega
theorem ctS_b {S : KS} {m w : Nat} (hB : CrB (kY S) m w) (hn : kN S ≤ 600) : 9 * ctS S ≤ 50 * kN S := by
  unfold ctS
  cases es : scQ (kB S) (kN S) (kY S) 600 0 [] with
  | inl x => dsimp only; omega
  | inr ts =>
    have h := scQ_c hB hn 600 0 [] ts (Nat.zero_le _) es
    have e0 : ctL [] = 0 := rfl
    dsimp only
    omega
