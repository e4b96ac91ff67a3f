/-! the children in their order, counted and found; what the two yards keep -/
/-- the children behind stamp t, in their order -/
def Sfx (Y : Yd) (o : Nat) (t : Int32) (l : List Nat) : Prop := (∀ c, c ∈ l ↔ c < 16 ∧ yP Y c = some o ∧ t.toInt < (yC Y c 6).toInt) ∧ l.Pairwise (fun a b => (yC Y a 6).toInt < (yC Y b 6).toInt)
section SFX
variable {Y : Yd} {o : Nat} {t : Int32}
theorem Sfx.nil (h : Sfx Y o t []) : caF Y o t 16 0 none = none := by
  have hx := caF_nx Y o t
  cases e : caF Y o t 16 0 none with
  | none => rfl
  | some c =>
    rw [e] at hx
    exact absurd ((h.1 c).mpr ⟨hx.1, hx.2.1, hx.2.2.1⟩) (fun z => nomatch z)
theorem Sfx.cons {x : Nat} {l : List Nat} (h : Sfx Y o t (x :: l)) : caF Y o t 16 0 none = some x ∧ yP Y x = some o ∧ Sfx Y o (yC Y x 6) l := by
  have hx := caF_nx Y o t
  obtain ⟨x1, x2, x3⟩ := (h.1 x).mp List.mem_cons_self
  have hp := List.pairwise_cons.mp h.2
  refine ⟨?_, x2, fun c => ⟨fun hc => ?_, fun hc => ?_⟩, hp.2⟩
  · cases e : caF Y o t 16 0 none with
    | none => rw [e] at hx; exact absurd x3 (hx x x1 x2)
    | some c =>
      rw [e] at hx
      have hm := (h.1 c).mpr ⟨hx.1, hx.2.1, hx.2.2.1⟩
      rcases List.mem_cons.mp hm with rfl | hm
      · rfl
      · have h1 := hp.1 c hm
        have h2 := hx.2.2.2 x x1 x2 x3
        omega
  · have h1 := (h.1 c).mp (List.mem_cons_of_mem _ hc)
    exact ⟨h1.1, h1.2.1, hp.1 c hc⟩
  · have h1 := (h.1 c).mpr ⟨hc.1, hc.2.1, by have := hc.2.2; omega⟩
    rcases List.mem_cons.mp h1 with rfl | h1
    · exact absurd hc.2.2 (Int.lt_irrefl _)
    · exact h1
theorem cc_l : ∀ (l : List Nat) (t : Int32) (f a : Nat), Sfx Y o t l → l.length < f → ccF Y f (caF Y o t 16 0 none) a = a + l.length := by
  intro l
  induction l with
  | nil =>
    intro t f a h hf
    rw [h.nil]
    cases f with
    | zero => rfl
    | succ f => rfl
  | cons x l ih =>
    intro t f a h hf
    obtain ⟨h1, h2, h3⟩ := h.cons
    rw [h1]
    cases f with
    | zero => exact absurd hf (Nat.not_lt_zero _)
    | succ f =>
      rw [ccF]
      show ccF Y f (nCh Y x) (a + 1) = _
      rw [List.length_cons] at hf ⊢
      rw [nCh_e h2, ih _ f (a + 1) h3 (by omega)]
      omega
theorem co_l : ∀ (l : List Nat) (t : Int32) (f a j c : Nat), Sfx Y o t l → l.length < f → a + l.length < 2 ^ 31 → l[j]? = some c → coF Y f (caF Y o t 16 0 none) a (nI (a + j)) = nI c := by
  intro l
  induction l with
  | nil =>
    intro t f a j c h hf ha hj
    cases hj
  | cons x l ih =>
    intro t f a j c h hf ha hj
    obtain ⟨h1, h2, h3⟩ := h.cons
    rw [h1]
    rw [List.length_cons] at hf ha
    cases f with
    | zero => exact absurd hf (Nat.not_lt_zero _)
    | succ f =>
      rw [coF]
      show (if nI a = nI (a + j) then nI x else coF Y f (nCh Y x) (a + 1) (nI (a + j))) = nI c
      cases j with
      | zero =>
        rw [if_pos (show nI a = nI (a + 0) from rfl)]
        cases hj; rfl
      | succ j =>
        have hj2 : l[j]? = some c := hj
        have hl := (List.getElem?_eq_some_iff.mp hj2).1
        rw [if_neg (fun z => by have := (nI_inj (by omega) (by omega)).mp z; omega), nCh_e h2, show a + (j + 1) = a + 1 + j by omega]
        exact ih _ f (a + 1) j c h3 (by omega) (by omega) hj2
theorem ChR.sfx {k : Nat} {l : List Nat} (h : ChR Y k l) (hD : SbD Y) : Sfx Y k 0 l := by
  have e0 : (0 : Int32).toInt = 0 := by decide
  refine ⟨fun c => ⟨fun hc => ?_, fun hc => (h.1 c).mpr ⟨hc.1, hc.2.1⟩⟩, h.2⟩
  have h1 := (h.1 c).mp hc
  exact ⟨h1.1, h1.2, by rw [e0]; exact hD.1 c h1.1 k h1.2⟩
theorem nd_len : ∀ (n : Nat) (l : List Nat), l.Nodup → (∀ c, c ∈ l → c < n) → l.length ≤ n := by
  intro n
  induction n with
  | zero =>
    intro l _ h
    cases l with
    | nil => exact Nat.le_refl _
    | cons x l => exact absurd (h x List.mem_cons_self) (Nat.not_lt_zero _)
  | succ n ih =>
    intro l hd h
    have h2 : (l.erase n).length ≤ n := ih _ (hd.erase n) fun c hc => by
      have h3 := h c (List.mem_of_mem_erase hc)
      have h4 : c ≠ n := fun z => by
        rw [z] at hc
        exact absurd hc (hd.not_mem_erase)
      omega
    have h3 : l.length ≤ (l.erase n).length + 1 := by
      rw [List.length_erase]
      split <;> omega
    omega
end SFX
/-- money, tolerance and trust of the one buyer -/
def MI9 (W : LW) (T : Nat) : Prop := ∃ mo tol tr, wYs W 7 = nI mo ∧ wYs W 8 = nI tol ∧ wYs W 9 = nI tr ∧ mo ≤ 200 + 2000000 * T ∧ tol ≤ 3 ∧ tr ≤ 100
/-- what isConsistent counts -/
def CI9 (Y : Yd) : Prop := yT Y 0 = sm (fun i => yC Y i 8) 16 + yT Y 1 ∧ yB Y 0 2 + (yT Y 4 - yT Y 5) = yT Y 6
def IV (Y : Yd) (W : LW) (T : Nat) : Prop := RY Y W ∧ PV Y (wN W) 1 T ∧ T ≤ 39 ∧ 2 ≤ wN W ∧ (∀ k, k < wN W → (wR W k).length ≤ T) ∧ MI9 W T ∧ CI9 Y
section IVS
variable {Y : Yd} {W : LW} {T k : Nat}
theorem IV.ry (h : IV Y W T) : RY Y W := h.1
theorem IV.pv (h : IV Y W T) : PV Y (wN W) 1 T := h.2.1
theorem IV.t39 (h : IV Y W T) : T ≤ 39 := h.2.2.1
theorem IV.n2 (h : IV Y W T) : 2 ≤ wN W := h.2.2.2.1
theorem IV.n9 (h : IV Y W T) : wN W ≤ 9 := h.1.1.2.1
theorem IV.rl (h : IV Y W T) (hk : k < wN W) : (wR W k).length ≤ T := h.2.2.2.2.1 k hk
theorem IV.mi (h : IV Y W T) : MI9 W T := h.2.2.2.2.2.1
theorem IV.ci (h : IV Y W T) : CI9 Y := h.2.2.2.2.2.2
theorem IV.rc (h : IV Y W T) (hk : k < wN W) : RC Y W k := h.1.1.2.2.2.1 k hk
theorem IV.pw (h : IV Y W T) : yP Y = wP W := h.1.1.2.2.1
theorem IV.hp (h : IV Y W T) : ∀ i j, i < 16 → yP Y i = some j → i < wN W ∧ j < wN W := fun i j hi e => h.pv.p hi e
theorem IV.tr9 (h : IV Y W T) : TR9 Y W := h.1.1.tr h.pv.acy h.hp
theorem IV.kc (h : IV Y W T) (hk : k < wN W) : kC Y (nI k) = some k := by
  have h9 := h.n9
  have h4 := h.pv.f4
  have e16 : (16 : Int32) = nI 16 := rfl
  unfold kC
  rw [if_neg, nI_clamp (by omega)]
  rintro (z | z | z)
  · exact nI_pos (by omega) z
  · rw [h4] at z
    exact absurd (nI_lt hk (by omega)) (Int32.not_lt.mpr z)
  · rw [e16] at z
    exact absurd (nI_lt (show k < 16 by omega) (by omega)) (Int32.not_lt.mpr z)
theorem IV.ku (h : IV Y W T) : kU Y 0 = some 0 := by
  have h5 := h.pv.f5
  unfold kU
  rw [if_neg, show (0 : Int32).toNatClampNeg = 0 by decide]
  rw [h5]
  decide
theorem IV.hg (h : IV Y W T) (hk : k < wN W) : hgK W 5 k := hg_5 h.tr9 hk
theorem IV.gr (h : IV Y W T) (hk : k < wN W) : grF W 5 k = yC Y k 4 := gr_e h.tr9 h.pv.l (fun i hi => ⟨(h.rc hi).2.1, (h.rc hi).2.2.1⟩) 5 k hk (h.hg hk)
theorem IV.ns (h : IV Y W T) (hk : k < wN W) : nsF W 5 k ≤ 9 := by
  have h1 := ns_le h.tr9 5 k hk
  have h2 := ds_le h.tr9 hk
  have h3 := h.n9
  omega
theorem IV.ac (h : IV Y W T) (hk : k < wN W) : acyO 5 (wP W) (wP W k) := by
  have := h.pv.acy k (by have := h.n9; omega)
  rw [h.pw] at this
  exact this
theorem IV.mn (h : IV Y W T) (hk : k < wN W) (he : wR W k ≠ []) : ¬ yC Y k 8 = 0 ∧ mnOk (smR (wR W k) 0) (nI (wR W k).length) ∧ yMean Y k = mnL (smR (wR W k) 0) (nI (wR W k).length) := by
  obtain ⟨c1, c2, c3, c4, c5, c6, c7, c8, c9, c10, c11⟩ := h.rc hk
  have hl0 : 0 < (wR W k).length := List.length_pos_iff.mpr he
  have hl := h.rl hk
  have hT := h.t39
  obtain ⟨m1, m2⟩ := mean_e c11 hl0 (by omega)
  refine ⟨?_, m1, ?_⟩
  · rw [c6]
    intro z
    have := (nI_inj (b := 0) (by omega) (by omega)).mp z
    omega
  · unfold yMean
    rw [c6, c7, m2]
theorem IV.wh (h : IV Y W T) : WH Y W := by
  have hT := h.t39
  have hD : SbD Y := h.pv.sb (by omega)
  have hS := h.1.1.2.2.2.2.1
  have hR := h.1.1.2.2.2.2.2
  obtain ⟨-, -, ⟨q, q1, q2, q3⟩, -⟩ := h.pv.f
  have hq3 : wYs W 3 = nI q := by rw [← hS.2.2.1, q1]
  have h91 := h.n9
  refine ⟨h.pv.acy, ⟨h.pv.a.1, fun i hi j e => ?_⟩, chE_all hD, h.ku, ?_, hS.2.2.2, ?_, hR.1, h.1.2, hR.2.1, hR.2.2.2.1, hR.2.2.2.2.1, hR.2.2.2.2.2.1, hS.2.1, fun k hk => ?_⟩
  · rw [h.pv.f4]
    exact Int32.not_le.mpr (nI_lt (h.hp i j hi e).2 (by omega))
  · rw [hq3]
    intro z
    have := (nI_inj (b := 0) (by omega) (by omega)).mp z
    omega
  · unfold fSag
    rw [hS.2.2.1, hS.2.2.2, if_neg]
    rw [hq3]
    intro z
    exact absurd (Int32.lt_iff_toInt_lt.mp z) (by rw [nI_toInt (by omega), show (1 : Int32).toInt = 1 by decide]; omega)
  · have hk16 : k < 16 := by omega
    have c := h.rc hk
    obtain ⟨c1, c2, c3, c4, c5, c6, c7, c8, c9, c10, c11⟩ := c
    have hs := c5.sfx hD
    have hl : (wC W k).length ≤ 16 := nd_len 16 _ c5.nd fun x hx => ((c5.1 x).mp hx).1
    refine ⟨h.kc hk, c1, h.hg hk, (h.gr hk).symm, c3, ?_, h.ac hk, ?_, ?_, ?_, c6, ?_, fun he => ?_, h.ns hk⟩
    · unfold pIx pxW
      rw [h.pw]
      rfl
    · unfold dp
      rw [h.pw]
    · have := cc_l (wC W k) 0 17 0 hs (by omega)
      rw [Nat.zero_add] at this
      exact this
    · rw [c4]
      rcases h.pv.a.1 k hk16 with z | z <;> rw [z] <;> decide
    · intro j x hj
      have := co_l (wC W k) 0 17 0 j x hs (by omega) (by omega) hj
      rw [Nat.zero_add] at this
      exact this
    · obtain ⟨m0, m1, m2⟩ := h.mn hk he
      exact ⟨m0, m1, m2, c8⟩
end IVS
