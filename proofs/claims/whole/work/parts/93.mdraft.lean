/-! drafts of yards, and the model's array -/
/-- no readings yet -/
def ZR (Y : Yd) : Prop := ∀ i, i < 16 → yC Y i 8 = 0 ∧ yL Y i 9 = 0 ∧ yL Y i 10 = 0 ∧ yC Y i 11 = 0 ∧ yC Y i 12 = 0
def DR (Y : Yd) (m b : Nat) (w : Nat → Int32) : Prop := RW (uT Y 6 0) m b m w ∧ PV Y m b m ∧ ZR Y ∧ (∀ f, f < 6 → yT Y f = 0) ∧ yT Y 6 = moF Y 6 0 0
theorem RW.hd {Y Y' : Yd} {m b K : Nat} {w w' : Nat → Int32} (h : RW Y m b K w) (hw : ∀ x, (x = 0 ∨ 15 ≤ x) → w' x = w x) (hH : RH Y' w') (e1 : yC Y' = yC Y) (e2 : yL Y' = yL Y) (e3 : yP Y' = yP Y) (e4 : yB Y' = yB Y) : RW Y' m b K w' := by
  obtain ⟨⟨t1, t2, t3, t4⟩, -, d1, g1, b1, ⟨n1, n2⟩, s1, ⟨k, k1, k2, k3⟩, bl⟩ := h
  refine ⟨⟨t1, by rw [hw 0 (by omega)]; exact t2, fun k hk => by rw [hw _ (by omega), t3 k hk]; unfold pIx; rw [e3], by rw [e3]; exact t4⟩, hH, fun i hi => ?_, fun i hi => ?_, fun j hj => ?_, ⟨fun i hi => ?_, fun j hj => ?_⟩, ?_, ⟨k, by rw [hw 15 (by omega)]; exact k1, k2, fun i hi => ?_⟩, bl⟩
  · obtain ⟨q1, q2, q3, q4, q5, q6⟩ := d1 i hi
    rw [RD, e1, e2]
    exact ⟨by rw [hw _ (by omega)]; exact q1, by rw [hw _ (by omega)]; exact q2, by rw [hw _ (by omega)]; exact q3, by rw [hw _ (by omega)]; exact q4, by rw [hw _ (by omega)]; exact q5, by rw [hw _ (by omega)]; exact q6⟩
  · obtain ⟨q1, q2, q3⟩ := g1 i hi
    rw [e1]
    exact ⟨by rw [hw _ (by omega)]; exact q1, by rw [hw _ (by omega)]; exact q2, by rw [hw _ (by omega)]; exact q3⟩
  · obtain ⟨q1, q2, q3, q4⟩ := b1 j hj
    rw [e4]
    exact ⟨by rw [hw _ (by omega)]; exact q1, by rw [hw _ (by omega)]; exact q2, by rw [hw _ (by omega)]; exact q3, by rw [hw _ (by omega)]; exact q4⟩
  · rw [e1]
    exact (n1 i hi).eq fun j hj => hw _ (by omega)
  · rw [e4]
    exact (n2 j hj).eq fun i hi => hw _ (by omega)
  · unfold SW at s1 ⊢
    rw [e1, e3]
    intro i j hi hj o p q
    rw [hw _ (by omega), hw _ (by omega)]
    exact s1 i j hi hj p q
  · obtain ⟨s, x1, x2⟩ := k3 i hi
    exact ⟨s, x1, by rw [hw _ (by omega)]; exact x2⟩
/-- letters of a name not yet in use -/
theorem RW.ltC {Y : Yd} {m b K : Nat} {w w' : Nat → Int32} (h : RW Y m b K w) (hw : ∀ x, ¬ (16 + 18 * m + 1 ≤ x ∧ x ≤ 16 + 18 * m + 6) → w' x = w x) (hm : m < 16) : RW Y m b K w' := by
  obtain ⟨⟨t1, t2, t3, t4⟩, ⟨a1, a2, a3, a4, a5, a6, a7, a8, a9, a10, a11, a12, a13, a14⟩, d1, g1, b1, ⟨n1, n2⟩, s1, ⟨k, k1, k2, k3⟩, bl⟩ := h
  refine ⟨⟨t1, by rw [hw 0 (by omega)]; exact t2, fun k hk => by rw [hw _ (by omega)]; exact t3 k hk, t4⟩, ⟨by rw [hw 1 (by omega)]; exact a1, by rw [hw 2 (by omega)]; exact a2, by rw [hw 3 (by omega)]; exact a3, by rw [hw 4 (by omega)]; exact a4, by rw [hw 5 (by omega)]; exact a5, by rw [hw 6 (by omega)]; exact a6, by rw [hw 7 (by omega)]; exact a7, by rw [hw 8 (by omega)]; exact a8, by rw [hw 9 (by omega)]; exact a9, by rw [hw 10 (by omega)]; exact a10, by rw [hw 11 (by omega)]; exact a11, by rw [hw 12 (by omega)]; exact a12, by rw [hw 13 (by omega)]; exact a13, by rw [hw 14 (by omega)]; exact a14⟩, fun i hi => ?_, fun i hi => ?_, fun j hj => ?_, ⟨fun i hi => (n1 i hi).eq fun j hj => hw _ (by omega), fun j hj => (n2 j hj).eq fun i hi => hw _ (by omega)⟩, fun i j hi hj o p q => ?_, ⟨k, by rw [hw 15 (by omega)]; exact k1, k2, fun i hi => ?_⟩, bl⟩
  · obtain ⟨q1, q2, q3, q4, q5, q6⟩ := d1 i hi
    exact ⟨by rw [hw _ (by omega)]; exact q1, by rw [hw _ (by omega)]; exact q2, by rw [hw _ (by omega)]; exact q3, by rw [hw _ (by omega)]; exact q4, by rw [hw _ (by omega)]; exact q5, by rw [hw _ (by omega)]; exact q6⟩
  · obtain ⟨q1, q2, q3⟩ := g1 i hi
    exact ⟨by rw [hw _ (by omega)]; exact q1, by rw [hw _ (by omega)]; exact q2, by rw [hw _ (by omega)]; exact q3⟩
  · obtain ⟨q1, q2, q3, q4⟩ := b1 j hj
    exact ⟨by rw [hw _ (by omega)]; exact q1, by rw [hw _ (by omega)]; exact q2, by rw [hw _ (by omega)]; exact q3, by rw [hw _ (by omega)]; exact q4⟩
  · rw [hw _ (by omega), hw _ (by omega)]
    exact s1 i j hi hj p q
  · obtain ⟨s, x1, x2⟩ := k3 i hi
    exact ⟨s, x1, by rw [hw _ (by omega)]; exact x2⟩
theorem RW.ltB {Y : Yd} {m b K : Nat} {w w' : Nat → Int32} (h : RW Y m b K w) (hw : ∀ x, ¬ (304 + 11 * b + 1 ≤ x ∧ x ≤ 304 + 11 * b + 6) → w' x = w x) (hb : b < 6) : RW Y m b K w' := by
  obtain ⟨⟨t1, t2, t3, t4⟩, ⟨a1, a2, a3, a4, a5, a6, a7, a8, a9, a10, a11, a12, a13, a14⟩, d1, g1, b1, ⟨n1, n2⟩, s1, ⟨k, k1, k2, k3⟩, bl⟩ := h
  refine ⟨⟨t1, by rw [hw 0 (by omega)]; exact t2, fun k hk => by rw [hw _ (by omega)]; exact t3 k hk, t4⟩, ⟨by rw [hw 1 (by omega)]; exact a1, by rw [hw 2 (by omega)]; exact a2, by rw [hw 3 (by omega)]; exact a3, by rw [hw 4 (by omega)]; exact a4, by rw [hw 5 (by omega)]; exact a5, by rw [hw 6 (by omega)]; exact a6, by rw [hw 7 (by omega)]; exact a7, by rw [hw 8 (by omega)]; exact a8, by rw [hw 9 (by omega)]; exact a9, by rw [hw 10 (by omega)]; exact a10, by rw [hw 11 (by omega)]; exact a11, by rw [hw 12 (by omega)]; exact a12, by rw [hw 13 (by omega)]; exact a13, by rw [hw 14 (by omega)]; exact a14⟩, fun i hi => ?_, fun i hi => ?_, fun j hj => ?_, ⟨fun i hi => (n1 i hi).eq fun j hj => hw _ (by omega), fun j hj => (n2 j hj).eq fun i hi => hw _ (by omega)⟩, fun i j hi hj o p q => ?_, ⟨k, by rw [hw 15 (by omega)]; exact k1, k2, fun i hi => ?_⟩, bl⟩
  · obtain ⟨q1, q2, q3, q4, q5, q6⟩ := d1 i hi
    exact ⟨by rw [hw _ (by omega)]; exact q1, by rw [hw _ (by omega)]; exact q2, by rw [hw _ (by omega)]; exact q3, by rw [hw _ (by omega)]; exact q4, by rw [hw _ (by omega)]; exact q5, by rw [hw _ (by omega)]; exact q6⟩
  · obtain ⟨q1, q2, q3⟩ := g1 i hi
    exact ⟨by rw [hw _ (by omega)]; exact q1, by rw [hw _ (by omega)]; exact q2, by rw [hw _ (by omega)]; exact q3⟩
  · obtain ⟨q1, q2, q3, q4⟩ := b1 j hj
    exact ⟨by rw [hw _ (by omega)]; exact q1, by rw [hw _ (by omega)]; exact q2, by rw [hw _ (by omega)]; exact q3, by rw [hw _ (by omega)]; exact q4⟩
  · rw [hw _ (by omega), hw _ (by omega)]
    exact s1 i j hi hj p q
  · obtain ⟨s, x1, x2⟩ := k3 i hi
    exact ⟨s, x1, by rw [hw _ (by omega)]; exact x2⟩
/-- a crate more -/
def acW (w : Nat → Int32) (m : Nat) (L ta go p : Int32) : Nat → Int32 :=
  upW (upW (upW (upW (upW (upW (upW w (16 + 18 * m + 0) L) (16 + 18 * m + 7) ta) (16 + 18 * m + 8) go) (16 + 18 * m + 9) p) (16 + 18 * m + 10) (w 15)) 15 (w 15 + 1)) 0 (nI (m + 1))
theorem acW_o {w : Nat → Int32} {m x : Nat} {L ta go p : Int32} (h : x ≠ 0 ∧ x ≠ 15 ∧ x ≠ 16 + 18 * m ∧ ¬ (16 + 18 * m + 7 ≤ x ∧ x ≤ 16 + 18 * m + 10)) : acW w m L ta go p x = w x := by
  unfold acW
  simp (disch := omega) only [upW_n]
theorem acW_c {w : Nat → Int32} {m : Nat} {L ta go p : Int32} : acW w m L ta go p 0 = nI (m + 1) ∧ acW w m L ta go p 15 = w 15 + 1 ∧ acW w m L ta go p (16 + 18 * m) = L ∧ acW w m L ta go p (16 + 18 * m + 7) = ta ∧ acW w m L ta go p (16 + 18 * m + 8) = go ∧ acW w m L ta go p (16 + 18 * m + 9) = p ∧ acW w m L ta go p (16 + 18 * m + 10) = w 15 := by
  unfold acW
  refine ⟨?_, ?_, ?_, ?_, ?_, ?_, ?_⟩ <;> simp (disch := omega) only [upW_n, upW_s, Nat.add_zero]
theorem RW.ac {Y Y' : Yd} {m b : Nat} {w : Nat → Int32} {L : Nat} {nm ta go : Int32} {po : Option Nat} (h : RW Y m b m w) (hm : m < 16) (hpo : ∀ j, po = some j → j < m)
    (e1 : ∀ i f, (f = 1 ∨ f = 2 ∨ f = 3 ∨ f = 7 ∨ f = 8 ∨ f = 11 ∨ f = 12) → i ≠ m → yC Y' i f = yC Y i f) (e2 : yC Y' m 1 = nm ∧ yC Y' m 2 = ta ∧ yC Y' m 3 = go ∧ yC Y' m 7 = 1 ∧ yC Y' m 8 = yC Y m 8 ∧ yC Y' m 11 = yC Y m 11 ∧ yC Y' m 12 = yC Y m 12)
    (e3 : ∀ i f, yL Y' i f = yL Y i f) (e4 : ∀ i, yP Y' i = if i = m then po else yP Y i) (e5 : yS Y' = yS Y) (e6 : yB Y' = yB Y) (e7 : ∀ f, yT Y' f = yT Y f) (e8 : ∀ f, f = 5 ∨ f = 6 ∨ f = 7 → yF Y' f = yF Y f)
    (e9 : ∀ i, i < m → yC Y' i 6 = yC Y i 6) (e0 : ∀ j, po = some j → ∀ i, i < m → yP Y i ≠ none → (yC Y i 6).toInt < (yC Y' m 6).toInt)
    (hN : NW nm (acW w m (nI L) ta go (px po)) (16 + 18 * m)) : RW Y' (m + 1) b (m + 1) (acW w m (nI L) ta go (px po)) := by
  obtain ⟨⟨t1, t2, t3, t4⟩, ⟨a1, a2, a3, a4, a5, a6, a7, a8, a9, a10, a11, a12, a13, a14⟩, d1, g1, b1, ⟨n1, n2⟩, s1, ⟨k, k1, k2, k3⟩, bl⟩ := h
  obtain ⟨c0, c15, cL, c7, c8, c9, c10⟩ := @acW_c w m (nI L) ta go (px po)
  have ho : ∀ x, (x ≠ 0 ∧ x ≠ 15 ∧ x ≠ 16 + 18 * m ∧ ¬ (16 + 18 * m + 7 ≤ x ∧ x ≤ 16 + 18 * m + 10)) → acW w m (nI L) ta go (px po) x = w x := fun x hx => acW_o hx
  refine ⟨⟨by omega, c0, fun i hi => ?_, fun i j hi e => ?_⟩, ⟨?_, ?_, ?_, ?_, ?_, ?_, ?_, ?_, ?_, ?_, ?_, ?_, ?_, ?_⟩, fun i hi => ?_, fun i hi => ?_, fun j hj => ?_, ⟨fun i hi => ?_, fun j hj => ?_⟩, fun i j hi hj o p q => ?_, ⟨k + 1, by rw [c15, k1, nI_s1], by omega, fun i hi => ?_⟩, bl⟩
  · rw [pIx_e, e4]
    by_cases z : i = m
    · rw [z, if_pos rfl]; exact c9
    · rw [if_neg z, ho _ (by omega), t3 i (by omega), pIx_e]
  · rw [e4] at e
    by_cases z : i = m
    · rw [if_pos z] at e
      have := hpo j e
      omega
    · rw [if_neg z] at e
      have := t4 i j hi e
      omega
  · rw [ho 1 (by omega), e8 5 (by omega)]; exact a1
  · rw [ho 2 (by omega), e5]; exact a2
  · rw [ho 3 (by omega), e5]; exact a3
  · rw [ho 4 (by omega), e5]; exact a4
  · rw [ho 5 (by omega), e8 6 (by omega)]; exact a5
  · rw [ho 6 (by omega), e8 7 (by omega)]; exact a6
  · rw [ho 7 (by omega), e5]; exact a7
  · rw [ho 8 (by omega), e7]; exact a8
  · rw [ho 9 (by omega), e7]; exact a9
  · rw [ho 10 (by omega), e7]; exact a10
  · rw [ho 11 (by omega), e7]; exact a11
  · rw [ho 12 (by omega), e7]; exact a12
  · rw [ho 13 (by omega), e7]; exact a13
  · rw [ho 14 (by omega), e7]; exact a14
  · obtain ⟨q1, q2, q3, q4, q5, q6⟩ := d1 i hi
    have k8 : yC Y' i 8 = yC Y i 8 := by
      by_cases z : i = m
      · rw [z]; exact e2.2.2.2.2.1
      · exact e1 i 8 (by omega) z
    have k11 : yC Y' i 11 = yC Y i 11 := by
      by_cases z : i = m
      · rw [z]; exact e2.2.2.2.2.2.1
      · exact e1 i 11 (by omega) z
    have k12 : yC Y' i 12 = yC Y i 12 := by
      by_cases z : i = m
      · rw [z]; exact e2.2.2.2.2.2.2
      · exact e1 i 12 (by omega) z
    rw [RD, k8, k11, k12, e3, e3]
    exact ⟨by rw [ho _ (by omega)]; exact q1, by rw [ho _ (by omega)]; exact q2, by rw [ho _ (by omega)]; exact q3, by rw [ho _ (by omega)]; exact q4, by rw [ho _ (by omega)]; exact q5, by rw [ho _ (by omega)]; exact q6⟩
  · obtain ⟨q1, q2, q3⟩ := g1 i hi
    by_cases z : i = m
    · subst z
      rw [e2.2.1, e2.2.2.1, e2.2.2.2.1, c7, c8, ho _ (by omega), q3]
      exact ⟨rfl, rfl, by rw [if_neg (by omega), if_neg (fun q => absurd q.2 (by decide))]⟩
    · rw [e1 i 2 (by omega) z, e1 i 3 (by omega) z, e1 i 7 (by omega) z, ho _ (by omega), ho _ (by omega), ho _ (by omega), q3]
      refine ⟨q1, q2, ?_⟩
      by_cases y : i < m ∧ yC Y i 7 = 0
      · rw [if_pos y, if_pos ⟨by omega, y.2⟩]
      · rw [if_neg y, if_neg (fun q => y ⟨by omega, q.2⟩)]
  · obtain ⟨q1, q2, q3, q4⟩ := b1 j hj
    rw [e6]
    exact ⟨by rw [ho _ (by omega)]; exact q1, by rw [ho _ (by omega)]; exact q2, by rw [ho _ (by omega)]; exact q3, by rw [ho _ (by omega)]; exact q4⟩
  · by_cases z : i = m
    · rw [z, e2.1]; exact hN
    · rw [e1 i 1 (by omega) z]
      exact (n1 i (by omega)).eq fun j hj => ho _ (by omega)
  · rw [e6]
    exact (n2 j hj).eq fun i hi => ho _ (by omega)
  · rw [e4] at p q
    have st : ∀ i, i < m → acW w m (nI L) ta go (px po) (16 + 18 * i + 10) = w (16 + 18 * i + 10) := fun i hi => ho _ (by omega)
    by_cases z : i = m
    · by_cases y : j = m
      · subst z; subst y
        exact ⟨fun q => (Int32.lt_irrefl q).elim, fun q => absurd q (Int.lt_irrefl _)⟩
      · subst z
        rw [if_pos rfl] at p
        rw [if_neg y] at q
        obtain ⟨s, x1, x2⟩ := k3 j (by omega)
        have := e0 o p j (by omega) (by rw [q]; exact fun z => nomatch z)
        rw [c10, st j (by omega), x2, k1, e9 j (by omega)]
        exact ⟨fun q => absurd q (nI_nlt (by omega) (by omega)), fun q => by omega⟩
    · by_cases y : j = m
      · subst y
        rw [if_pos rfl] at q
        rw [if_neg z] at p
        obtain ⟨s, x1, x2⟩ := k3 i (by omega)
        have := e0 o q i (by omega) (by rw [p]; exact fun z => nomatch z)
        rw [c10, st i (by omega), x2, k1, e9 i (by omega)]
        exact ⟨fun _ => this, fun _ => nI_lt x1 (by omega)⟩
      · rw [if_neg z] at p
        rw [if_neg y] at q
        rw [st i (by omega), st j (by omega), e9 i (by omega), e9 j (by omega)]
        exact s1 i j (by omega) (by omega) p q
  · by_cases z : i = m
    · exact ⟨k, by omega, by rw [z, c10]; exact k1⟩
    · obtain ⟨s, x1, x2⟩ := k3 i (by omega)
      exact ⟨s, by omega, by rw [ho _ (by omega)]; exact x2⟩
/-- a buyer more -/
def abW (w : Nat → Int32) (b : Nat) (L mo to tr : Int32) : Nat → Int32 :=
  upW (upW (upW (upW (upW w (304 + 11 * b + 0) L) (304 + 11 * b + 7) mo) (304 + 11 * b + 8) to) (304 + 11 * b + 9) tr) 1 (nI (b + 1))
theorem abW_o {w : Nat → Int32} {b x : Nat} {L mo to tr : Int32} (h : x ≠ 1 ∧ x ≠ 304 + 11 * b ∧ ¬ (304 + 11 * b + 7 ≤ x ∧ x ≤ 304 + 11 * b + 9)) : abW w b L mo to tr x = w x := by
  unfold abW
  simp (disch := omega) only [upW_n]
theorem abW_c {w : Nat → Int32} {b : Nat} {L mo to tr : Int32} : abW w b L mo to tr 1 = nI (b + 1) ∧ abW w b L mo to tr (304 + 11 * b) = L ∧ abW w b L mo to tr (304 + 11 * b + 7) = mo ∧ abW w b L mo to tr (304 + 11 * b + 8) = to ∧ abW w b L mo to tr (304 + 11 * b + 9) = tr := by
  unfold abW
  refine ⟨?_, ?_, ?_, ?_, ?_⟩ <;> simp (disch := omega) only [upW_n, upW_s, Nat.add_zero]
theorem RW.ab {Y Y' : Yd} {m b K : Nat} {w : Nat → Int32} {L : Nat} {nm mo to tr : Int32} (h : RW Y m b K w) (hb : b < 6) (e1 : yC Y' = yC Y) (e3 : yL Y' = yL Y) (e4 : yP Y' = yP Y) (e5 : yS Y' = yS Y) (e6 : ∀ j f, yB Y' j f = if j = b ∧ f = 4 then tr else if j = b ∧ f = 3 then to else if j = b ∧ f = 2 then mo else if j = b ∧ f = 1 then nm else yB Y j f) (e7 : ∀ f, yT Y' f = yT Y f) (e8 : yF Y' 5 = nI (b + 1) ∧ yF Y' 6 = yF Y 6 ∧ yF Y' 7 = yF Y 7) (hN : NW nm (abW w b (nI L) mo to tr) (304 + 11 * b)) : RW Y' m (b + 1) K (abW w b (nI L) mo to tr) := by
  obtain ⟨⟨t1, t2, t3, t4⟩, ⟨a1, a2, a3, a4, a5, a6, a7, a8, a9, a10, a11, a12, a13, a14⟩, d1, g1, b1, ⟨n1, n2⟩, s1, ⟨k, k1, k2, k3⟩, bl⟩ := h
  obtain ⟨c1, cL, c7, c8, c9⟩ := @abW_c w b (nI L) mo to tr
  have ho : ∀ x, (x ≠ 1 ∧ x ≠ 304 + 11 * b ∧ ¬ (304 + 11 * b + 7 ≤ x ∧ x ≤ 304 + 11 * b + 9)) → abW w b (nI L) mo to tr x = w x := fun x hx => abW_o hx
  refine ⟨⟨t1, by rw [ho 0 (by omega)]; exact t2, fun i hi => by rw [ho _ (by omega), t3 i hi]; unfold pIx; rw [e4], by rw [e4]; exact t4⟩, ⟨?_, ?_, ?_, ?_, ?_, ?_, ?_, ?_, ?_, ?_, ?_, ?_, ?_, ?_⟩, fun i hi => ?_, fun i hi => ?_, fun j hj => ?_, ⟨fun i hi => ?_, fun j hj => ?_⟩, ?_, ⟨k, by rw [ho 15 (by omega)]; exact k1, k2, fun i hi => ?_⟩, by omega⟩
  · rw [c1, e8.1]
  · rw [ho 2 (by omega), e5]; exact a2
  · rw [ho 3 (by omega), e5]; exact a3
  · rw [ho 4 (by omega), e5]; exact a4
  · rw [ho 5 (by omega), e8.2.1]; exact a5
  · rw [ho 6 (by omega), e8.2.2]; exact a6
  · rw [ho 7 (by omega), e5]; exact a7
  · rw [ho 8 (by omega), e7]; exact a8
  · rw [ho 9 (by omega), e7]; exact a9
  · rw [ho 10 (by omega), e7]; exact a10
  · rw [ho 11 (by omega), e7]; exact a11
  · rw [ho 12 (by omega), e7]; exact a12
  · rw [ho 13 (by omega), e7]; exact a13
  · rw [ho 14 (by omega), e7]; exact a14
  · obtain ⟨q1, q2, q3, q4, q5, q6⟩ := d1 i hi
    rw [RD, e1, e3]
    exact ⟨by rw [ho _ (by omega)]; exact q1, by rw [ho _ (by omega)]; exact q2, by rw [ho _ (by omega)]; exact q3, by rw [ho _ (by omega)]; exact q4, by rw [ho _ (by omega)]; exact q5, by rw [ho _ (by omega)]; exact q6⟩
  · obtain ⟨q1, q2, q3⟩ := g1 i hi
    rw [e1]
    exact ⟨by rw [ho _ (by omega)]; exact q1, by rw [ho _ (by omega)]; exact q2, by rw [ho _ (by omega)]; exact q3⟩
  · obtain ⟨q1, q2, q3, q4⟩ := b1 j hj
    rw [e6, e6, e6, e6]
    by_cases z : j = b
    · subst z
      refine ⟨?_, ?_, ?_, ?_⟩
      · rw [c7, if_neg (by omega), if_neg (by omega), if_pos ⟨rfl, rfl⟩]
      · rw [c8, if_neg (by omega), if_pos ⟨rfl, rfl⟩]
      · rw [c9, if_pos ⟨rfl, rfl⟩]
      · rw [ho _ (by omega), if_neg (by omega), if_neg (by omega), if_neg (by omega), if_neg (by omega)]; exact q4
    · rw [ho _ (by omega), ho _ (by omega), ho _ (by omega), ho _ (by omega)]
      refine ⟨?_, ?_, ?_, ?_⟩ <;> rw [if_neg (by omega), if_neg (by omega), if_neg (by omega), if_neg (by omega)] <;> assumption
  · rw [e1]
    exact (n1 i hi).eq fun j hj => ho _ (by omega)
  · rw [e6]
    by_cases z : j = b
    · subst z
      rw [if_neg (by omega), if_neg (by omega), if_neg (by omega), if_pos ⟨rfl, rfl⟩]
      exact hN
    · rw [if_neg (by omega), if_neg (by omega), if_neg (by omega), if_neg (by omega)]
      exact (n2 j (by omega)).eq fun i hi => ho _ (by omega)
  · unfold SW at s1 ⊢
    rw [e1, e4]
    intro i j hi hj o p q
    rw [ho _ (by omega), ho _ (by omega)]
    exact s1 i j hi hj p q
  · obtain ⟨s, x1, x2⟩ := k3 i hi
    exact ⟨s, x1, by rw [ho _ (by omega)]; exact x2⟩
/-- a new name -/
theorem NW.new {b w' : Nat → Int32} {n e a : Nat} (hc : nnC b n e = 0) (e0 : w' a = nI (tE b n e - tS b n e)) (e1 : ∀ j, j < 6 → w' (a + 1 + j) = if j < tE b n e - tS b n e then b (tS b n e + j) else 0) : NW (nmF b (tS b n e) (tE b n e)) w' a := by
  obtain ⟨k1, k2⟩ := nn_z hc
  obtain ⟨t1, t2, t3⟩ := tok_w k1
  refine ⟨tE b n e - tS b n e, by omega, k2, e0, ?_, fun j hj => ?_, fun j hj h6 => ?_⟩
  · rw [nmF_pk k2 (by omega) t1]
    congr 1
    refine (pk_ext _ _ _ fun j hj => ?_).symm
    show w' (a + 1 + (0 + j)) = _
    rw [Nat.zero_add, e1 j (by omega), if_pos hj]
  · rw [e1 j (by omega), if_pos hj]
    exact t1 _ (by omega) (by omega)
  · rw [e1 j h6, if_neg (by omega)]
