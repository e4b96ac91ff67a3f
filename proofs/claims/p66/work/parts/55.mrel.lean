/-! the model's array against a yard -/
def RH (Y : Yd) (w : Nat → Int32) : Prop := w 1 = yF Y 5 ∧ w 2 = yS Y 1 ∧ w 3 = yS Y 0 ∧ w 4 = yS Y 2 ∧ w 5 = yF Y 6 ∧ w 6 = yF Y 7 ∧ w 7 = yS Y 3 ∧ w 8 = yT Y 0 ∧ w 9 = yT Y 1 ∧ w 10 = yT Y 2 ∧ w 11 = yT Y 3 ∧ w 12 = yT Y 4 ∧ w 13 = yT Y 5 ∧ w 14 = yT Y 6
/-- what is read of a crate -/
def RD (Y : Yd) (w : Nat → Int32) (i : Nat) : Prop := w (16 + 18 * i + 12) = yC Y i 8 ∧ w (16 + 18 * i + 13) = (yL Y i 9).toInt32 ∧ w (16 + 18 * i + 14) = yC Y i 11 ∧ w (16 + 18 * i + 15) = (yL Y i 10).toInt32 ∧ w (16 + 18 * i + 16) = rem (yC Y i 8) 2 ∧ w (16 + 18 * i + 17) = yC Y i 12
def RG (Y : Yd) (m : Nat) (w : Nat → Int32) : Prop := ∀ i, i < 16 → w (16 + 18 * i + 7) = yC Y i 2 ∧ w (16 + 18 * i + 8) = yC Y i 3 ∧ w (16 + 18 * i + 11) = if i < m ∧ yC Y i 7 = 0 then 1 else 0
def RB (Y : Yd) (w : Nat → Int32) : Prop := ∀ j, j < 6 → w (304 + 11 * j + 7) = yB Y j 2 ∧ w (304 + 11 * j + 8) = yB Y j 3 ∧ w (304 + 11 * j + 9) = yB Y j 4 ∧ w (304 + 11 * j + 10) = yB Y j 5
/-- a name, from cell a on -/
def NW (x : Int32) (w : Nat → Int32) (a : Nat) : Prop := ∃ L, 1 ≤ L ∧ L ≤ 6 ∧ w a = nI L ∧ x = nI (pk (fun j => w (a + 1 + j)) L 0) ∧ (∀ j, j < L → isL (w (a + 1 + j))) ∧ ∀ j, L ≤ j → j < 6 → w (a + 1 + j) = 0
def RN (Y : Yd) (m b : Nat) (w : Nat → Int32) : Prop := (∀ i, i < m → NW (yC Y i 1) w (16 + 18 * i)) ∧ ∀ j, j < b → NW (yB Y j 1) w (304 + 11 * j)
/-- the clock stands behind all stamps -/
def CK9 (m K : Nat) (w : Nat → Int32) : Prop := ∃ k, w 15 = nI k ∧ k ≤ K ∧ ∀ i, i < m → ∃ s, s < k ∧ w (16 + 18 * i + 10) = nI s
def RW (Y : Yd) (m b K : Nat) (w : Nat → Int32) : Prop := TW Y m w ∧ RH Y w ∧ (∀ i, i < 16 → RD Y w i) ∧ RG Y m w ∧ RB Y w ∧ RN Y m b w ∧ SW Y m w ∧ CK9 m K w ∧ b ≤ 6
section RWS
variable {Y Y' : Yd} {m b K : Nat} {w w' : Nat → Int32}
theorem RW.t (h : RW Y m b K w) : TW Y m w := h.1
theorem RW.h (h : RW Y m b K w) : RH Y w := h.2.1
theorem RW.d (h : RW Y m b K w) {i : Nat} (hi : i < 16) : RD Y w i := h.2.2.1 i hi
theorem RW.g (h : RW Y m b K w) {i : Nat} (hi : i < 16) : w (16 + 18 * i + 7) = yC Y i 2 ∧ w (16 + 18 * i + 8) = yC Y i 3 ∧ w (16 + 18 * i + 11) = if i < m ∧ yC Y i 7 = 0 then 1 else 0 := h.2.2.2.1 i hi
theorem RW.bu (h : RW Y m b K w) {j : Nat} (hj : j < 6) : w (304 + 11 * j + 7) = yB Y j 2 ∧ w (304 + 11 * j + 8) = yB Y j 3 ∧ w (304 + 11 * j + 9) = yB Y j 4 ∧ w (304 + 11 * j + 10) = yB Y j 5 := h.2.2.2.2.1 j hj
theorem RW.n (h : RW Y m b K w) : RN Y m b w := h.2.2.2.2.2.1
theorem RW.s (h : RW Y m b K w) : SW Y m w := h.2.2.2.2.2.2.1
theorem RW.k (h : RW Y m b K w) : CK9 m K w := h.2.2.2.2.2.2.2.1
theorem RW.bl (h : RW Y m b K w) : b ≤ 6 := h.2.2.2.2.2.2.2.2
theorem NW.eq {x : Int32} {a : Nat} (h : NW x w a) (e : ∀ j, j < 7 → w' (a + j) = w (a + j)) : NW x w' a := by
  obtain ⟨L, h1, h2, h3, h4, h5, h6⟩ := h
  have e2 : ∀ j, j < 6 → w' (a + 1 + j) = w (a + 1 + j) := fun j hj => by
    rw [show a + 1 + j = a + (1 + j) by omega]; exact e _ (by omega)
  have e3 : ∀ f s, s + f ≤ 6 → pk (fun j => w' (a + 1 + j)) f s = pk (fun j => w (a + 1 + j)) f s := by
    intro f
    induction f with
    | zero => intro s _; rfl
    | succ f ih => intro s hs; rw [pk, pk, ih (s + 1) (by omega), e2 s (by omega)]
  exact ⟨L, h1, h2, (e 0 (by omega)).trans h3, by rw [e3 L 0 (by omega)]; exact h4, fun j hj => by rw [e2 j (by omega)]; exact h5 j hj, fun j hj1 hj2 => by rw [e2 j hj2]; exact h6 j hj1 hj2⟩
/-- a crate's readings change, and what is counted of readings -/
theorem RW.rd {c : Nat} (h : RW Y m b K w) (hw : ∀ x, (x ≠ 3 ∧ x ≠ 7 ∧ x ≠ 8 ∧ x ≠ 9 ∧ ¬ (16 + 18 * c + 12 ≤ x ∧ x ≤ 16 + 18 * c + 17)) → w' x = w x) (hc : c < 16) (h3 : w' 3 = yS Y' 0) (h7 : w' 7 = yS Y' 3) (h8 : w' 8 = yT Y' 0) (h9 : w' 9 = yT Y' 1) (hD : RD Y' w' c) (eC : ∀ i f, (f = 1 ∨ f = 2 ∨ f = 3 ∨ f = 6 ∨ f = 7 ∨ ¬ i = c ∧ (f = 8 ∨ f = 11 ∨ f = 12)) → yC Y' i f = yC Y i f) (eL : ∀ i f, ¬ i = c → yL Y' i f = yL Y i f) (eP : yP Y' = yP Y) (eB : yB Y' = yB Y) (eS : yS Y' 1 = yS Y 1 ∧ yS Y' 2 = yS Y 2) (eT : ∀ f, 2 ≤ f → yT Y' f = yT Y f) (eF : yF Y' = yF Y) : RW Y' m b K w' := by
  obtain ⟨⟨t1, t2, t3, t4⟩, ⟨a1, a2, a3, a4, a5, a6, a7, a8, a9, a10, a11, a12, a13, a14⟩, d1, g1, b1, ⟨n1, n2⟩, s1, ⟨k, k1, k2, k3⟩, bl⟩ := h
  refine ⟨⟨t1, by rw [hw 0 (by omega)]; exact t2, fun k hk => ?_, fun i j hi e => t4 i j hi (by rw [← eP]; exact e)⟩, ⟨?_, ?_, h3, ?_, ?_, ?_, h7, h8, h9, ?_, ?_, ?_, ?_, ?_⟩, fun i hi => ?_, fun i hi => ?_, fun j hj => ?_, ⟨fun i hi => ?_, fun j hj => ?_⟩, fun i j hi hj o p q => ?_, ⟨k, by rw [hw 15 (by omega)]; exact k1, k2, fun i hi => ?_⟩, bl⟩
  · rw [hw _ (by omega), t3 k hk]; unfold pIx; rw [eP]
  · rw [hw 1 (by omega), eF]; exact a1
  · rw [hw 2 (by omega), eS.1]; exact a2
  · rw [hw 4 (by omega), eS.2]; exact a4
  · rw [hw 5 (by omega), eF]; exact a5
  · rw [hw 6 (by omega), eF]; exact a6
  · rw [hw 10 (by omega), eT 2 (by omega)]; exact a10
  · rw [hw 11 (by omega), eT 3 (by omega)]; exact a11
  · rw [hw 12 (by omega), eT 4 (by omega)]; exact a12
  · rw [hw 13 (by omega), eT 5 (by omega)]; exact a13
  · rw [hw 14 (by omega), eT 6 (by omega)]; exact a14
  · by_cases z : i = c
    · rw [z]; exact hD
    · obtain ⟨q1, q2, q3, q4, q5, q6⟩ := d1 i hi
      refine ⟨?_, ?_, ?_, ?_, ?_, ?_⟩
      · rw [hw _ (by omega), eC i 8 (by omega)]; exact q1
      · rw [hw _ (by omega), eL i 9 z]; exact q2
      · rw [hw _ (by omega), eC i 11 (by omega)]; exact q3
      · rw [hw _ (by omega), eL i 10 z]; exact q4
      · rw [hw _ (by omega), eC i 8 (by omega)]; exact q5
      · rw [hw _ (by omega), eC i 12 (by omega)]; exact q6
  · obtain ⟨q1, q2, q3⟩ := g1 i hi
    exact ⟨by rw [hw _ (by omega), eC i 2 (by omega)]; exact q1, by rw [hw _ (by omega), eC i 3 (by omega)]; exact q2, by rw [hw _ (by omega), eC i 7 (by omega)]; exact q3⟩
  · obtain ⟨q1, q2, q3, q4⟩ := b1 j hj
    rw [eB]
    exact ⟨by rw [hw _ (by omega)]; exact q1, by rw [hw _ (by omega)]; exact q2, by rw [hw _ (by omega)]; exact q3, by rw [hw _ (by omega)]; exact q4⟩
  · rw [eC i 1 (by omega)]
    exact (n1 i hi).eq fun j hj => hw _ (by omega)
  · rw [eB]
    exact (n2 j hj).eq fun i hi => hw _ (by omega)
  · rw [eP] at p q
    rw [hw _ (by omega), hw _ (by omega), eC i 6 (by omega), eC j 6 (by omega)]
    exact s1 i j hi hj p q
  · obtain ⟨s, x1, x2⟩ := k3 i hi
    exact ⟨s, x1, by rw [hw _ (by omega)]; exact x2⟩
end RWS
theorem rw_disc {Y : Yd} {m b K c : Nat} {w : Nat → Int32} (x : Int32) (h : RW Y m b K w) (hc : c < 16) : RW (awC Y c x) m b K (upW (upW (upW (upW (upW (upW (upW w 9 (w 9 + w (16 + 18 * c + 12))) (16 + 18 * c + 12) 0) (16 + 18 * c + 13) 0) (16 + 18 * c + 14) 0) (16 + 18 * c + 15) 0) (16 + 18 * c + 16) 0) (16 + 18 * c + 17) 0) := by
  have n : ∀ (u : Nat → Int32) (a v) (y : Nat), y ≠ a → upW u a v y = u y := fun u a v y z => if_neg z
  refine h.rd (c := c) (fun y hy => ?_) hc ?_ ?_ ?_ ?_ ⟨?_, ?_, ?_, ?_, ?_, ?_⟩ (fun i f hf => ?_) (fun i f hi => ?_) rfl rfl ⟨rfl, rfl⟩ (fun f hf => ?_) rfl
  · rw [n _ _ _ _ (by omega), n _ _ _ _ (by omega), n _ _ _ _ (by omega), n _ _ _ _ (by omega), n _ _ _ _ (by omega), n _ _ _ _ (by omega), n _ _ _ _ (by omega)]
  · rw [n _ _ _ _ (by omega), n _ _ _ _ (by omega), n _ _ _ _ (by omega), n _ _ _ _ (by omega), n _ _ _ _ (by omega), n _ _ _ _ (by omega), n _ _ _ _ (by omega)]
    exact h.h.2.2.1
  · rw [n _ _ _ _ (by omega), n _ _ _ _ (by omega), n _ _ _ _ (by omega), n _ _ _ _ (by omega), n _ _ _ _ (by omega), n _ _ _ _ (by omega), n _ _ _ _ (by omega)]
    exact h.h.2.2.2.2.2.2.1
  · rw [n _ _ _ _ (by omega), n _ _ _ _ (by omega), n _ _ _ _ (by omega), n _ _ _ _ (by omega), n _ _ _ _ (by omega), n _ _ _ _ (by omega), n _ _ _ _ (by omega)]
    exact h.h.2.2.2.2.2.2.2.1
  · rw [n _ _ _ _ (by omega), n _ _ _ _ (by omega), n _ _ _ _ (by omega), n _ _ _ _ (by omega), n _ _ _ _ (by omega), n _ _ _ _ (by omega), upW_s, (h.d hc).1, h.h.2.2.2.2.2.2.2.2.1]
    rfl
  · rw [n _ _ _ _ (by omega), n _ _ _ _ (by omega), n _ _ _ _ (by omega), n _ _ _ _ (by omega), n _ _ _ _ (by omega), upW_s]
    simp [awC, dscY, yC, uC, uL, uT]
  · rw [n _ _ _ _ (by omega), n _ _ _ _ (by omega), n _ _ _ _ (by omega), n _ _ _ _ (by omega), upW_s]
    simp [awC, dscY, yL, uC, uL, uT]
  · rw [n _ _ _ _ (by omega), n _ _ _ _ (by omega), n _ _ _ _ (by omega), upW_s]
    simp [awC, dscY, yC, uC, uL, uT]
  · rw [n _ _ _ _ (by omega), n _ _ _ _ (by omega), upW_s]
    simp [awC, dscY, yL, uC, uL, uT]
  · rw [n _ _ _ _ (by omega), upW_s]
    simp [awC, dscY, yC, uC, uL, uT, rem]
  · rw [upW_s]
    simp [awC, dscY, yC, uC, uL, uT]
  · show (if i = c ∧ f = 12 then 0 else if i = c ∧ f = 11 then 0 else if i = c ∧ f = 8 then 0 else if i = c ∧ f = 4 then _ else yC Y i f) = yC Y i f
    rw [if_neg (by omega), if_neg (by omega), if_neg (by omega), if_neg (by omega)]
  · show (if i = c ∧ f = 10 then 0 else if i = c ∧ f = 9 then 0 else yL Y i f) = yL Y i f
    rw [if_neg (by omega), if_neg (by omega)]
  · show (if f = 1 then _ else yT Y f) = yT Y f
    rw [if_neg (by omega)]