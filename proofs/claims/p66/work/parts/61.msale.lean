/-! a sale -/
theorem saF_o (t : Nat) : ∀ (k i : Nat) (Y : Yd), yL (saF t k i Y) = yL Y ∧ yP (saF t k i Y) = yP Y ∧ yB (saF t k i Y) = yB Y ∧ yS (saF t k i Y) = yS Y ∧ yT (saF t k i Y) = yT Y ∧ yF (saF t k i Y) = yF Y ∧ (∀ a f, f ≠ 7 → yC (saF t k i Y) a f = yC Y a f) ∧ ∀ a, yC (saF t k i Y) a 7 = if i ≤ a ∧ a < i + k ∧ ins Y a t = true then 0 else yC Y a 7 := by
  intro k
  induction k with
  | zero => intro i Y; exact ⟨rfl, rfl, rfl, rfl, rfl, rfl, fun _ _ _ => rfl, fun a => (if_neg (by omega)).symm⟩
  | succ k ih =>
    intro i Y
    rw [saF]
    by_cases z : ins Y i t = true
    · rw [if_pos z]
      obtain ⟨h1, h2, h3, h4, h5, h6, h7, h8⟩ := ih (i + 1) (uC Y i 7 0)
      refine ⟨h1, h2, h3, h4, h5, h6, fun a f hf => (h7 a f hf).trans (if_neg fun q => hf q.2), fun a => ?_⟩
      rw [h8 a]
      have e : ins (uC Y i 7 0) a t = ins Y a t := rfl
      rw [e]
      show (if i + 1 ≤ a ∧ a < i + 1 + k ∧ ins Y a t = true then 0 else if a = i ∧ 7 = 7 then 0 else yC Y a 7) = _
      by_cases y : a = i
      · rw [if_neg (by omega), if_pos ⟨y, rfl⟩, if_pos ⟨by omega, by omega, by rw [y]; exact z⟩]
      · rw [if_neg (c := a = i ∧ 7 = 7) (fun q => y q.1)]
        by_cases x : i + 1 ≤ a ∧ a < i + 1 + k ∧ ins Y a t = true
        · rw [if_pos x, if_pos ⟨by omega, by omega, x.2.2⟩]
        · rw [if_neg x, if_neg (fun q => x ⟨by omega, by omega, q.2.2⟩)]
    · rw [if_neg z]
      obtain ⟨h1, h2, h3, h4, h5, h6, h7, h8⟩ := ih (i + 1) Y
      refine ⟨h1, h2, h3, h4, h5, h6, h7, fun a => ?_⟩
      rw [h8 a]
      by_cases x : i + 1 ≤ a ∧ a < i + 1 + k ∧ ins Y a t = true
      · rw [if_pos x, if_pos ⟨by omega, by omega, x.2.2⟩]
      · rw [if_neg x, if_neg (fun q => x ⟨by
          by_cases y : a = i
          · rw [y] at q; exact absurd q.2.2 z
          · omega, by omega, q.2.2⟩)]
section RWU
variable {Y : Yd} {m b K : Nat} {w : Nat → Int32}
set_option maxHeartbeats 1000000 in
theorem RW.lv {c : Nat} {w' : Nat → Int32} (h : RW Y m b K w) (hc : c < 16) (g : LV (yP Y) m 6 c w w') : RW (saF c 16 0 Y) m b K (w') := by
  obtain ⟨eL, eP, eB, eS, eT, eF, eC, e7⟩ := saF_o c 16 0 Y
  obtain ⟨⟨t1, t2, t3, t4⟩, ⟨a1, a2, a3, a4, a5, a6, a7, a8, a9, a10, a11, a12, a13, a14⟩, d1, g1, b1, ⟨n1, n2⟩, s1, ⟨k, k1, k2, k3⟩, bl⟩ := h
  refine ⟨⟨t1, ?_, ?_, ?_⟩, ⟨?_, ?_, ?_, ?_, ?_, ?_, ?_, ?_, ?_, ?_, ?_, ?_, ?_, ?_⟩, fun i hi => ?_, fun i hi => ?_, fun j hj => ?_, ⟨fun i hi => ?_, fun j hj => ?_⟩, ?_, ?_, bl⟩
  · have q := t2
    rw [g.1 _ (fun ⟨y9, _, h9, _⟩ => by omega)]; (first | exact q | (rw [eL]; exact q) | (rw [eB]; exact q) | (rw [eS]; exact q) | (rw [eT]; exact q) | (rw [eF]; exact q) | (rw [eC _ _ (by omega)]; exact q))
  · intro k hk
    have q := t3 k hk
    rw [g.1 _ (fun ⟨y9, _, h9, _⟩ => by omega)]; rw [pIx_e, eP, ← pIx_e]; exact q
  · rw [eP]; exact t4
  · have q := a1
    rw [g.1 _ (fun ⟨y9, _, h9, _⟩ => by omega)]; (first | exact q | (rw [eL]; exact q) | (rw [eB]; exact q) | (rw [eS]; exact q) | (rw [eT]; exact q) | (rw [eF]; exact q) | (rw [eC _ _ (by omega)]; exact q))
  · have q := a2
    rw [g.1 _ (fun ⟨y9, _, h9, _⟩ => by omega)]; (first | exact q | (rw [eL]; exact q) | (rw [eB]; exact q) | (rw [eS]; exact q) | (rw [eT]; exact q) | (rw [eF]; exact q) | (rw [eC _ _ (by omega)]; exact q))
  · have q := a3
    rw [g.1 _ (fun ⟨y9, _, h9, _⟩ => by omega)]; (first | exact q | (rw [eL]; exact q) | (rw [eB]; exact q) | (rw [eS]; exact q) | (rw [eT]; exact q) | (rw [eF]; exact q) | (rw [eC _ _ (by omega)]; exact q))
  · have q := a4
    rw [g.1 _ (fun ⟨y9, _, h9, _⟩ => by omega)]; (first | exact q | (rw [eL]; exact q) | (rw [eB]; exact q) | (rw [eS]; exact q) | (rw [eT]; exact q) | (rw [eF]; exact q) | (rw [eC _ _ (by omega)]; exact q))
  · have q := a5
    rw [g.1 _ (fun ⟨y9, _, h9, _⟩ => by omega)]; (first | exact q | (rw [eL]; exact q) | (rw [eB]; exact q) | (rw [eS]; exact q) | (rw [eT]; exact q) | (rw [eF]; exact q) | (rw [eC _ _ (by omega)]; exact q))
  · have q := a6
    rw [g.1 _ (fun ⟨y9, _, h9, _⟩ => by omega)]; (first | exact q | (rw [eL]; exact q) | (rw [eB]; exact q) | (rw [eS]; exact q) | (rw [eT]; exact q) | (rw [eF]; exact q) | (rw [eC _ _ (by omega)]; exact q))
  · have q := a7
    rw [g.1 _ (fun ⟨y9, _, h9, _⟩ => by omega)]; (first | exact q | (rw [eL]; exact q) | (rw [eB]; exact q) | (rw [eS]; exact q) | (rw [eT]; exact q) | (rw [eF]; exact q) | (rw [eC _ _ (by omega)]; exact q))
  · have q := a8
    rw [g.1 _ (fun ⟨y9, _, h9, _⟩ => by omega)]; (first | exact q | (rw [eL]; exact q) | (rw [eB]; exact q) | (rw [eS]; exact q) | (rw [eT]; exact q) | (rw [eF]; exact q) | (rw [eC _ _ (by omega)]; exact q))
  · have q := a9
    rw [g.1 _ (fun ⟨y9, _, h9, _⟩ => by omega)]; (first | exact q | (rw [eL]; exact q) | (rw [eB]; exact q) | (rw [eS]; exact q) | (rw [eT]; exact q) | (rw [eF]; exact q) | (rw [eC _ _ (by omega)]; exact q))
  · have q := a10
    rw [g.1 _ (fun ⟨y9, _, h9, _⟩ => by omega)]; (first | exact q | (rw [eL]; exact q) | (rw [eB]; exact q) | (rw [eS]; exact q) | (rw [eT]; exact q) | (rw [eF]; exact q) | (rw [eC _ _ (by omega)]; exact q))
  · have q := a11
    rw [g.1 _ (fun ⟨y9, _, h9, _⟩ => by omega)]; (first | exact q | (rw [eL]; exact q) | (rw [eB]; exact q) | (rw [eS]; exact q) | (rw [eT]; exact q) | (rw [eF]; exact q) | (rw [eC _ _ (by omega)]; exact q))
  · have q := a12
    rw [g.1 _ (fun ⟨y9, _, h9, _⟩ => by omega)]; (first | exact q | (rw [eL]; exact q) | (rw [eB]; exact q) | (rw [eS]; exact q) | (rw [eT]; exact q) | (rw [eF]; exact q) | (rw [eC _ _ (by omega)]; exact q))
  · have q := a13
    rw [g.1 _ (fun ⟨y9, _, h9, _⟩ => by omega)]; (first | exact q | (rw [eL]; exact q) | (rw [eB]; exact q) | (rw [eS]; exact q) | (rw [eT]; exact q) | (rw [eF]; exact q) | (rw [eC _ _ (by omega)]; exact q))
  · have q := a14
    rw [g.1 _ (fun ⟨y9, _, h9, _⟩ => by omega)]; (first | exact q | (rw [eL]; exact q) | (rw [eB]; exact q) | (rw [eS]; exact q) | (rw [eT]; exact q) | (rw [eF]; exact q) | (rw [eC _ _ (by omega)]; exact q))
  · obtain ⟨q1, q2, q3, q4, q5, q6⟩ := d1 i hi
    refine ⟨?_, ?_, ?_, ?_, ?_, ?_⟩
    · have q := q1
      rw [g.1 _ (fun ⟨y9, _, h9, _⟩ => by omega)]; (first | exact q | (rw [eL]; exact q) | (rw [eB]; exact q) | (rw [eS]; exact q) | (rw [eT]; exact q) | (rw [eF]; exact q) | (rw [eC _ _ (by omega)]; exact q))
    · have q := q2
      rw [g.1 _ (fun ⟨y9, _, h9, _⟩ => by omega)]; (first | exact q | (rw [eL]; exact q) | (rw [eB]; exact q) | (rw [eS]; exact q) | (rw [eT]; exact q) | (rw [eF]; exact q) | (rw [eC _ _ (by omega)]; exact q))
    · have q := q3
      rw [g.1 _ (fun ⟨y9, _, h9, _⟩ => by omega)]; (first | exact q | (rw [eL]; exact q) | (rw [eB]; exact q) | (rw [eS]; exact q) | (rw [eT]; exact q) | (rw [eF]; exact q) | (rw [eC _ _ (by omega)]; exact q))
    · have q := q4
      rw [g.1 _ (fun ⟨y9, _, h9, _⟩ => by omega)]; (first | exact q | (rw [eL]; exact q) | (rw [eB]; exact q) | (rw [eS]; exact q) | (rw [eT]; exact q) | (rw [eF]; exact q) | (rw [eC _ _ (by omega)]; exact q))
    · have q := q5
      rw [g.1 _ (fun ⟨y9, _, h9, _⟩ => by omega)]; (first | exact q | (rw [eL]; exact q) | (rw [eB]; exact q) | (rw [eS]; exact q) | (rw [eT]; exact q) | (rw [eF]; exact q) | (rw [eC _ _ (by omega)]; exact q))
    · have q := q6
      rw [g.1 _ (fun ⟨y9, _, h9, _⟩ => by omega)]; (first | exact q | (rw [eL]; exact q) | (rw [eB]; exact q) | (rw [eS]; exact q) | (rw [eT]; exact q) | (rw [eF]; exact q) | (rw [eC _ _ (by omega)]; exact q))
  · obtain ⟨q1, q2, q3⟩ := g1 i hi
    refine ⟨?_, ?_, ?_⟩
    · have q := q1
      rw [g.1 _ (fun ⟨y9, _, h9, _⟩ => by omega)]; (first | exact q | (rw [eL]; exact q) | (rw [eB]; exact q) | (rw [eS]; exact q) | (rw [eT]; exact q) | (rw [eF]; exact q) | (rw [eC _ _ (by omega)]; exact q))
    · have q := q2
      rw [g.1 _ (fun ⟨y9, _, h9, _⟩ => by omega)]; (first | exact q | (rw [eL]; exact q) | (rw [eB]; exact q) | (rw [eS]; exact q) | (rw [eT]; exact q) | (rw [eF]; exact q) | (rw [eC _ _ (by omega)]; exact q))
    · have q := q3
      rw [e7 i]
      by_cases z : ins Y i c = true ∧ i < m
      · rw [g.2 i z.2 ((inO_i 6 _).mp z.1), if_pos ⟨z.2, if_pos ⟨Nat.zero_le _, by omega, z.1⟩⟩]
      · rw [g.1 _ (fun ⟨y9, h8, h9, h10⟩ => z (by rw [show i = y9 by omega]; exact ⟨(inO_i 6 _).mpr h10, h8⟩))]
        rw [q]
        by_cases im : i < m
        · rw [if_neg (c := 0 ≤ i ∧ i < 0 + 16 ∧ ins Y i c = true) (fun q => z ⟨q.2.2, im⟩)]
        · rw [if_neg (fun q => im q.1), if_neg (fun q => im q.1)]
  · obtain ⟨q1, q2, q3, q4⟩ := b1 j hj
    refine ⟨?_, ?_, ?_, ?_⟩
    · have q := q1
      rw [g.1 _ (fun ⟨y9, _, h9, _⟩ => by omega)]; (first | exact q | (rw [eL]; exact q) | (rw [eB]; exact q) | (rw [eS]; exact q) | (rw [eT]; exact q) | (rw [eF]; exact q) | (rw [eC _ _ (by omega)]; exact q))
    · have q := q2
      rw [g.1 _ (fun ⟨y9, _, h9, _⟩ => by omega)]; (first | exact q | (rw [eL]; exact q) | (rw [eB]; exact q) | (rw [eS]; exact q) | (rw [eT]; exact q) | (rw [eF]; exact q) | (rw [eC _ _ (by omega)]; exact q))
    · have q := q3
      rw [g.1 _ (fun ⟨y9, _, h9, _⟩ => by omega)]; (first | exact q | (rw [eL]; exact q) | (rw [eB]; exact q) | (rw [eS]; exact q) | (rw [eT]; exact q) | (rw [eF]; exact q) | (rw [eC _ _ (by omega)]; exact q))
    · have q := q4
      rw [g.1 _ (fun ⟨y9, _, h9, _⟩ => by omega)]; (first | exact q | (rw [eL]; exact q) | (rw [eB]; exact q) | (rw [eS]; exact q) | (rw [eT]; exact q) | (rw [eF]; exact q) | (rw [eC _ _ (by omega)]; exact q))
  · refine (NW.eq (w := w) ?_ (fun j hj => by rw [g.1 _ (fun ⟨y9, _, h9, _⟩ => by omega)]))
    have q := n1 i hi
    first | (rw [eC _ _ (by omega)]; exact q) | (rw [eB]; exact q) | (simp [yC, yL, yP, yB, yS, yT, yF, uC, uL, uP, uB, uS, uT, uF] at q ⊢; exact q)
  · refine (NW.eq (w := w) ?_ (fun i hi => by rw [g.1 _ (fun ⟨y9, _, h9, _⟩ => by omega)]))
    have q := n2 j hj
    first | (rw [eC _ _ (by omega)]; exact q) | (rw [eB]; exact q) | (simp [yC, yL, yP, yB, yS, yT, yF, uC, uL, uP, uB, uS, uT, uF] at q ⊢; exact q)
  · intro i j hi hj o p q9
    rw [eP] at p q9
    rw [g.1 _ (fun ⟨y9, _, h9, _⟩ => by omega), g.1 _ (fun ⟨y9, _, h9, _⟩ => by omega), eC _ _ (by omega), eC _ _ (by omega)]
    exact s1 i j hi hj p q9
  · refine ⟨k, ?_, k2, fun i hi => ?_⟩
    · rw [g.1 _ (fun ⟨y9, _, h9, _⟩ => by omega)]; exact k1
    · obtain ⟨s, x1, x2⟩ := k3 i hi
      exact ⟨s, x1, by rw [g.1 _ (fun ⟨y9, _, h9, _⟩ => by omega)]; exact x2⟩
theorem mo_e (a p r : Int32) : a - p + r = a + (r - p) := by
  rw [Int32.sub_eq_add_neg, Int32.sub_eq_add_neg, Int32.add_assoc, Int32.add_comm (-p) r]
/-- the sale's cells -/
def slF (w : Nat → Int32) (j : Nat) (tr p r : Int32) : Nat → Int32 :=
  let W1 := upW w (304 + 11 * j + 9) tr
  let W2 := upW W1 (304 + 11 * j + 7) (W1 (304 + 11 * j + 7) - p + r)
  let W3 := upW W2 (304 + 11 * j + 10) (W2 (304 + 11 * j + 10) + 1)
  let W4 := upW W3 11 (W3 11 + 1)
  let W5 := upW W4 12 (W4 12 + p)
  upW W5 13 (W5 13 + r)
set_option maxHeartbeats 1000000 in
theorem RW.tr {c j : Nat} (h : RW Y m b K w) (hj : j < 6) : RW (trY0 Y c j) m b K (slF w j (fTrust (yB Y j 4) (yB Y j 3) (yErr Y c)) (yPrice Y c) (fRefund (yB Y j 3) (yErr Y c))) := by
  obtain ⟨⟨t1, t2, t3, t4⟩, ⟨a1, a2, a3, a4, a5, a6, a7, a8, a9, a10, a11, a12, a13, a14⟩, d1, g1, b1, ⟨n1, n2⟩, s1, ⟨k, k1, k2, k3⟩, bl⟩ := h
  refine ⟨⟨t1, ?_, ?_, ?_⟩, ⟨?_, ?_, ?_, ?_, ?_, ?_, ?_, ?_, ?_, ?_, ?_, ?_, ?_, ?_⟩, fun i hi => ?_, fun i hi => ?_, fun j1 hj1 => ?_, ⟨fun i hi => ?_, fun j1 hj1 => ?_⟩, ?_, ?_, bl⟩
  · have q := t2
    unfold slF; simp (disch := omega) only [upW_n, upW_s]; (first | exact q | (refine q.trans ?_; simp [yC, yL, yP, yB, yS, yT, yF, uC, uL, uP, uB, uS, uT, uF]) | (rw [q]; rfl))
  · intro k hk
    have q := t3 k hk
    unfold slF; simp (disch := omega) only [upW_n, upW_s]; (first | exact q | (refine q.trans ?_; simp [yC, yL, yP, yB, yS, yT, yF, uC, uL, uP, uB, uS, uT, uF]) | (rw [q]; rfl))
  · exact t4
  · have q := a1
    unfold slF; simp (disch := omega) only [upW_n, upW_s]; (first | exact q | (refine q.trans ?_; simp [yC, yL, yP, yB, yS, yT, yF, uC, uL, uP, uB, uS, uT, uF]) | (rw [q]; rfl))
  · have q := a2
    unfold slF; simp (disch := omega) only [upW_n, upW_s]; (first | exact q | (refine q.trans ?_; simp [yC, yL, yP, yB, yS, yT, yF, uC, uL, uP, uB, uS, uT, uF]) | (rw [q]; rfl))
  · have q := a3
    unfold slF; simp (disch := omega) only [upW_n, upW_s]; (first | exact q | (refine q.trans ?_; simp [yC, yL, yP, yB, yS, yT, yF, uC, uL, uP, uB, uS, uT, uF]) | (rw [q]; rfl))
  · have q := a4
    unfold slF; simp (disch := omega) only [upW_n, upW_s]; (first | exact q | (refine q.trans ?_; simp [yC, yL, yP, yB, yS, yT, yF, uC, uL, uP, uB, uS, uT, uF]) | (rw [q]; rfl))
  · have q := a5
    unfold slF; simp (disch := omega) only [upW_n, upW_s]; (first | exact q | (refine q.trans ?_; simp [yC, yL, yP, yB, yS, yT, yF, uC, uL, uP, uB, uS, uT, uF]) | (rw [q]; rfl))
  · have q := a6
    unfold slF; simp (disch := omega) only [upW_n, upW_s]; (first | exact q | (refine q.trans ?_; simp [yC, yL, yP, yB, yS, yT, yF, uC, uL, uP, uB, uS, uT, uF]) | (rw [q]; rfl))
  · have q := a7
    unfold slF; simp (disch := omega) only [upW_n, upW_s]; (first | exact q | (refine q.trans ?_; simp [yC, yL, yP, yB, yS, yT, yF, uC, uL, uP, uB, uS, uT, uF]) | (rw [q]; rfl))
  · have q := a8
    unfold slF; simp (disch := omega) only [upW_n, upW_s]; (first | exact q | (refine q.trans ?_; simp [yC, yL, yP, yB, yS, yT, yF, uC, uL, uP, uB, uS, uT, uF]) | (rw [q]; rfl))
  · have q := a9
    unfold slF; simp (disch := omega) only [upW_n, upW_s]; (first | exact q | (refine q.trans ?_; simp [yC, yL, yP, yB, yS, yT, yF, uC, uL, uP, uB, uS, uT, uF]) | (rw [q]; rfl))
  · have q := a10
    unfold slF; simp (disch := omega) only [upW_n, upW_s]; (first | exact q | (refine q.trans ?_; simp [yC, yL, yP, yB, yS, yT, yF, uC, uL, uP, uB, uS, uT, uF]) | (rw [q]; rfl))
  · unfold slF; simp (disch := omega) only [upW_n, upW_s]; rw [a11]; simp [trY0, yT, uT, uB]
  · unfold slF; simp (disch := omega) only [upW_n, upW_s]; rw [a12]; simp [trY0, yT, uT, uB]
  · unfold slF; simp (disch := omega) only [upW_n, upW_s]; rw [a13]; simp [trY0, yT, uT, uB]
  · have q := a14
    unfold slF; simp (disch := omega) only [upW_n, upW_s]; (first | exact q | (refine q.trans ?_; simp [yC, yL, yP, yB, yS, yT, yF, uC, uL, uP, uB, uS, uT, uF]) | (rw [q]; rfl))
  · obtain ⟨q1, q2, q3, q4, q5, q6⟩ := d1 i hi
    refine ⟨?_, ?_, ?_, ?_, ?_, ?_⟩
    · have q := q1
      unfold slF; simp (disch := omega) only [upW_n, upW_s]; (first | exact q | (refine q.trans ?_; simp [yC, yL, yP, yB, yS, yT, yF, uC, uL, uP, uB, uS, uT, uF]) | (rw [q]; rfl))
    · have q := q2
      unfold slF; simp (disch := omega) only [upW_n, upW_s]; (first | exact q | (refine q.trans ?_; simp [yC, yL, yP, yB, yS, yT, yF, uC, uL, uP, uB, uS, uT, uF]) | (rw [q]; rfl))
    · have q := q3
      unfold slF; simp (disch := omega) only [upW_n, upW_s]; (first | exact q | (refine q.trans ?_; simp [yC, yL, yP, yB, yS, yT, yF, uC, uL, uP, uB, uS, uT, uF]) | (rw [q]; rfl))
    · have q := q4
      unfold slF; simp (disch := omega) only [upW_n, upW_s]; (first | exact q | (refine q.trans ?_; simp [yC, yL, yP, yB, yS, yT, yF, uC, uL, uP, uB, uS, uT, uF]) | (rw [q]; rfl))
    · have q := q5
      unfold slF; simp (disch := omega) only [upW_n, upW_s]; (first | exact q | (refine q.trans ?_; simp [yC, yL, yP, yB, yS, yT, yF, uC, uL, uP, uB, uS, uT, uF]) | (rw [q]; rfl))
    · have q := q6
      unfold slF; simp (disch := omega) only [upW_n, upW_s]; (first | exact q | (refine q.trans ?_; simp [yC, yL, yP, yB, yS, yT, yF, uC, uL, uP, uB, uS, uT, uF]) | (rw [q]; rfl))
  · obtain ⟨q1, q2, q3⟩ := g1 i hi
    refine ⟨?_, ?_, ?_⟩
    · have q := q1
      unfold slF; simp (disch := omega) only [upW_n, upW_s]; (first | exact q | (refine q.trans ?_; simp [yC, yL, yP, yB, yS, yT, yF, uC, uL, uP, uB, uS, uT, uF]) | (rw [q]; rfl))
    · have q := q2
      unfold slF; simp (disch := omega) only [upW_n, upW_s]; (first | exact q | (refine q.trans ?_; simp [yC, yL, yP, yB, yS, yT, yF, uC, uL, uP, uB, uS, uT, uF]) | (rw [q]; rfl))
    · have q := q3
      unfold slF; simp (disch := omega) only [upW_n, upW_s]; (first | exact q | (refine q.trans ?_; simp [yC, yL, yP, yB, yS, yT, yF, uC, uL, uP, uB, uS, uT, uF]) | (rw [q]; rfl))
  · obtain ⟨q1, q2, q3, q4⟩ := b1 j1 hj1
    refine ⟨?_, ?_, ?_, ?_⟩
    · by_cases z : j1 = j
      · subst z; unfold slF; simp (disch := omega) only [upW_n, upW_s]; rw [q1, mo_e]; simp [trY0, yB, uT, uB]
      · have q := q1
        unfold slF; simp (disch := omega) only [upW_n, upW_s]; refine q.trans ?_; simp [trY0, yC, yL, yP, yB, yS, yT, yF, uC, uL, uP, uB, uS, uT, uF, z]
    · have q := q2
      unfold slF; simp (disch := omega) only [upW_n, upW_s]; refine q.trans ?_; simp [trY0, yC, yL, yP, yB, yS, yT, yF, uC, uL, uP, uB, uS, uT, uF]
    · by_cases z : j1 = j
      · subst z; unfold slF; simp (disch := omega) only [upW_n, upW_s]; simp [trY0, yB, uT, uB]
      · have q := q3
        unfold slF; simp (disch := omega) only [upW_n, upW_s]; refine q.trans ?_; simp [trY0, yC, yL, yP, yB, yS, yT, yF, uC, uL, uP, uB, uS, uT, uF, z]
    · by_cases z : j1 = j
      · subst z; unfold slF; simp (disch := omega) only [upW_n, upW_s]; rw [q4]; simp [trY0, yB, uT, uB]
      · have q := q4
        unfold slF; simp (disch := omega) only [upW_n, upW_s]; refine q.trans ?_; simp [trY0, yC, yL, yP, yB, yS, yT, yF, uC, uL, uP, uB, uS, uT, uF, z]
  · refine (NW.eq (w := w) ?_ (fun j9 hj9 => by unfold slF; simp (disch := omega) only [upW_n, upW_s]))
    have q := n1 i hi
    first | exact q | (simp [trY0, yC, yL, yP, yB, yS, yT, yF, uC, uL, uP, uB, uS, uT, uF] at q ⊢; exact q)
  · refine (NW.eq (w := w) ?_ (fun i hi => by unfold slF; simp (disch := omega) only [upW_n, upW_s]))
    have q := n2 j1 hj1
    first | exact q | (simp [trY0, yC, yL, yP, yB, yS, yT, yF, uC, uL, uP, uB, uS, uT, uF] at q ⊢; exact q)
  · intro i j hi hj o p q9
    have q := s1 i j hi hj (o := o) p q9
    unfold slF; simp (disch := omega) only [upW_n, upW_s]; first | exact q | (refine q.trans ?_; simp [trY0, yC, yL, yP, yB, yS, yT, yF, uC, uL, uP, uB, uS, uT, uF])
  · refine ⟨k, ?_, k2, fun i hi => ?_⟩
    · unfold slF; simp (disch := omega) only [upW_n, upW_s]; exact k1
    · obtain ⟨s, x1, x2⟩ := k3 i hi
      exact ⟨s, x1, by unfold slF; simp (disch := omega) only [upW_n, upW_s]; exact x2⟩
end RWU