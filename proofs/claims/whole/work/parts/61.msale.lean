/-! a sale -/
theorem saF_o (t : Nat) : ∀ (k i : Nat) (Y : Yd), yL (saF t k i Y) = yL Y ∧ yP (saF t k i Y) = yP Y ∧ yB (saF t k i Y) = yB Y ∧ yS (saF t k i Y) = yS Y ∧ yT (saF t k i Y) = yT Y ∧ yF (saF t k i Y) = yF Y ∧ (∀ a f, f ≠ 7 → yC (saF t k i Y) a f = yC Y a f) ∧ ∀ a, yC (saF t k i Y) a 7 = if i ≤ a ∧ a < i + k ∧ ins Y a t = true then 0 else yC Y a 7 := by
  intro k
  induction k with
  | zero => intro i Y; exact ⟨rfl, rfl, rfl, rfl, rfl, rfl, fun _ _ _ => rfl, fun a => (if_neg (by omega)).symm⟩
  | succ k ih =>
    intro i Y
    rw [saF]
    by_cases z : ins Y i t = true
    · rw [if_pos z]
      obtain ⟨h1, h2, h3, h4, h5, h6, h7, h8⟩ := ih (i + 1) (uC Y i 7 0)
      refine ⟨h1, h2, h3, h4, h5, h6, fun a f hf => (h7 a f hf).trans (if_neg fun q => hf q.2), fun a => ?_⟩
      rw [h8 a]
      have e : ins (uC Y i 7 0) a t = ins Y a t := rfl
      rw [e]
      show (if i + 1 ≤ a ∧ a < i + 1 + k ∧ ins Y a t = true then 0 else if a = i ∧ 7 = 7 then 0 else yC Y a 7) = _
      by_cases y : a = i
      · rw [if_neg (by omega), if_pos ⟨y, rfl⟩, if_pos ⟨by omega, by omega, by rw [y]; exact z⟩]
      · rw [if_neg (c := a = i ∧ 7 = 7) (fun q => y q.1)]
        by_cases x : i + 1 ≤ a ∧ a < i + 1 + k ∧ ins Y a t = true
        · rw [if_pos x, if_pos ⟨by omega, by omega, x.2.2⟩]
        · rw [if_neg x, if_neg (fun q => x ⟨by omega, by omega, q.2.2⟩)]
    · rw [if_neg z]
      obtain ⟨h1, h2, h3, h4, h5, h6, h7, h8⟩ := ih (i + 1) Y
      refine ⟨h1, h2, h3, h4, h5, h6, h7, fun a => ?_⟩
      rw [h8 a]
      by_cases x : i + 1 ≤ a ∧ a < i + 1 + k ∧ ins Y a t = true
      · rw [if_pos x, if_pos ⟨by omega, by omega, x.2.2⟩]
      · rw [if_neg x, if_neg (fun q => x ⟨by
          by_cases y : a = i
          · rw [y] at q; exact absurd q.2.2 z
          · omega, by omega, q.2.2⟩)]
section RWU
variable {Y : Yd} {m b K : Nat} {w : Nat → Int32}
set_option maxHeartbeats 1000000 in
theorem RW.lv {c : Nat} {w' : Nat → Int32} (h : RW Y m b K w) (hc : c < 16) (g : LV (yP Y) m 6 c w w') : RW (saF c 16 0 Y) m b K (w') := by
  obtain ⟨eL, eP, eB, eS, eT, eF, eC, e7⟩ := saF_o c 16 0 Y
  obtain ⟨⟨t1, t2, t3, t4⟩, ⟨a1, a2, a3, a4, a5, a6, a7, a8, a9, a10, a11, a12, a13, a14⟩, d1, g1, b1, ⟨n1, n2⟩, s1, ⟨k, k1, k2, k3⟩, bl⟩ := h
  refine ⟨⟨t1, ?_, ?_, ?_⟩, ⟨?_, ?_, ?_, ?_, ?_, ?_, ?_, ?_, ?_, ?_, ?_, ?_, ?_, ?_⟩, fun i hi => ?_, fun i hi => ?_, fun j hj => ?_, ⟨fun i hi => ?_, fun j hj => ?_⟩, ?_, ?_, bl⟩
  · have q := t2
    rw [g.1 _ (fun ⟨y9, _, h9, _⟩ => by omega)]; (first | exact q | (rw [eL]; exact q) | (rw [eB]; exact q) | (rw [eS]; exact q) | (rw [eT]; exact q) | (rw [eF]; exact q) | (rw [eC _ _ (by omega)]; exact q))
  · intro k hk
    have q := t3 k hk
    rw [g.1 _ (fun ⟨y9, _, h9, _⟩ => by omega)]; rw [pIx_e, eP, ← pIx_e]; exact q
  · rw [eP]; exact t4
  · have q := a1
    rw [g.1 _ (fun ⟨y9, _, h9, _⟩ => by omega)]; (first | exact q | (rw [eL]; exact q) | (rw [eB]; exact q) | (rw [eS]; exact q) | (rw [eT]; exact q) | (rw [eF]; exact q) | (rw [eC _ _ (by omega)]; exact q))
  · have q := a2
    rw [g.1 _ (fun ⟨y9, _, h9, _⟩ => by omega)]; (first | exact q | (rw [eL]; exact q) | (rw [eB]; exact q) | (rw [eS]; exact q) | (rw [eT]; exact q) | (rw [eF]; exact q) | (rw [eC _ _ (by omega)]; exact q))
  · have q := a3
    rw [g.1 _ (fun ⟨y9, _, h9, _⟩ => by omega)]; (first | exact q | (rw [eL]; exact q) | (rw [eB]; exact q) | (rw [eS]; exact q) | (rw [eT]; exact q) | (rw [eF]; exact q) | (rw [eC _ _ (by omega)]; exact q))
  · have q := a4
    rw [g.1 _ (fun ⟨y9, _, h9, _⟩ => by omega)]; (first | exact q | (rw [eL]; exact q) | (rw [eB]; exact q) | (rw [eS]; exact q) | (rw [eT]; exact q) | (rw [eF]; exact q) | (rw [eC _ _ (by omega)]; exact q))
  · have q := a5
    rw [g.1 _ (fun ⟨y9, _, h9, _⟩ => by omega)]; (first | exact q | (rw [eL]; exact q) | (rw [eB]; exact q) | (rw [eS]; exact q) | (rw [eT]; exact q) | (rw [eF]; exact q) | (rw [eC _ _ (by omega)]; exact q))
  · have q := a6
    rw [g.1 _ (fun ⟨y9, _, h9, _⟩ => by omega)]; (first | exact q | (rw [eL]; exact q) | (rw [eB]; exact q) | (rw [eS]; exact q) | (rw [eT]; exact q) | (rw [eF]; exact q) | (rw [eC _ _ (by omega)]; exact q))
  · have q := a7
    rw [g.1 _ (fun ⟨y9, _, h9, _⟩ => by omega)]; (first | exact q | (rw [eL]; exact q) | (rw [eB]; exact q) | (rw [eS]; exact q) | (rw [eT]; exact q) | (rw [eF]; exact q) | (rw [eC _ _ (by omega)]; exact q))
  · have q := a8
    rw [g.1 _ (fun ⟨y9, _, h9, _⟩ => by omega)]; (first | exact q | (rw [eL]; exact q) | (rw [eB]; exact q) | (rw [eS]; exact q) | (rw [eT]; exact q) | (rw [eF]; exact q) | (rw [eC _ _ (by omega)]; exact q))
  · have q := a9
    rw [g.1 _ (fun ⟨y9, _, h9, _⟩ => by omega)]; (first | exact q | (rw [eL]; exact q) | (rw [eB]; exact q) | (rw [eS]; exact q) | (rw [eT]; exact q) | (rw [eF]; exact q) | (rw [eC _ _ (by omega)]; exact q))
  · have q := a10
    rw [g.1 _ (fun ⟨y9, _, h9, _⟩ => by omega)]; (first | exact q | (rw [eL]; exact q) | (rw [eB]; exact q) | (rw [eS]; exact q) | (rw [eT]; exact q) | (rw [eF]; exact q) | (rw [eC _ _ (by omega)]; exact q))
  · have q := a11
    rw [g.1 _ (fun ⟨y9, _, h9, _⟩ => by omega)]; (first | exact q | (rw [eL]; exact q) | (rw [eB]; exact q) | (rw [eS]; exact q) | (rw [eT]; exact q) | (rw [eF]; exact q) | (rw [eC _ _ (by omega)]; exact q))
  · have q := a12
    rw [g.1 _ (fun ⟨y9, _, h9, _⟩ => by omega)]; (first | exact q | (rw [eL]; exact q) | (rw [eB]; exact q) | (rw [eS]; exact q) | (rw [eT]; exact q) | (rw [eF]; exact q) | (rw [eC _ _ (by omega)]; exact q))
  · have q := a13
    rw [g.1 _ (fun ⟨y9, _, h9, _⟩ => by omega)]; (first | exact q | (rw [eL]; exact q) | (rw [eB]; exact q) | (rw [eS]; exact q) | (rw [eT]; exact q) | (rw [eF]; exact q) | (rw [eC _ _ (by omega)]; exact q))
  · have q := a14
    rw [g.1 _ (fun ⟨y9, _, h9, _⟩ => by omega)]; (first | exact q | (rw [eL]; exact q) | (rw [eB]; exact q) | (rw [eS]; exact q) | (rw [eT]; exact q) | (rw [eF]; exact q) | (rw [eC _ _ (by omega)]; exact q))
  · obtain ⟨q1, q2, q3, q4, q5, q6⟩ := d1 i hi
    refine ⟨?_, ?_, ?_, ?_, ?_, ?_⟩
    · have q := q1
      rw [g.1 _ (fun ⟨y9, _, h9, _⟩ => by omega)]; (first | exact q | (rw [eL]; exact q) | (rw [eB]; exact q) | (rw [eS]; exact q) | (rw [eT]; exact q) | (rw [eF]; exact q) | (rw [eC _ _ (by omega)]; exact q))
    · have q := q2
      rw [g.1 _ (fun ⟨y9, _, h9, _⟩ => by omega)]; (first | exact q | (rw [eL]; exact q) | (rw [eB]; exact q) | (rw [eS]; exact q) | (rw [eT]; exact q) | (rw [eF]; exact q) | (rw [eC _ _ (by omega)]; exact q))
    · have q := q3
      rw [g.1 _ (fun ⟨y9, _, h9, _⟩ => by omega)]; (first | exact q | (rw [eL]; exact q) | (rw [eB]; exact q) | (rw [eS]; exact q) | (rw [eT]; exact q) | (rw [eF]; exact q) | (rw [eC _ _ (by omega)]; exact q))
    · have q := q4
      rw [g.1 _ (fun ⟨y9, _, h9, _⟩ => by omega)]; (first | exact q | (rw [eL]; exact q) | (rw [eB]; exact q) | (rw [eS]; exact q) | (rw [eT]; exact q) | (rw [eF]; exact q) | (rw [eC _ _ (by omega)]; exact q))
    · have q := q5
      rw [g.1 _ (fun ⟨y9, _, h9, _⟩ => by omega)]; (first | exact q | (rw [eL]; exact q) | (rw [eB]; exact q) | (rw [eS]; exact q) | (rw [eT]; exact q) | (rw [eF]; exact q) | (rw [eC _ _ (by omega)]; exact q))
    · have q := q6
      rw [g.1 _ (fun ⟨y9, _, h9, _⟩ => by omega)]; (first | exact q | (rw [eL]; exact q) | (rw [eB]; exact q) | (rw [eS]; exact q) | (rw [eT]; exact q) | (rw [eF]; exact q) | (rw [eC _ _ (by omega)]; exact q))
  · obtain ⟨q1, q2, q3⟩ := g1 i hi
    refine ⟨?_, ?_, ?_⟩
    · have q := q1
      rw [g.1 _ (fun ⟨y9, _, h9, _⟩ => by omega)]; (first | exact q | (rw [eL]; exact q) | (rw [eB]; exact q) | (rw [eS]; exact q) | (rw [eT]; exact q) | (rw [eF]; exact q) | (rw [eC _ _ (by omega)]; exact q))
    · have q := q2
      rw [g.1 _ (fun ⟨y9, _, h9, _⟩ => by omega)]; (first | exact q | (rw [eL]; exact q) | (rw [eB]; exact q) | (rw [eS]; exact q) | (rw [eT]; exact q) | (rw [eF]; exact q) | (rw [eC _ _ (by omega)]; exact q))
    · have q := q3
      rw [e7 i]
      by_cases z : ins Y i c = true ∧ i < m
      · rw [g.2 i z.2 ((inO_i 6 _).mp z.1), if_pos ⟨z.2, if_pos ⟨Nat.zero_le _, by omega, z.1⟩⟩]
      · rw [g.1 _ (fun ⟨y9, h8, h9, h10⟩ => z (by rw [show i = y9 by omega]; exact ⟨(inO_i 6 _).mpr h10, h8⟩))]
        rw [q]
        by_cases im : i < m
        · rw [if_neg (c := 0 ≤ i ∧ i < 0 + 16 ∧ ins Y i c = true) (fun q => z ⟨q.2.2, im⟩)]
        · rw [if_neg (fun q => im q.1), if_neg (fun q => im q.1)]
  · obtain ⟨q1, q2, q3, q4⟩ := b1 j hj
    refine ⟨?_, ?_, ?_, ?_⟩
    · have q := q1
      rw [g.1 _ (fun ⟨y9, _, h9, _⟩ => by omega)]; (first | exact q | (rw [eL]; exact q) | (rw [eB]; exact q) | (rw [eS]; exact q) | (rw [eT]; exact q) | (rw [eF]; exact q) | (rw [eC _ _ (by omega)]; exact q))
    · have q := q2
      rw [g.1 _ (fun ⟨y9, _, h9, _⟩ => by omega)]; (first | exact q | (rw [eL]; exact q) | (rw [eB]; exact q) | (rw [eS]; exact q) | (rw [eT]; exact q) | (rw [eF]; exact q) | (rw [eC _ _ (by omega)]; exact q))
    · have q := q3
      rw [g.1 _ (fun ⟨y9, _, h9, _⟩ => by omega)]; (first | exact q | (rw [eL]; exact q) | (rw [eB]; exact q) | (rw [eS]; exact q) | (rw [eT]; exact q) | (rw [eF]; exact q) | (rw [eC _ _ (by omega)]; exact q))
    · have q := q4
      rw [g.1 _ (fun ⟨y9, _, h9, _⟩ => by omega)]; (first | exact q | (rw [eL]; exact q) | (rw [eB]; exact q) | (rw [eS]; exact q) | (rw [eT]; exact q) | (rw [eF]; exact q) | (rw [eC _ _ (by omega)]; exact q))
  · refine (NW.eq (w := w) ?_ (fun j hj => by rw [g.1 _ (fun ⟨y9, _, h9, _⟩ => by omega)]))
    have q := n1 i hi
    first | (rw [eC _ _ (by omega)]; exact q) | (rw [eB]; exact q) | (simp [yC, yL, yP, yB, yS, yT, yF, uC, uL, uP, uB, uS, uT, uF] at q ⊢; exact q)
  · refine (NW.eq (w := w) ?_ (fun i hi => by rw [g.1 _ (fun ⟨y9, _, h9, _⟩ => by omega)]))
    have q := n2 j hj
    first | (rw [eC _ _ (by omega)]; exact q) | (rw [eB]; exact q) | (simp [yC, yL, yP, yB, yS, yT, yF, uC, uL, uP, uB, uS, uT, uF] at q ⊢; exact q)
  · intro i j hi hj o p q9
    rw [eP] at p q9
    rw [g.1 _ (fun ⟨y9, _, h9, _⟩ => by omega), g.1 _ (fun ⟨y9, _, h9, _⟩ => by omega), eC _ _ (by omega), eC _ _ (by omega)]
    exact s1 i j hi hj p q9
  · refine ⟨k, ?_, k2, fun i hi => ?_⟩
    · rw [g.1 _ (fun ⟨y9, _, h9, _⟩ => by omega)]; exact k1
    · obtain ⟨s, x1, x2⟩ := k3 i hi
      exact ⟨s, x1, by rw [g.1 _ (fun ⟨y9, _, h9, _⟩ => by omega)]; exact x2⟩
theorem mo_e (a p r : Int32) : a - p + r = a + (r - p) := by
  rw [Int32.sub_eq_add_neg, Int32.sub_eq_add_neg, Int32.add_assoc, Int32.add_comm (-p) r]
/-- the sale's cells -/
def slF (w : Nat → Int32) (j : Nat) (tr p r : Int32) : Nat → Int32 :=
  let W1 := upW w (304 + 11 * j + 9) tr
  let W2 := upW W1 (304 + 11 * j + 7) (W1 (304 + 11 * j + 7) - p + r)
  let W3 := upW W2 (304 + 11 * j + 10) (W2 (304 + 11 * j + 10) + 1)
  let W4 := upW W3 11 (W3 11 + 1)
  let W5 := upW W4 12 (W4 12 + p)
  upW W5 13 (W5 13 + r)
set_option maxHeartbeats 1000000 in
theorem RW.tr {c j : Nat} (h : RW Y m b K w) (hj : j < 6) : RW (trY0 Y c j) m b K (slF w j (fTrust (yB Y j 4) (yB Y j 3) (yErr Y c)) (yPrice Y c) (fRefund (yB Y j 3) (yErr Y c))) := by
  obtain ⟨⟨t1, t2, t3, t4⟩, ⟨a1, a2, a3, a4, a5, a6, a7, a8, a9, a10, a11, a12, a13, a14⟩, d1, g1, b1, ⟨n1, n2⟩, s1, ⟨k, k1, k2, k3⟩, bl⟩ := h
  refine ⟨⟨t1, ?_, ?_, ?_⟩, ⟨?_, ?_, ?_, ?_, ?_, ?_, ?_, ?_, ?_, ?_, ?_, ?_, ?_, ?_⟩, fun i hi => ?_, fun i hi => ?_, fun j1 hj1 => ?_, ⟨fun i hi => ?_, fun j1 hj1 => ?_⟩, ?_, ?_, bl⟩
  · have q := t2
    unfold slF; simp (disch := omega) only [upW_n, upW_s]; (first | exact q | (refine q.trans ?_; simp [yC, yL, yP, yB, yS, yT, yF, uC, uL, uP, uB, uS, uT, uF]) | (rw [q]; rfl))
  · intro k hk
    have q := t3 k hk
    unfold slF; simp (disch := omega) only [upW_n, upW_s]; (first | exact q | (refine q.trans ?_; simp [yC, yL, yP, yB, yS, yT, yF, uC, uL, uP, uB, uS, uT, uF]) | (rw [q]; rfl))
  · exact t4
  · have q := a1
    unfold slF; simp (disch := omega) only [upW_n, upW_s]; (first | exact q | (refine q.trans ?_; simp [yC, yL, yP, yB, yS, yT, yF, uC, uL, uP, uB, uS, uT, uF]) | (rw [q]; rfl))
  · have q := a2
    unfold slF; simp (disch := omega) only [upW_n, upW_s]; (first | exact q | (refine q.trans ?_; simp [yC, yL, yP, yB, yS, yT, yF, uC, uL, uP, uB, uS, uT, uF]) | (rw [q]; rfl))
  · have q := a3
    unfold slF; simp (disch := omega) only [upW_n, upW_s]; (first | exact q | (refine q.trans ?_; simp [yC, yL, yP, yB, yS, yT, yF, uC, uL, uP, uB, uS, uT, uF]) | (rw [q]; rfl))
  · have q := a4
    unfold slF; simp (disch := omega) only [upW_n, upW_s]; (first | exact q | (refine q.trans ?_; simp [yC, yL, yP, yB, yS, yT, yF, uC, uL, uP, uB, uS, uT, uF]) | (rw [q]; rfl))
  · have q := a5
    unfold slF; simp (disch := omega) only [upW_n, upW_s]; (first | exact q | (refine q.trans ?_; simp [yC, yL, yP, yB, yS, yT, yF, uC, uL, uP, uB, uS, uT, uF]) | (rw [q]; rfl))
  · have q := a6
    unfold slF; simp (disch := omega) only [upW_n, upW_s]; (first | exact q | (refine q.trans ?_; simp [yC, yL, yP, yB, yS, yT, yF, uC, uL, uP, uB, uS, uT, uF]) | (rw [q]; rfl))
  · have q := a7
    unfold slF; simp (disch := omega) only [upW_n, upW_s]; (first | exact q | (refine q.trans ?_; simp [yC, yL, yP, yB, yS, yT, yF, uC, uL, uP, uB, uS, uT, uF]) | (rw [q]; rfl))
  · have q := a8
    unfold slF; simp (disch := omega) only [upW_n, upW_s]; (first | exact q | (refine q.trans ?_; simp [yC, yL, yP, yB, yS, yT, yF, uC, uL, uP, uB, uS, uT, uF]) | (rw [q]; rfl))
  · have q := a9
    unfold slF; simp (disch := omega) only [upW_n, upW_s]; (first | exact q | (refine q.trans ?_; simp [yC, yL, yP, yB, yS, yT, yF, uC, uL, uP, uB, uS, uT, uF]) | (rw [q]; rfl))
  · have q := a10
    unfold slF; simp (disch := omega) only [upW_n, upW_s]; (first | exact q | (refine q.trans ?_; simp [yC, yL, yP, yB, yS, yT, yF, uC, uL, uP, uB, uS, uT, uF]) | (rw [q]; rfl))
  · unfold slF; simp (disch := omega) only [upW_n, upW_s]; rw [a11]; simp [trY0, yT, uT, uB]
  · unfold slF; simp (disch := omega) only [upW_n, upW_s]; rw [a12]; simp [trY0, yT, uT, uB]
  · unfold slF; simp (disch := omega) only [upW_n, upW_s]; rw [a13]; simp [trY0, yT, uT, uB]
  · have q := a14
    unfold slF; simp (disch := omega) only [upW_n, upW_s]; (first | exact q | (refine q.trans ?_; simp [yC, yL, yP, yB, yS, yT, yF, uC, uL, uP, uB, uS, uT, uF]) | (rw [q]; rfl))
  · obtain ⟨q1, q2, q3, q4, q5, q6⟩ := d1 i hi
    refine ⟨?_, ?_, ?_, ?_, ?_, ?_⟩
    · have q := q1
      unfold slF; simp (disch := omega) only [upW_n, upW_s]; (first | exact q | (refine q.trans ?_; simp [yC, yL, yP, yB, yS, yT, yF, uC, uL, uP, uB, uS, uT, uF]) | (rw [q]; rfl))
    · have q := q2
      unfold slF; simp (disch := omega) only [upW_n, upW_s]; (first | exact q | (refine q.trans ?_; simp [yC, yL, yP, yB, yS, yT, yF, uC, uL, uP, uB, uS, uT, uF]) | (rw [q]; rfl))
    · have q := q3
      unfold slF; simp (disch := omega) only [upW_n, upW_s]; (first | exact q | (refine q.trans ?_; simp [yC, yL, yP, yB, yS, yT, yF, uC, uL, uP, uB, uS, uT, uF]) | (rw [q]; rfl))
    · have q := q4
      unfold slF; simp (disch := omega) only [upW_n, upW_s]; (first | exact q | (refine q.trans ?_; simp [yC, yL, yP, yB, yS, yT, yF, uC, uL, uP, uB, uS, uT, uF]) | (rw [q]; rfl))
    · have q := q5
      unfold slF; simp (disch := omega) only [upW_n, upW_s]; (first | exact q | (refine q.trans ?_; simp [yC, yL, yP, yB, yS, yT, yF, uC, uL, uP, uB, uS, uT, uF]) | (rw [q]; rfl))
    · have q := q6
      unfold slF; simp (disch := omega) only [upW_n, upW_s]; (first | exact q | (refine q.trans ?_; simp [yC, yL, yP, yB, yS, yT, yF, uC, uL, uP, uB, uS, uT, uF]) | (rw [q]; rfl))
  · obtain ⟨q1, q2, q3⟩ := g1 i hi
    refine ⟨?_, ?_, ?_⟩
    · have q := q1
      unfold slF; simp (disch := omega) only [upW_n, upW_s]; (first | exact q | (refine q.trans ?_; simp [yC, yL, yP, yB, yS, yT, yF, uC, uL, uP, uB, uS, uT, uF]) | (rw [q]; rfl))
    · have q := q2
      unfold slF; simp (disch := omega) only [upW_n, upW_s]; (first | exact q | (refine q.trans ?_; simp [yC, yL, yP, yB, yS, yT, yF, uC, uL, uP, uB, uS, uT, uF]) | (rw [q]; rfl))
    · have q := q3
      unfold slF; simp (disch := omega) only [upW_n, upW_s]; (first | exact q | (refine q.trans ?_; simp [yC, yL, yP, yB, yS, yT, yF, uC, uL, uP, uB, uS, uT, uF]) | (rw [q]; rfl))
  · obtain ⟨q1, q2, q3, q4⟩ := b1 j1 hj1
    refine ⟨?_, ?_, ?_, ?_⟩
    · by_cases z : j1 = j
      · subst z; unfold slF; simp (disch := omega) only [upW_n, upW_s]; rw [q1, mo_e]; simp [trY0, yB, uT, uB]
      · have q := q1
        unfold slF; simp (disch := omega) only [upW_n, upW_s]; refine q.trans ?_; simp [trY0, yC, yL, yP, yB, yS, yT, yF, uC, uL, uP, uB, uS, uT, uF, z]
    · have q := q2
      unfold slF; simp (disch := omega) only [upW_n, upW_s]; refine q.trans ?_; simp [trY0, yC, yL, yP, yB, yS, yT, yF, uC, uL, uP, uB, uS, uT, uF]
    · by_cases z : j1 = j
      · subst z; unfold slF; simp (disch := omega) only [upW_n, upW_s]; simp [trY0, yB, uT, uB]
      · have q := q3
        unfold slF; simp (disch := omega) only [upW_n, upW_s]; refine q.trans ?_; simp [trY0, yC, yL, yP, yB, yS, yT, yF, uC, uL, uP, uB, uS, uT, uF, z]
    · by_cases z : j1 = j
      · subst z; unfold slF; simp (disch := omega) only [upW_n, upW_s]; rw [q4]; simp [trY0, yB, uT, uB]
      · have q := q4
        unfold slF; simp (disch := omega) only [upW_n, upW_s]; refine q.trans ?_; simp [trY0, yC, yL, yP, yB, yS, yT, yF, uC, uL, uP, uB, uS, uT, uF, z]
  · refine (NW.eq (w := w) ?_ (fun j9 hj9 => by unfold slF; simp (disch := omega) only [upW_n, upW_s]))
    have q := n1 i hi
    first | exact q | (simp [trY0, yC, yL, yP, yB, yS, yT, yF, uC, uL, uP, uB, uS, uT, uF] at q ⊢; exact q)
  · refine (NW.eq (w := w) ?_ (fun i hi => by unfold slF; simp (disch := omega) only [upW_n, upW_s]))
    have q := n2 j1 hj1
    first | exact q | (simp [trY0, yC, yL, yP, yB, yS, yT, yF, uC, uL, uP, uB, uS, uT, uF] at q ⊢; exact q)
  · intro i j hi hj o p q9
    have q := s1 i j hi hj (o := o) p q9
    unfold slF; simp (disch := omega) only [upW_n, upW_s]; first | exact q | (refine q.trans ?_; simp [trY0, yC, yL, yP, yB, yS, yT, yF, uC, uL, uP, uB, uS, uT, uF])
  · refine ⟨k, ?_, k2, fun i hi => ?_⟩
    · unfold slF; simp (disch := omega) only [upW_n, upW_s]; exact k1
    · obtain ⟨s, x1, x2⟩ := k3 i hi
      exact ⟨s, x1, by unfold slF; simp (disch := omega) only [upW_n, upW_s]; exact x2⟩
end RWU
set_option maxHeartbeats 1000000 in
set_option maxRecDepth 4000 in
theorem m_sells {d : Nat} {w : Nat → Int32} {M : Mem} {Q : Out → Mem → Prop} {c b K m j : Nat} {Y : Yd} (hL : ML M) (h : RW Y m b K w) (hc : c < m) (hG : LG Y) (hA : Acy Y) (hM : MO9 Y c) (hp : ¬ yC Y c 8 ≤ 0) (hj : j < b) (hq : ∀ w', RW (trY Y c j) m b K w' → Q (.inl (some (.int (yPrice Y c - fRefund (yB Y j 3) (yErr Y c))))) (sW M w')) : WPc (d + 12) mX13_sells [.ref (rf 11 0), .int (nI c), .int (nI j)] (sW M w) Q := by
  refine WPc.of (by decide +kernel) (Nat.le_of_ble_eq_true rfl) rfl ?_
  refine R.aload_n dX13_sells_0 rfl (by first | rfl | exact rfv_rf _) ?_
  refine R.iload_n dX13_sells_1 rfl ?_
  refine cl_X13_157 rfl rfl (by first | exact Nat.le_of_ble_eq_true rfl | simp [rf_cat, Value.category]) dX13_sells_2 ?_
  refine m_price hL h hc hM hp ?_
  refine R.istore_n dX13_sells_5 (Nat.le_of_ble_eq_true rfl) (by decide) (by first | rfl | simp [lft, rf_cat]) rfl ?_
  refine R.aload_n dX13_sells_6 rfl (by first | rfl | exact rfv_rf _) ?_
  refine R.iload_n dX13_sells_7 rfl ?_
  refine R.iload_n dX13_sells_8 rfl ?_
  refine cl_X13_172 rfl rfl (by first | exact Nat.le_of_ble_eq_true rfl | simp [rf_cat, Value.category]) dX13_sells_9 ?_
  refine m_refund (d := d + 2) hL h hc hG hA hM hp hj ?_
  refine R.istore dX13_sells_12 (Nat.le_of_ble_eq_true rfl) (by decide) (by first | rfl | simp [lft, rf_cat]) rfl ?_
  refine R.aload_n dX13_sells_14 rfl (by first | rfl | exact rfv_rf _) ?_
  refine R.iload_n dX13_sells_15 rfl ?_
  refine R.bipush (v := nI 9) dX13_sells_16 (by decide) ?_
  refine R.aload_n dX13_sells_18 rfl (by first | rfl | exact rfv_rf _) ?_
  refine R.iload_n dX13_sells_19 rfl ?_
  refine R.iload_n dX13_sells_20 rfl ?_
  refine cl_X13_175 rfl rfl (by first | exact Nat.le_of_ble_eq_true rfl | simp [rf_cat, Value.category]) dX13_sells_21 ?_
  refine m_trust (d := d + 1) hL h hc hG hA hM hp hj ?_
  refine cl_X13_75 rfl rfl (by first | exact Nat.le_of_ble_eq_true rfl | simp [rf_cat, Value.category]) dX13_sells_24 ?_
  refine m_putsB hL (by have := h.bl; omega) (by omega) ?_
  refine R.aload_n dX13_sells_27 rfl (by first | rfl | exact rfv_rf _) ?_
  refine R.iload_n dX13_sells_28 rfl ?_
  refine R.bipush (v := nI 7) dX13_sells_29 (by decide) ?_
  refine R.aload_n dX13_sells_31 rfl (by first | rfl | exact rfv_rf _) ?_
  refine R.iload_n dX13_sells_32 rfl ?_
  refine R.bipush (v := nI 7) dX13_sells_33 (by decide) ?_
  refine cl_X13_154 rfl rfl (by first | exact Nat.le_of_ble_eq_true rfl | simp [rf_cat, Value.category]) dX13_sells_35 ?_
  refine m_ofB hL (by have := h.bl; omega) (by omega) ?_
  refine R.iload_n dX13_sells_38 rfl ?_
  refine R.isub dX13_sells_39 ?_
  refine R.iload dX13_sells_40 rfl ?_
  refine R.iadd dX13_sells_42 ?_
  refine cl_X13_75 rfl rfl (by first | exact Nat.le_of_ble_eq_true rfl | simp [rf_cat, Value.category]) dX13_sells_43 ?_
  refine m_putsB hL (by have := h.bl; omega) (by omega) ?_
  refine R.aload_n dX13_sells_46 rfl (by first | rfl | exact rfv_rf _) ?_
  refine R.iload_n dX13_sells_47 rfl ?_
  refine R.bipush (v := nI 10) dX13_sells_48 (by decide) ?_
  refine R.aload_n dX13_sells_50 rfl (by first | rfl | exact rfv_rf _) ?_
  refine R.iload_n dX13_sells_51 rfl ?_
  refine R.bipush (v := nI 10) dX13_sells_52 (by decide) ?_
  refine cl_X13_154 rfl rfl (by first | exact Nat.le_of_ble_eq_true rfl | simp [rf_cat, Value.category]) dX13_sells_54 ?_
  refine m_ofB hL (by have := h.bl; omega) (by omega) ?_
  refine R.iconst (v := 1) dX13_sells_57 rfl ?_
  refine R.iadd dX13_sells_58 ?_
  refine cl_X13_75 rfl rfl (by first | exact Nat.le_of_ble_eq_true rfl | simp [rf_cat, Value.category]) dX13_sells_59 ?_
  refine m_putsB hL (by have := h.bl; omega) (by omega) ?_
  refine R.aload_n dX13_sells_62 rfl (by first | rfl | exact rfv_rf _) ?_
  refine R.getS (hL.w) dX13_sells_63 fl_X13_7 (by decide) rfl ?_
  refine R.bipush (v := nI 11) dX13_sells_66 (by decide) ?_
  refine R.dup2 dX13_sells_68 rfl rfl ?_
  refine R.ialdN (k := 11) dX13_sells_69 (by omega) (by show _ < mN M 14 0; rw [hL.n]; omega) ?_
  rw [mI_sWc]
  refine R.iconst (v := 1) dX13_sells_70 rfl ?_
  refine R.iadd dX13_sells_71 ?_
  refine R.iastN (k := 11) dX13_sells_72 (by omega) (by show _ < mN M 14 0; rw [hL.n]; omega) ?_
  rw [sI_sW]
  refine R.aload_n dX13_sells_73 rfl (by first | rfl | exact rfv_rf _) ?_
  refine R.getS (hL.w) dX13_sells_74 fl_X13_7 (by decide) rfl ?_
  refine R.bipush (v := nI 12) dX13_sells_77 (by decide) ?_
  refine R.dup2 dX13_sells_79 rfl rfl ?_
  refine R.ialdN (k := 12) dX13_sells_80 (by omega) (by show _ < mN M 14 0; rw [hL.n]; omega) ?_
  rw [mI_sWc]
  refine R.iload_n dX13_sells_81 rfl ?_
  refine R.iadd dX13_sells_82 ?_
  refine R.iastN (k := 12) dX13_sells_83 (by omega) (by show _ < mN M 14 0; rw [hL.n]; omega) ?_
  rw [sI_sW]
  refine R.aload_n dX13_sells_84 rfl (by first | rfl | exact rfv_rf _) ?_
  refine R.getS (hL.w) dX13_sells_85 fl_X13_7 (by decide) rfl ?_
  refine R.bipush (v := nI 13) dX13_sells_88 (by decide) ?_
  refine R.dup2 dX13_sells_90 rfl rfl ?_
  refine R.ialdN (k := 13) dX13_sells_91 (by omega) (by show _ < mN M 14 0; rw [hL.n]; omega) ?_
  rw [mI_sWc]
  refine R.iload dX13_sells_92 rfl ?_
  refine R.iadd dX13_sells_94 ?_
  refine R.iastN (k := 13) dX13_sells_95 (by omega) (by show _ < mN M 14 0; rw [hL.n]; omega) ?_
  rw [sI_sW]
  refine R.aload_n dX13_sells_96 rfl (by first | rfl | exact rfv_rf _) ?_
  refine R.iload_n dX13_sells_97 rfl ?_
  refine cl_X13_169 rfl rfl (by first | exact Nat.le_of_ble_eq_true rfl | simp [rf_cat, Value.category]) dX13_sells_98 ?_
  have h3 := h.tr (c := c) (by have := h.bl; omega : j < 6)
  refine m_leaves (d := d + 4) hL 6 c (slF w j (fTrust (yB Y j 4) (yB Y j 3) (yErr Y c)) (yPrice Y c) (fRefund (yB Y j 3) (yErr Y c))) h3.t hc (fun x hx q => by rw [show itO (yP (trY0 Y c j)) 6 (some x) = none from it_6 hA hx] at q; cases q) (fun w4 g4 => ?_)
  have h4 := h3.lv (by have := h.t.le; omega : c < 16) g4
  refine R.iload_n dX13_sells_101 rfl ?_
  refine R.iload dX13_sells_102 rfl ?_
  refine R.isub dX13_sells_104 ?_
  refine WP.ret (ov := some (.int _)) dX13_sells_105 ⟨rfl, _, rfl, by first | rfl | assumption | exact nar_b01 (by assumption)⟩ ?_
  exact hq _ h4
