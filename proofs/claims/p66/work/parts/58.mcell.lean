/-! the array, cell by cell -/
section RWU
variable {Y : Yd} {m b K : Nat} {w : Nat → Int32}
set_option maxHeartbeats 1000000 in
theorem RW.gd {c : Nat} (v : Int32) (h : RW Y m b K w) (hc : c < 16) : RW (uC Y c 3 v) m b K (upW w (16 + 18 * c + 8) v) := by
  obtain ⟨⟨t1, t2, t3, t4⟩, ⟨a1, a2, a3, a4, a5, a6, a7, a8, a9, a10, a11, a12, a13, a14⟩, d1, g1, b1, ⟨n1, n2⟩, s1, ⟨k, k1, k2, k3⟩, bl⟩ := h
  refine ⟨⟨t1, ?_, ?_, ?_⟩, ⟨?_, ?_, ?_, ?_, ?_, ?_, ?_, ?_, ?_, ?_, ?_, ?_, ?_, ?_⟩, fun i hi => ?_, fun i hi => ?_, fun j hj => ?_, ⟨fun i hi => ?_, fun j hj => ?_⟩, ?_, ?_, bl⟩
  · have q := t2
    simp (disch := omega) only [upW_n, upW_s]; (first | exact q | (refine q.trans ?_; simp [yC, yL, yP, yB, yS, yT, yF, uC, uL, uP, uB, uS, uT, uF]) | (rw [q]; rfl))
  · intro k hk
    have q := t3 k hk
    simp (disch := omega) only [upW_n, upW_s]; (first | exact q | (refine q.trans ?_; simp [yC, yL, yP, yB, yS, yT, yF, uC, uL, uP, uB, uS, uT, uF]) | (rw [q]; rfl))
  · exact t4
  · have q := a1
    simp (disch := omega) only [upW_n, upW_s]; (first | exact q | (refine q.trans ?_; simp [yC, yL, yP, yB, yS, yT, yF, uC, uL, uP, uB, uS, uT, uF]) | (rw [q]; rfl))
  · have q := a2
    simp (disch := omega) only [upW_n, upW_s]; (first | exact q | (refine q.trans ?_; simp [yC, yL, yP, yB, yS, yT, yF, uC, uL, uP, uB, uS, uT, uF]) | (rw [q]; rfl))
  · have q := a3
    simp (disch := omega) only [upW_n, upW_s]; (first | exact q | (refine q.trans ?_; simp [yC, yL, yP, yB, yS, yT, yF, uC, uL, uP, uB, uS, uT, uF]) | (rw [q]; rfl))
  · have q := a4
    simp (disch := omega) only [upW_n, upW_s]; (first | exact q | (refine q.trans ?_; simp [yC, yL, yP, yB, yS, yT, yF, uC, uL, uP, uB, uS, uT, uF]) | (rw [q]; rfl))
  · have q := a5
    simp (disch := omega) only [upW_n, upW_s]; (first | exact q | (refine q.trans ?_; simp [yC, yL, yP, yB, yS, yT, yF, uC, uL, uP, uB, uS, uT, uF]) | (rw [q]; rfl))
  · have q := a6
    simp (disch := omega) only [upW_n, upW_s]; (first | exact q | (refine q.trans ?_; simp [yC, yL, yP, yB, yS, yT, yF, uC, uL, uP, uB, uS, uT, uF]) | (rw [q]; rfl))
  · have q := a7
    simp (disch := omega) only [upW_n, upW_s]; (first | exact q | (refine q.trans ?_; simp [yC, yL, yP, yB, yS, yT, yF, uC, uL, uP, uB, uS, uT, uF]) | (rw [q]; rfl))
  · have q := a8
    simp (disch := omega) only [upW_n, upW_s]; (first | exact q | (refine q.trans ?_; simp [yC, yL, yP, yB, yS, yT, yF, uC, uL, uP, uB, uS, uT, uF]) | (rw [q]; rfl))
  · have q := a9
    simp (disch := omega) only [upW_n, upW_s]; (first | exact q | (refine q.trans ?_; simp [yC, yL, yP, yB, yS, yT, yF, uC, uL, uP, uB, uS, uT, uF]) | (rw [q]; rfl))
  · have q := a10
    simp (disch := omega) only [upW_n, upW_s]; (first | exact q | (refine q.trans ?_; simp [yC, yL, yP, yB, yS, yT, yF, uC, uL, uP, uB, uS, uT, uF]) | (rw [q]; rfl))
  · have q := a11
    simp (disch := omega) only [upW_n, upW_s]; (first | exact q | (refine q.trans ?_; simp [yC, yL, yP, yB, yS, yT, yF, uC, uL, uP, uB, uS, uT, uF]) | (rw [q]; rfl))
  · have q := a12
    simp (disch := omega) only [upW_n, upW_s]; (first | exact q | (refine q.trans ?_; simp [yC, yL, yP, yB, yS, yT, yF, uC, uL, uP, uB, uS, uT, uF]) | (rw [q]; rfl))
  · have q := a13
    simp (disch := omega) only [upW_n, upW_s]; (first | exact q | (refine q.trans ?_; simp [yC, yL, yP, yB, yS, yT, yF, uC, uL, uP, uB, uS, uT, uF]) | (rw [q]; rfl))
  · have q := a14
    simp (disch := omega) only [upW_n, upW_s]; (first | exact q | (refine q.trans ?_; simp [yC, yL, yP, yB, yS, yT, yF, uC, uL, uP, uB, uS, uT, uF]) | (rw [q]; rfl))
  · obtain ⟨q1, q2, q3, q4, q5, q6⟩ := d1 i hi
    refine ⟨?_, ?_, ?_, ?_, ?_, ?_⟩
    · have q := q1
      simp (disch := omega) only [upW_n, upW_s]; (first | exact q | (refine q.trans ?_; simp [yC, yL, yP, yB, yS, yT, yF, uC, uL, uP, uB, uS, uT, uF]) | (rw [q]; rfl))
    · have q := q2
      simp (disch := omega) only [upW_n, upW_s]; (first | exact q | (refine q.trans ?_; simp [yC, yL, yP, yB, yS, yT, yF, uC, uL, uP, uB, uS, uT, uF]) | (rw [q]; rfl))
    · have q := q3
      simp (disch := omega) only [upW_n, upW_s]; (first | exact q | (refine q.trans ?_; simp [yC, yL, yP, yB, yS, yT, yF, uC, uL, uP, uB, uS, uT, uF]) | (rw [q]; rfl))
    · have q := q4
      simp (disch := omega) only [upW_n, upW_s]; (first | exact q | (refine q.trans ?_; simp [yC, yL, yP, yB, yS, yT, yF, uC, uL, uP, uB, uS, uT, uF]) | (rw [q]; rfl))
    · have q := q5
      simp (disch := omega) only [upW_n, upW_s]; (first | exact q | (refine q.trans ?_; simp [yC, yL, yP, yB, yS, yT, yF, uC, uL, uP, uB, uS, uT, uF]) | (rw [q]; rfl))
    · have q := q6
      simp (disch := omega) only [upW_n, upW_s]; (first | exact q | (refine q.trans ?_; simp [yC, yL, yP, yB, yS, yT, yF, uC, uL, uP, uB, uS, uT, uF]) | (rw [q]; rfl))
  · obtain ⟨q1, q2, q3⟩ := g1 i hi
    refine ⟨?_, ?_, ?_⟩
    · have q := q1
      simp (disch := omega) only [upW_n, upW_s]; (first | exact q | (refine q.trans ?_; simp [yC, yL, yP, yB, yS, yT, yF, uC, uL, uP, uB, uS, uT, uF]) | (rw [q]; rfl))
    · by_cases z : i = c
      · subst z; simp (disch := omega) only [upW_n, upW_s]; simp [yC, yL, yP, yB, yS, yT, yF, uC, uL, uP, uB, uS, uT, uF]
      · have q := q2
        rw [upW_n _ _ (by omega)]; refine q.trans ?_; simp [yC, yL, yP, yB, yS, yT, yF, uC, uL, uP, uB, uS, uT, uF, z]
    · have e : yC (uC Y c 3 v) i 7 = yC Y i 7 := if_neg (by omega)
      rw [upW_n _ _ (by omega), e]; exact q3
  · obtain ⟨q1, q2, q3, q4⟩ := b1 j hj
    refine ⟨?_, ?_, ?_, ?_⟩
    · have q := q1
      simp (disch := omega) only [upW_n, upW_s]; (first | exact q | (refine q.trans ?_; simp [yC, yL, yP, yB, yS, yT, yF, uC, uL, uP, uB, uS, uT, uF]) | (rw [q]; rfl))
    · have q := q2
      simp (disch := omega) only [upW_n, upW_s]; (first | exact q | (refine q.trans ?_; simp [yC, yL, yP, yB, yS, yT, yF, uC, uL, uP, uB, uS, uT, uF]) | (rw [q]; rfl))
    · have q := q3
      simp (disch := omega) only [upW_n, upW_s]; (first | exact q | (refine q.trans ?_; simp [yC, yL, yP, yB, yS, yT, yF, uC, uL, uP, uB, uS, uT, uF]) | (rw [q]; rfl))
    · have q := q4
      simp (disch := omega) only [upW_n, upW_s]; (first | exact q | (refine q.trans ?_; simp [yC, yL, yP, yB, yS, yT, yF, uC, uL, uP, uB, uS, uT, uF]) | (rw [q]; rfl))
  · refine (NW.eq (w := w) ?_ (fun j hj => by simp (disch := omega) only [upW_n, upW_s]))
    have q := n1 i hi
    first | exact q | (simp [yC, yL, yP, yB, yS, yT, yF, uC, uL, uP, uB, uS, uT, uF] at q ⊢; exact q)
  · refine (NW.eq (w := w) ?_ (fun i hi => by simp (disch := omega) only [upW_n, upW_s]))
    have q := n2 j hj
    first | exact q | (simp [yC, yL, yP, yB, yS, yT, yF, uC, uL, uP, uB, uS, uT, uF] at q ⊢; exact q)
  · intro i j hi hj o p q9
    have q := s1 i j hi hj (o := o) p q9
    simp (disch := omega) only [upW_n, upW_s]; first | exact q | (refine q.trans ?_; simp [yC, yL, yP, yB, yS, yT, yF, uC, uL, uP, uB, uS, uT, uF])
  · refine ⟨k, ?_, k2, fun i hi => ?_⟩
    · simp (disch := omega) only [upW_n, upW_s]; exact k1
    · obtain ⟨s, x1, x2⟩ := k3 i hi
      exact ⟨s, x1, by simp (disch := omega) only [upW_n, upW_s]; exact x2⟩
set_option maxHeartbeats 1000000 in
theorem RW.un {c : Nat} (h : RW Y m b K w) (hc : c < 16) : RW (uP Y c none) m b K (upW w (16 + 18 * c + 9) (-1)) := by
  obtain ⟨⟨t1, t2, t3, t4⟩, ⟨a1, a2, a3, a4, a5, a6, a7, a8, a9, a10, a11, a12, a13, a14⟩, d1, g1, b1, ⟨n1, n2⟩, s1, ⟨k, k1, k2, k3⟩, bl⟩ := h
  refine ⟨⟨t1, ?_, ?_, ?_⟩, ⟨?_, ?_, ?_, ?_, ?_, ?_, ?_, ?_, ?_, ?_, ?_, ?_, ?_, ?_⟩, fun i hi => ?_, fun i hi => ?_, fun j hj => ?_, ⟨fun i hi => ?_, fun j hj => ?_⟩, ?_, ?_, bl⟩
  · have q := t2
    simp (disch := omega) only [upW_n, upW_s]; (first | exact q | (refine q.trans ?_; simp [yC, yL, yP, yB, yS, yT, yF, uC, uL, uP, uB, uS, uT, uF]) | (rw [q]; rfl))
  · intro k hk
    by_cases z : k = c
    · subst z; rw [upW_s]; simp [pIx, yP, uP]
    · rw [upW_n _ _ (by omega)]; refine (t3 k hk).trans ?_; simp [pIx, yP, uP, z]
  · intro i j hi e
    by_cases z : i = c
    · subst z; simp [yP, uP] at e
    · simp [yP, uP, z] at e; exact t4 i j hi e
  · have q := a1
    simp (disch := omega) only [upW_n, upW_s]; (first | exact q | (refine q.trans ?_; simp [yC, yL, yP, yB, yS, yT, yF, uC, uL, uP, uB, uS, uT, uF]) | (rw [q]; rfl))
  · have q := a2
    simp (disch := omega) only [upW_n, upW_s]; (first | exact q | (refine q.trans ?_; simp [yC, yL, yP, yB, yS, yT, yF, uC, uL, uP, uB, uS, uT, uF]) | (rw [q]; rfl))
  · have q := a3
    simp (disch := omega) only [upW_n, upW_s]; (first | exact q | (refine q.trans ?_; simp [yC, yL, yP, yB, yS, yT, yF, uC, uL, uP, uB, uS, uT, uF]) | (rw [q]; rfl))
  · have q := a4
    simp (disch := omega) only [upW_n, upW_s]; (first | exact q | (refine q.trans ?_; simp [yC, yL, yP, yB, yS, yT, yF, uC, uL, uP, uB, uS, uT, uF]) | (rw [q]; rfl))
  · have q := a5
    simp (disch := omega) only [upW_n, upW_s]; (first | exact q | (refine q.trans ?_; simp [yC, yL, yP, yB, yS, yT, yF, uC, uL, uP, uB, uS, uT, uF]) | (rw [q]; rfl))
  · have q := a6
    simp (disch := omega) only [upW_n, upW_s]; (first | exact q | (refine q.trans ?_; simp [yC, yL, yP, yB, yS, yT, yF, uC, uL, uP, uB, uS, uT, uF]) | (rw [q]; rfl))
  · have q := a7
    simp (disch := omega) only [upW_n, upW_s]; (first | exact q | (refine q.trans ?_; simp [yC, yL, yP, yB, yS, yT, yF, uC, uL, uP, uB, uS, uT, uF]) | (rw [q]; rfl))
  · have q := a8
    simp (disch := omega) only [upW_n, upW_s]; (first | exact q | (refine q.trans ?_; simp [yC, yL, yP, yB, yS, yT, yF, uC, uL, uP, uB, uS, uT, uF]) | (rw [q]; rfl))
  · have q := a9
    simp (disch := omega) only [upW_n, upW_s]; (first | exact q | (refine q.trans ?_; simp [yC, yL, yP, yB, yS, yT, yF, uC, uL, uP, uB, uS, uT, uF]) | (rw [q]; rfl))
  · have q := a10
    simp (disch := omega) only [upW_n, upW_s]; (first | exact q | (refine q.trans ?_; simp [yC, yL, yP, yB, yS, yT, yF, uC, uL, uP, uB, uS, uT, uF]) | (rw [q]; rfl))
  · have q := a11
    simp (disch := omega) only [upW_n, upW_s]; (first | exact q | (refine q.trans ?_; simp [yC, yL, yP, yB, yS, yT, yF, uC, uL, uP, uB, uS, uT, uF]) | (rw [q]; rfl))
  · have q := a12
    simp (disch := omega) only [upW_n, upW_s]; (first | exact q | (refine q.trans ?_; simp [yC, yL, yP, yB, yS, yT, yF, uC, uL, uP, uB, uS, uT, uF]) | (rw [q]; rfl))
  · have q := a13
    simp (disch := omega) only [upW_n, upW_s]; (first | exact q | (refine q.trans ?_; simp [yC, yL, yP, yB, yS, yT, yF, uC, uL, uP, uB, uS, uT, uF]) | (rw [q]; rfl))
  · have q := a14
    simp (disch := omega) only [upW_n, upW_s]; (first | exact q | (refine q.trans ?_; simp [yC, yL, yP, yB, yS, yT, yF, uC, uL, uP, uB, uS, uT, uF]) | (rw [q]; rfl))
  · obtain ⟨q1, q2, q3, q4, q5, q6⟩ := d1 i hi
    refine ⟨?_, ?_, ?_, ?_, ?_, ?_⟩
    · have q := q1
      simp (disch := omega) only [upW_n, upW_s]; (first | exact q | (refine q.trans ?_; simp [yC, yL, yP, yB, yS, yT, yF, uC, uL, uP, uB, uS, uT, uF]) | (rw [q]; rfl))
    · have q := q2
      simp (disch := omega) only [upW_n, upW_s]; (first | exact q | (refine q.trans ?_; simp [yC, yL, yP, yB, yS, yT, yF, uC, uL, uP, uB, uS, uT, uF]) | (rw [q]; rfl))
    · have q := q3
      simp (disch := omega) only [upW_n, upW_s]; (first | exact q | (refine q.trans ?_; simp [yC, yL, yP, yB, yS, yT, yF, uC, uL, uP, uB, uS, uT, uF]) | (rw [q]; rfl))
    · have q := q4
      simp (disch := omega) only [upW_n, upW_s]; (first | exact q | (refine q.trans ?_; simp [yC, yL, yP, yB, yS, yT, yF, uC, uL, uP, uB, uS, uT, uF]) | (rw [q]; rfl))
    · have q := q5
      simp (disch := omega) only [upW_n, upW_s]; (first | exact q | (refine q.trans ?_; simp [yC, yL, yP, yB, yS, yT, yF, uC, uL, uP, uB, uS, uT, uF]) | (rw [q]; rfl))
    · have q := q6
      simp (disch := omega) only [upW_n, upW_s]; (first | exact q | (refine q.trans ?_; simp [yC, yL, yP, yB, yS, yT, yF, uC, uL, uP, uB, uS, uT, uF]) | (rw [q]; rfl))
  · obtain ⟨q1, q2, q3⟩ := g1 i hi
    refine ⟨?_, ?_, ?_⟩
    · have q := q1
      simp (disch := omega) only [upW_n, upW_s]; (first | exact q | (refine q.trans ?_; simp [yC, yL, yP, yB, yS, yT, yF, uC, uL, uP, uB, uS, uT, uF]) | (rw [q]; rfl))
    · have q := q2
      simp (disch := omega) only [upW_n, upW_s]; (first | exact q | (refine q.trans ?_; simp [yC, yL, yP, yB, yS, yT, yF, uC, uL, uP, uB, uS, uT, uF]) | (rw [q]; rfl))
    · have q := q3
      simp (disch := omega) only [upW_n, upW_s]; (first | exact q | (refine q.trans ?_; simp [yC, yL, yP, yB, yS, yT, yF, uC, uL, uP, uB, uS, uT, uF]) | (rw [q]; rfl))
  · obtain ⟨q1, q2, q3, q4⟩ := b1 j hj
    refine ⟨?_, ?_, ?_, ?_⟩
    · have q := q1
      simp (disch := omega) only [upW_n, upW_s]; (first | exact q | (refine q.trans ?_; simp [yC, yL, yP, yB, yS, yT, yF, uC, uL, uP, uB, uS, uT, uF]) | (rw [q]; rfl))
    · have q := q2
      simp (disch := omega) only [upW_n, upW_s]; (first | exact q | (refine q.trans ?_; simp [yC, yL, yP, yB, yS, yT, yF, uC, uL, uP, uB, uS, uT, uF]) | (rw [q]; rfl))
    · have q := q3
      simp (disch := omega) only [upW_n, upW_s]; (first | exact q | (refine q.trans ?_; simp [yC, yL, yP, yB, yS, yT, yF, uC, uL, uP, uB, uS, uT, uF]) | (rw [q]; rfl))
    · have q := q4
      simp (disch := omega) only [upW_n, upW_s]; (first | exact q | (refine q.trans ?_; simp [yC, yL, yP, yB, yS, yT, yF, uC, uL, uP, uB, uS, uT, uF]) | (rw [q]; rfl))
  · refine (NW.eq (w := w) ?_ (fun j hj => by simp (disch := omega) only [upW_n, upW_s]))
    have q := n1 i hi
    first | exact q | (simp [yC, yL, yP, yB, yS, yT, yF, uC, uL, uP, uB, uS, uT, uF] at q ⊢; exact q)
  · refine (NW.eq (w := w) ?_ (fun i hi => by simp (disch := omega) only [upW_n, upW_s]))
    have q := n2 j hj
    first | exact q | (simp [yC, yL, yP, yB, yS, yT, yF, uC, uL, uP, uB, uS, uT, uF] at q ⊢; exact q)
  · intro i j hi hj o p q9
    have z1 : ¬ i = c := fun z => by subst z; simp [yP, uP] at p
    have z2 : ¬ j = c := fun z => by subst z; simp [yP, uP] at q9
    have q := s1 i j hi hj (o := o) (by simpa [yP, uP, z1] using p) (by simpa [yP, uP, z2] using q9)
    simp (disch := omega) only [upW_n, upW_s]; exact q
  · refine ⟨k, ?_, k2, fun i hi => ?_⟩
    · simp (disch := omega) only [upW_n, upW_s]; exact k1
    · obtain ⟨s, x1, x2⟩ := k3 i hi
      exact ⟨s, x1, by simp (disch := omega) only [upW_n, upW_s]; exact x2⟩
set_option maxHeartbeats 1000000 in
theorem RW.am (v : Int32) (h : RW Y m b K w)  : RW (uS Y 1 v) m b K (upW w 2 v) := by
  obtain ⟨⟨t1, t2, t3, t4⟩, ⟨a1, a2, a3, a4, a5, a6, a7, a8, a9, a10, a11, a12, a13, a14⟩, d1, g1, b1, ⟨n1, n2⟩, s1, ⟨k, k1, k2, k3⟩, bl⟩ := h
  refine ⟨⟨t1, ?_, ?_, ?_⟩, ⟨?_, ?_, ?_, ?_, ?_, ?_, ?_, ?_, ?_, ?_, ?_, ?_, ?_, ?_⟩, fun i hi => ?_, fun i hi => ?_, fun j hj => ?_, ⟨fun i hi => ?_, fun j hj => ?_⟩, ?_, ?_, bl⟩
  · have q := t2
    simp (disch := omega) only [upW_n, upW_s]; (first | exact q | (refine q.trans ?_; simp [yC, yL, yP, yB, yS, yT, yF, uC, uL, uP, uB, uS, uT, uF]) | (rw [q]; rfl))
  · intro k hk
    have q := t3 k hk
    simp (disch := omega) only [upW_n, upW_s]; (first | exact q | (refine q.trans ?_; simp [yC, yL, yP, yB, yS, yT, yF, uC, uL, uP, uB, uS, uT, uF]) | (rw [q]; rfl))
  · exact t4
  · have q := a1
    simp (disch := omega) only [upW_n, upW_s]; (first | exact q | (refine q.trans ?_; simp [yC, yL, yP, yB, yS, yT, yF, uC, uL, uP, uB, uS, uT, uF]) | (rw [q]; rfl))
  · rw [upW_s]; simp [yS, uS]
  · have q := a3
    simp (disch := omega) only [upW_n, upW_s]; (first | exact q | (refine q.trans ?_; simp [yC, yL, yP, yB, yS, yT, yF, uC, uL, uP, uB, uS, uT, uF]) | (rw [q]; rfl))
  · have q := a4
    simp (disch := omega) only [upW_n, upW_s]; (first | exact q | (refine q.trans ?_; simp [yC, yL, yP, yB, yS, yT, yF, uC, uL, uP, uB, uS, uT, uF]) | (rw [q]; rfl))
  · have q := a5
    simp (disch := omega) only [upW_n, upW_s]; (first | exact q | (refine q.trans ?_; simp [yC, yL, yP, yB, yS, yT, yF, uC, uL, uP, uB, uS, uT, uF]) | (rw [q]; rfl))
  · have q := a6
    simp (disch := omega) only [upW_n, upW_s]; (first | exact q | (refine q.trans ?_; simp [yC, yL, yP, yB, yS, yT, yF, uC, uL, uP, uB, uS, uT, uF]) | (rw [q]; rfl))
  · have q := a7
    simp (disch := omega) only [upW_n, upW_s]; (first | exact q | (refine q.trans ?_; simp [yC, yL, yP, yB, yS, yT, yF, uC, uL, uP, uB, uS, uT, uF]) | (rw [q]; rfl))
  · have q := a8
    simp (disch := omega) only [upW_n, upW_s]; (first | exact q | (refine q.trans ?_; simp [yC, yL, yP, yB, yS, yT, yF, uC, uL, uP, uB, uS, uT, uF]) | (rw [q]; rfl))
  · have q := a9
    simp (disch := omega) only [upW_n, upW_s]; (first | exact q | (refine q.trans ?_; simp [yC, yL, yP, yB, yS, yT, yF, uC, uL, uP, uB, uS, uT, uF]) | (rw [q]; rfl))
  · have q := a10
    simp (disch := omega) only [upW_n, upW_s]; (first | exact q | (refine q.trans ?_; simp [yC, yL, yP, yB, yS, yT, yF, uC, uL, uP, uB, uS, uT, uF]) | (rw [q]; rfl))
  · have q := a11
    simp (disch := omega) only [upW_n, upW_s]; (first | exact q | (refine q.trans ?_; simp [yC, yL, yP, yB, yS, yT, yF, uC, uL, uP, uB, uS, uT, uF]) | (rw [q]; rfl))
  · have q := a12
    simp (disch := omega) only [upW_n, upW_s]; (first | exact q | (refine q.trans ?_; simp [yC, yL, yP, yB, yS, yT, yF, uC, uL, uP, uB, uS, uT, uF]) | (rw [q]; rfl))
  · have q := a13
    simp (disch := omega) only [upW_n, upW_s]; (first | exact q | (refine q.trans ?_; simp [yC, yL, yP, yB, yS, yT, yF, uC, uL, uP, uB, uS, uT, uF]) | (rw [q]; rfl))
  · have q := a14
    simp (disch := omega) only [upW_n, upW_s]; (first | exact q | (refine q.trans ?_; simp [yC, yL, yP, yB, yS, yT, yF, uC, uL, uP, uB, uS, uT, uF]) | (rw [q]; rfl))
  · obtain ⟨q1, q2, q3, q4, q5, q6⟩ := d1 i hi
    refine ⟨?_, ?_, ?_, ?_, ?_, ?_⟩
    · have q := q1
      simp (disch := omega) only [upW_n, upW_s]; (first | exact q | (refine q.trans ?_; simp [yC, yL, yP, yB, yS, yT, yF, uC, uL, uP, uB, uS, uT, uF]) | (rw [q]; rfl))
    · have q := q2
      simp (disch := omega) only [upW_n, upW_s]; (first | exact q | (refine q.trans ?_; simp [yC, yL, yP, yB, yS, yT, yF, uC, uL, uP, uB, uS, uT, uF]) | (rw [q]; rfl))
    · have q := q3
      simp (disch := omega) only [upW_n, upW_s]; (first | exact q | (refine q.trans ?_; simp [yC, yL, yP, yB, yS, yT, yF, uC, uL, uP, uB, uS, uT, uF]) | (rw [q]; rfl))
    · have q := q4
      simp (disch := omega) only [upW_n, upW_s]; (first | exact q | (refine q.trans ?_; simp [yC, yL, yP, yB, yS, yT, yF, uC, uL, uP, uB, uS, uT, uF]) | (rw [q]; rfl))
    · have q := q5
      simp (disch := omega) only [upW_n, upW_s]; (first | exact q | (refine q.trans ?_; simp [yC, yL, yP, yB, yS, yT, yF, uC, uL, uP, uB, uS, uT, uF]) | (rw [q]; rfl))
    · have q := q6
      simp (disch := omega) only [upW_n, upW_s]; (first | exact q | (refine q.trans ?_; simp [yC, yL, yP, yB, yS, yT, yF, uC, uL, uP, uB, uS, uT, uF]) | (rw [q]; rfl))
  · obtain ⟨q1, q2, q3⟩ := g1 i hi
    refine ⟨?_, ?_, ?_⟩
    · have q := q1
      simp (disch := omega) only [upW_n, upW_s]; (first | exact q | (refine q.trans ?_; simp [yC, yL, yP, yB, yS, yT, yF, uC, uL, uP, uB, uS, uT, uF]) | (rw [q]; rfl))
    · have q := q2
      simp (disch := omega) only [upW_n, upW_s]; (first | exact q | (refine q.trans ?_; simp [yC, yL, yP, yB, yS, yT, yF, uC, uL, uP, uB, uS, uT, uF]) | (rw [q]; rfl))
    · have q := q3
      simp (disch := omega) only [upW_n, upW_s]; (first | exact q | (refine q.trans ?_; simp [yC, yL, yP, yB, yS, yT, yF, uC, uL, uP, uB, uS, uT, uF]) | (rw [q]; rfl))
  · obtain ⟨q1, q2, q3, q4⟩ := b1 j hj
    refine ⟨?_, ?_, ?_, ?_⟩
    · have q := q1
      simp (disch := omega) only [upW_n, upW_s]; (first | exact q | (refine q.trans ?_; simp [yC, yL, yP, yB, yS, yT, yF, uC, uL, uP, uB, uS, uT, uF]) | (rw [q]; rfl))
    · have q := q2
      simp (disch := omega) only [upW_n, upW_s]; (first | exact q | (refine q.trans ?_; simp [yC, yL, yP, yB, yS, yT, yF, uC, uL, uP, uB, uS, uT, uF]) | (rw [q]; rfl))
    · have q := q3
      simp (disch := omega) only [upW_n, upW_s]; (first | exact q | (refine q.trans ?_; simp [yC, yL, yP, yB, yS, yT, yF, uC, uL, uP, uB, uS, uT, uF]) | (rw [q]; rfl))
    · have q := q4
      simp (disch := omega) only [upW_n, upW_s]; (first | exact q | (refine q.trans ?_; simp [yC, yL, yP, yB, yS, yT, yF, uC, uL, uP, uB, uS, uT, uF]) | (rw [q]; rfl))
  · refine (NW.eq (w := w) ?_ (fun j hj => by simp (disch := omega) only [upW_n, upW_s]))
    have q := n1 i hi
    first | exact q | (simp [yC, yL, yP, yB, yS, yT, yF, uC, uL, uP, uB, uS, uT, uF] at q ⊢; exact q)
  · refine (NW.eq (w := w) ?_ (fun i hi => by simp (disch := omega) only [upW_n, upW_s]))
    have q := n2 j hj
    first | exact q | (simp [yC, yL, yP, yB, yS, yT, yF, uC, uL, uP, uB, uS, uT, uF] at q ⊢; exact q)
  · intro i j hi hj o p q9
    have q := s1 i j hi hj (o := o) p q9
    simp (disch := omega) only [upW_n, upW_s]; first | exact q | (refine q.trans ?_; simp [yC, yL, yP, yB, yS, yT, yF, uC, uL, uP, uB, uS, uT, uF])
  · refine ⟨k, ?_, k2, fun i hi => ?_⟩
    · simp (disch := omega) only [upW_n, upW_s]; exact k1
    · obtain ⟨s, x1, x2⟩ := k3 i hi
      exact ⟨s, x1, by simp (disch := omega) only [upW_n, upW_s]; exact x2⟩
set_option maxHeartbeats 1000000 in
theorem RW.ag (v : Int32) (h : RW Y m b K w)  : RW (uS Y 2 v) m b K (upW w 4 v) := by
  obtain ⟨⟨t1, t2, t3, t4⟩, ⟨a1, a2, a3, a4, a5, a6, a7, a8, a9, a10, a11, a12, a13, a14⟩, d1, g1, b1, ⟨n1, n2⟩, s1, ⟨k, k1, k2, k3⟩, bl⟩ := h
  refine ⟨⟨t1, ?_, ?_, ?_⟩, ⟨?_, ?_, ?_, ?_, ?_, ?_, ?_, ?_, ?_, ?_, ?_, ?_, ?_, ?_⟩, fun i hi => ?_, fun i hi => ?_, fun j hj => ?_, ⟨fun i hi => ?_, fun j hj => ?_⟩, ?_, ?_, bl⟩
  · have q := t2
    simp (disch := omega) only [upW_n, upW_s]; (first | exact q | (refine q.trans ?_; simp [yC, yL, yP, yB, yS, yT, yF, uC, uL, uP, uB, uS, uT, uF]) | (rw [q]; rfl))
  · intro k hk
    have q := t3 k hk
    simp (disch := omega) only [upW_n, upW_s]; (first | exact q | (refine q.trans ?_; simp [yC, yL, yP, yB, yS, yT, yF, uC, uL, uP, uB, uS, uT, uF]) | (rw [q]; rfl))
  · exact t4
  · have q := a1
    simp (disch := omega) only [upW_n, upW_s]; (first | exact q | (refine q.trans ?_; simp [yC, yL, yP, yB, yS, yT, yF, uC, uL, uP, uB, uS, uT, uF]) | (rw [q]; rfl))
  · have q := a2
    simp (disch := omega) only [upW_n, upW_s]; (first | exact q | (refine q.trans ?_; simp [yC, yL, yP, yB, yS, yT, yF, uC, uL, uP, uB, uS, uT, uF]) | (rw [q]; rfl))
  · have q := a3
    simp (disch := omega) only [upW_n, upW_s]; (first | exact q | (refine q.trans ?_; simp [yC, yL, yP, yB, yS, yT, yF, uC, uL, uP, uB, uS, uT, uF]) | (rw [q]; rfl))
  · rw [upW_s]; simp [yS, uS]
  · have q := a5
    simp (disch := omega) only [upW_n, upW_s]; (first | exact q | (refine q.trans ?_; simp [yC, yL, yP, yB, yS, yT, yF, uC, uL, uP, uB, uS, uT, uF]) | (rw [q]; rfl))
  · have q := a6
    simp (disch := omega) only [upW_n, upW_s]; (first | exact q | (refine q.trans ?_; simp [yC, yL, yP, yB, yS, yT, yF, uC, uL, uP, uB, uS, uT, uF]) | (rw [q]; rfl))
  · have q := a7
    simp (disch := omega) only [upW_n, upW_s]; (first | exact q | (refine q.trans ?_; simp [yC, yL, yP, yB, yS, yT, yF, uC, uL, uP, uB, uS, uT, uF]) | (rw [q]; rfl))
  · have q := a8
    simp (disch := omega) only [upW_n, upW_s]; (first | exact q | (refine q.trans ?_; simp [yC, yL, yP, yB, yS, yT, yF, uC, uL, uP, uB, uS, uT, uF]) | (rw [q]; rfl))
  · have q := a9
    simp (disch := omega) only [upW_n, upW_s]; (first | exact q | (refine q.trans ?_; simp [yC, yL, yP, yB, yS, yT, yF, uC, uL, uP, uB, uS, uT, uF]) | (rw [q]; rfl))
  · have q := a10
    simp (disch := omega) only [upW_n, upW_s]; (first | exact q | (refine q.trans ?_; simp [yC, yL, yP, yB, yS, yT, yF, uC, uL, uP, uB, uS, uT, uF]) | (rw [q]; rfl))
  · have q := a11
    simp (disch := omega) only [upW_n, upW_s]; (first | exact q | (refine q.trans ?_; simp [yC, yL, yP, yB, yS, yT, yF, uC, uL, uP, uB, uS, uT, uF]) | (rw [q]; rfl))
  · have q := a12
    simp (disch := omega) only [upW_n, upW_s]; (first | exact q | (refine q.trans ?_; simp [yC, yL, yP, yB, yS, yT, yF, uC, uL, uP, uB, uS, uT, uF]) | (rw [q]; rfl))
  · have q := a13
    simp (disch := omega) only [upW_n, upW_s]; (first | exact q | (refine q.trans ?_; simp [yC, yL, yP, yB, yS, yT, yF, uC, uL, uP, uB, uS, uT, uF]) | (rw [q]; rfl))
  · have q := a14
    simp (disch := omega) only [upW_n, upW_s]; (first | exact q | (refine q.trans ?_; simp [yC, yL, yP, yB, yS, yT, yF, uC, uL, uP, uB, uS, uT, uF]) | (rw [q]; rfl))
  · obtain ⟨q1, q2, q3, q4, q5, q6⟩ := d1 i hi
    refine ⟨?_, ?_, ?_, ?_, ?_, ?_⟩
    · have q := q1
      simp (disch := omega) only [upW_n, upW_s]; (first | exact q | (refine q.trans ?_; simp [yC, yL, yP, yB, yS, yT, yF, uC, uL, uP, uB, uS, uT, uF]) | (rw [q]; rfl))
    · have q := q2
      simp (disch := omega) only [upW_n, upW_s]; (first | exact q | (refine q.trans ?_; simp [yC, yL, yP, yB, yS, yT, yF, uC, uL, uP, uB, uS, uT, uF]) | (rw [q]; rfl))
    · have q := q3
      simp (disch := omega) only [upW_n, upW_s]; (first | exact q | (refine q.trans ?_; simp [yC, yL, yP, yB, yS, yT, yF, uC, uL, uP, uB, uS, uT, uF]) | (rw [q]; rfl))
    · have q := q4
      simp (disch := omega) only [upW_n, upW_s]; (first | exact q | (refine q.trans ?_; simp [yC, yL, yP, yB, yS, yT, yF, uC, uL, uP, uB, uS, uT, uF]) | (rw [q]; rfl))
    · have q := q5
      simp (disch := omega) only [upW_n, upW_s]; (first | exact q | (refine q.trans ?_; simp [yC, yL, yP, yB, yS, yT, yF, uC, uL, uP, uB, uS, uT, uF]) | (rw [q]; rfl))
    · have q := q6
      simp (disch := omega) only [upW_n, upW_s]; (first | exact q | (refine q.trans ?_; simp [yC, yL, yP, yB, yS, yT, yF, uC, uL, uP, uB, uS, uT, uF]) | (rw [q]; rfl))
  · obtain ⟨q1, q2, q3⟩ := g1 i hi
    refine ⟨?_, ?_, ?_⟩
    · have q := q1
      simp (disch := omega) only [upW_n, upW_s]; (first | exact q | (refine q.trans ?_; simp [yC, yL, yP, yB, yS, yT, yF, uC, uL, uP, uB, uS, uT, uF]) | (rw [q]; rfl))
    · have q := q2
      simp (disch := omega) only [upW_n, upW_s]; (first | exact q | (refine q.trans ?_; simp [yC, yL, yP, yB, yS, yT, yF, uC, uL, uP, uB, uS, uT, uF]) | (rw [q]; rfl))
    · have q := q3
      simp (disch := omega) only [upW_n, upW_s]; (first | exact q | (refine q.trans ?_; simp [yC, yL, yP, yB, yS, yT, yF, uC, uL, uP, uB, uS, uT, uF]) | (rw [q]; rfl))
  · obtain ⟨q1, q2, q3, q4⟩ := b1 j hj
    refine ⟨?_, ?_, ?_, ?_⟩
    · have q := q1
      simp (disch := omega) only [upW_n, upW_s]; (first | exact q | (refine q.trans ?_; simp [yC, yL, yP, yB, yS, yT, yF, uC, uL, uP, uB, uS, uT, uF]) | (rw [q]; rfl))
    · have q := q2
      simp (disch := omega) only [upW_n, upW_s]; (first | exact q | (refine q.trans ?_; simp [yC, yL, yP, yB, yS, yT, yF, uC, uL, uP, uB, uS, uT, uF]) | (rw [q]; rfl))
    · have q := q3
      simp (disch := omega) only [upW_n, upW_s]; (first | exact q | (refine q.trans ?_; simp [yC, yL, yP, yB, yS, yT, yF, uC, uL, uP, uB, uS, uT, uF]) | (rw [q]; rfl))
    · have q := q4
      simp (disch := omega) only [upW_n, upW_s]; (first | exact q | (refine q.trans ?_; simp [yC, yL, yP, yB, yS, yT, yF, uC, uL, uP, uB, uS, uT, uF]) | (rw [q]; rfl))
  · refine (NW.eq (w := w) ?_ (fun j hj => by simp (disch := omega) only [upW_n, upW_s]))
    have q := n1 i hi
    first | exact q | (simp [yC, yL, yP, yB, yS, yT, yF, uC, uL, uP, uB, uS, uT, uF] at q ⊢; exact q)
  · refine (NW.eq (w := w) ?_ (fun i hi => by simp (disch := omega) only [upW_n, upW_s]))
    have q := n2 j hj
    first | exact q | (simp [yC, yL, yP, yB, yS, yT, yF, uC, uL, uP, uB, uS, uT, uF] at q ⊢; exact q)
  · intro i j hi hj o p q9
    have q := s1 i j hi hj (o := o) p q9
    simp (disch := omega) only [upW_n, upW_s]; first | exact q | (refine q.trans ?_; simp [yC, yL, yP, yB, yS, yT, yF, uC, uL, uP, uB, uS, uT, uF])
  · refine ⟨k, ?_, k2, fun i hi => ?_⟩
    · simp (disch := omega) only [upW_n, upW_s]; exact k1
    · obtain ⟨s, x1, x2⟩ := k3 i hi
      exact ⟨s, x1, by simp (disch := omega) only [upW_n, upW_s]; exact x2⟩
set_option maxHeartbeats 1000000 in
theorem RW.sp  (h : RW Y m b K w)  : RW (spY Y) m b K (upW (upW w 7 0) 10 (w 10 + 1)) := by
  obtain ⟨⟨t1, t2, t3, t4⟩, ⟨a1, a2, a3, a4, a5, a6, a7, a8, a9, a10, a11, a12, a13, a14⟩, d1, g1, b1, ⟨n1, n2⟩, s1, ⟨k, k1, k2, k3⟩, bl⟩ := h
  refine ⟨⟨t1, ?_, ?_, ?_⟩, ⟨?_, ?_, ?_, ?_, ?_, ?_, ?_, ?_, ?_, ?_, ?_, ?_, ?_, ?_⟩, fun i hi => ?_, fun i hi => ?_, fun j hj => ?_, ⟨fun i hi => ?_, fun j hj => ?_⟩, ?_, ?_, bl⟩
  · have q := t2
    simp (disch := omega) only [upW_n, upW_s]; (first | exact q | (refine q.trans ?_; simp [yC, yL, yP, yB, yS, yT, yF, uC, uL, uP, uB, uS, uT, uF]) | (rw [q]; rfl))
  · intro k hk
    have q := t3 k hk
    simp (disch := omega) only [upW_n, upW_s]; (first | exact q | (refine q.trans ?_; simp [yC, yL, yP, yB, yS, yT, yF, uC, uL, uP, uB, uS, uT, uF]) | (rw [q]; rfl))
  · exact t4
  · have q := a1
    simp (disch := omega) only [upW_n, upW_s]; (first | exact q | (refine q.trans ?_; simp [yC, yL, yP, yB, yS, yT, yF, uC, uL, uP, uB, uS, uT, uF]) | (rw [q]; rfl))
  · have q := a2
    simp (disch := omega) only [upW_n, upW_s]; (first | exact q | (refine q.trans ?_; simp [yC, yL, yP, yB, yS, yT, yF, uC, uL, uP, uB, uS, uT, uF]) | (rw [q]; rfl))
  · have q := a3
    simp (disch := omega) only [upW_n, upW_s]; (first | exact q | (refine q.trans ?_; simp [yC, yL, yP, yB, yS, yT, yF, uC, uL, uP, uB, uS, uT, uF]) | (rw [q]; rfl))
  · have q := a4
    simp (disch := omega) only [upW_n, upW_s]; (first | exact q | (refine q.trans ?_; simp [yC, yL, yP, yB, yS, yT, yF, uC, uL, uP, uB, uS, uT, uF]) | (rw [q]; rfl))
  · have q := a5
    simp (disch := omega) only [upW_n, upW_s]; (first | exact q | (refine q.trans ?_; simp [yC, yL, yP, yB, yS, yT, yF, uC, uL, uP, uB, uS, uT, uF]) | (rw [q]; rfl))
  · have q := a6
    simp (disch := omega) only [upW_n, upW_s]; (first | exact q | (refine q.trans ?_; simp [yC, yL, yP, yB, yS, yT, yF, uC, uL, uP, uB, uS, uT, uF]) | (rw [q]; rfl))
  · simp (disch := omega) only [upW_n, upW_s]; simp [spY, yS, uS, uT]
  · have q := a8
    simp (disch := omega) only [upW_n, upW_s]; (first | exact q | (refine q.trans ?_; simp [yC, yL, yP, yB, yS, yT, yF, uC, uL, uP, uB, uS, uT, uF]) | (rw [q]; rfl))
  · have q := a9
    simp (disch := omega) only [upW_n, upW_s]; (first | exact q | (refine q.trans ?_; simp [yC, yL, yP, yB, yS, yT, yF, uC, uL, uP, uB, uS, uT, uF]) | (rw [q]; rfl))
  · rw [upW_s, a10]; simp [spY, yT, uS, uT]
  · have q := a11
    simp (disch := omega) only [upW_n, upW_s]; (first | exact q | (refine q.trans ?_; simp [yC, yL, yP, yB, yS, yT, yF, uC, uL, uP, uB, uS, uT, uF]) | (rw [q]; rfl))
  · have q := a12
    simp (disch := omega) only [upW_n, upW_s]; (first | exact q | (refine q.trans ?_; simp [yC, yL, yP, yB, yS, yT, yF, uC, uL, uP, uB, uS, uT, uF]) | (rw [q]; rfl))
  · have q := a13
    simp (disch := omega) only [upW_n, upW_s]; (first | exact q | (refine q.trans ?_; simp [yC, yL, yP, yB, yS, yT, yF, uC, uL, uP, uB, uS, uT, uF]) | (rw [q]; rfl))
  · have q := a14
    simp (disch := omega) only [upW_n, upW_s]; (first | exact q | (refine q.trans ?_; simp [yC, yL, yP, yB, yS, yT, yF, uC, uL, uP, uB, uS, uT, uF]) | (rw [q]; rfl))
  · obtain ⟨q1, q2, q3, q4, q5, q6⟩ := d1 i hi
    refine ⟨?_, ?_, ?_, ?_, ?_, ?_⟩
    · have q := q1
      simp (disch := omega) only [upW_n, upW_s]; (first | exact q | (refine q.trans ?_; simp [yC, yL, yP, yB, yS, yT, yF, uC, uL, uP, uB, uS, uT, uF]) | (rw [q]; rfl))
    · have q := q2
      simp (disch := omega) only [upW_n, upW_s]; (first | exact q | (refine q.trans ?_; simp [yC, yL, yP, yB, yS, yT, yF, uC, uL, uP, uB, uS, uT, uF]) | (rw [q]; rfl))
    · have q := q3
      simp (disch := omega) only [upW_n, upW_s]; (first | exact q | (refine q.trans ?_; simp [yC, yL, yP, yB, yS, yT, yF, uC, uL, uP, uB, uS, uT, uF]) | (rw [q]; rfl))
    · have q := q4
      simp (disch := omega) only [upW_n, upW_s]; (first | exact q | (refine q.trans ?_; simp [yC, yL, yP, yB, yS, yT, yF, uC, uL, uP, uB, uS, uT, uF]) | (rw [q]; rfl))
    · have q := q5
      simp (disch := omega) only [upW_n, upW_s]; (first | exact q | (refine q.trans ?_; simp [yC, yL, yP, yB, yS, yT, yF, uC, uL, uP, uB, uS, uT, uF]) | (rw [q]; rfl))
    · have q := q6
      simp (disch := omega) only [upW_n, upW_s]; (first | exact q | (refine q.trans ?_; simp [yC, yL, yP, yB, yS, yT, yF, uC, uL, uP, uB, uS, uT, uF]) | (rw [q]; rfl))
  · obtain ⟨q1, q2, q3⟩ := g1 i hi
    refine ⟨?_, ?_, ?_⟩
    · have q := q1
      simp (disch := omega) only [upW_n, upW_s]; (first | exact q | (refine q.trans ?_; simp [yC, yL, yP, yB, yS, yT, yF, uC, uL, uP, uB, uS, uT, uF]) | (rw [q]; rfl))
    · have q := q2
      simp (disch := omega) only [upW_n, upW_s]; (first | exact q | (refine q.trans ?_; simp [yC, yL, yP, yB, yS, yT, yF, uC, uL, uP, uB, uS, uT, uF]) | (rw [q]; rfl))
    · have q := q3
      simp (disch := omega) only [upW_n, upW_s]; (first | exact q | (refine q.trans ?_; simp [yC, yL, yP, yB, yS, yT, yF, uC, uL, uP, uB, uS, uT, uF]) | (rw [q]; rfl))
  · obtain ⟨q1, q2, q3, q4⟩ := b1 j hj
    refine ⟨?_, ?_, ?_, ?_⟩
    · have q := q1
      simp (disch := omega) only [upW_n, upW_s]; (first | exact q | (refine q.trans ?_; simp [yC, yL, yP, yB, yS, yT, yF, uC, uL, uP, uB, uS, uT, uF]) | (rw [q]; rfl))
    · have q := q2
      simp (disch := omega) only [upW_n, upW_s]; (first | exact q | (refine q.trans ?_; simp [yC, yL, yP, yB, yS, yT, yF, uC, uL, uP, uB, uS, uT, uF]) | (rw [q]; rfl))
    · have q := q3
      simp (disch := omega) only [upW_n, upW_s]; (first | exact q | (refine q.trans ?_; simp [yC, yL, yP, yB, yS, yT, yF, uC, uL, uP, uB, uS, uT, uF]) | (rw [q]; rfl))
    · have q := q4
      simp (disch := omega) only [upW_n, upW_s]; (first | exact q | (refine q.trans ?_; simp [yC, yL, yP, yB, yS, yT, yF, uC, uL, uP, uB, uS, uT, uF]) | (rw [q]; rfl))
  · refine (NW.eq (w := w) ?_ (fun j hj => by simp (disch := omega) only [upW_n, upW_s]))
    have q := n1 i hi
    first | exact q | (simp [yC, yL, yP, yB, yS, yT, yF, uC, uL, uP, uB, uS, uT, uF] at q ⊢; exact q)
  · refine (NW.eq (w := w) ?_ (fun i hi => by simp (disch := omega) only [upW_n, upW_s]))
    have q := n2 j hj
    first | exact q | (simp [yC, yL, yP, yB, yS, yT, yF, uC, uL, uP, uB, uS, uT, uF] at q ⊢; exact q)
  · intro i j hi hj o p q9
    have q := s1 i j hi hj (o := o) p q9
    simp (disch := omega) only [upW_n, upW_s]; first | exact q | (refine q.trans ?_; simp [yC, yL, yP, yB, yS, yT, yF, uC, uL, uP, uB, uS, uT, uF])
  · refine ⟨k, ?_, k2, fun i hi => ?_⟩
    · simp (disch := omega) only [upW_n, upW_s]; exact k1
    · obtain ⟨s, x1, x2⟩ := k3 i hi
      exact ⟨s, x1, by simp (disch := omega) only [upW_n, upW_s]; exact x2⟩
set_option maxHeartbeats 1000000 in
theorem RW.ne {c o : Nat} (h : RW Y m b K w) (hc : c < m) (ho : o < m) (hF : ∃ f, yF Y 8 = nI f ∧ f < 2 ^ 31 - 1) (hb : ∀ i, i < 16 → yP Y i ≠ none → (yC Y i 6).toInt ≤ (yF Y 8).toInt) (hK : K < 2 ^ 31 - 1) : RW (uC (uF (uP Y c (some o)) 8 (yF Y 8 + 1)) c 6 (yF Y 8 + 1)) m b (K + 1) (upW (upW (upW w (16 + 18 * c + 9) (nI o)) (16 + 18 * c + 10) (w 15)) 15 (w 15 + 1)) := by
  obtain ⟨⟨t1, t2, t3, t4⟩, ⟨a1, a2, a3, a4, a5, a6, a7, a8, a9, a10, a11, a12, a13, a14⟩, d1, g1, b1, ⟨n1, n2⟩, s1, ⟨k, k1, k2, k3⟩, bl⟩ := h
  refine ⟨⟨t1, ?_, ?_, ?_⟩, ⟨?_, ?_, ?_, ?_, ?_, ?_, ?_, ?_, ?_, ?_, ?_, ?_, ?_, ?_⟩, fun i hi => ?_, fun i hi => ?_, fun j hj => ?_, ⟨fun i hi => ?_, fun j hj => ?_⟩, ?_, ?_, bl⟩
  · have q := t2
    simp (disch := omega) only [upW_n, upW_s]; (first | exact q | (refine q.trans ?_; simp [yC, yL, yP, yB, yS, yT, yF, uC, uL, uP, uB, uS, uT, uF]) | (rw [q]; rfl))
  · intro k2 hk
    by_cases z : k2 = c
    · subst z; simp (disch := omega) only [upW_n, upW_s]; simp [pIx, yP, uP, uC, uF]
    · simp (disch := omega) only [upW_n, upW_s]; refine (t3 k2 hk).trans ?_; simp [pIx, yP, uP, uC, uF, z]
  · intro i j hi e
    by_cases z : i = c
    · subst z; simp [yP, uP, uC, uF] at e; subst e; exact ⟨hc, ho⟩
    · simp [yP, uP, uC, uF, z] at e; exact t4 i j hi e
  · have q := a1
    simp (disch := omega) only [upW_n, upW_s]; (first | exact q | (refine q.trans ?_; simp [yC, yL, yP, yB, yS, yT, yF, uC, uL, uP, uB, uS, uT, uF]) | (rw [q]; rfl))
  · have q := a2
    simp (disch := omega) only [upW_n, upW_s]; (first | exact q | (refine q.trans ?_; simp [yC, yL, yP, yB, yS, yT, yF, uC, uL, uP, uB, uS, uT, uF]) | (rw [q]; rfl))
  · have q := a3
    simp (disch := omega) only [upW_n, upW_s]; (first | exact q | (refine q.trans ?_; simp [yC, yL, yP, yB, yS, yT, yF, uC, uL, uP, uB, uS, uT, uF]) | (rw [q]; rfl))
  · have q := a4
    simp (disch := omega) only [upW_n, upW_s]; (first | exact q | (refine q.trans ?_; simp [yC, yL, yP, yB, yS, yT, yF, uC, uL, uP, uB, uS, uT, uF]) | (rw [q]; rfl))
  · have q := a5
    simp (disch := omega) only [upW_n, upW_s]; (first | exact q | (refine q.trans ?_; simp [yC, yL, yP, yB, yS, yT, yF, uC, uL, uP, uB, uS, uT, uF]) | (rw [q]; rfl))
  · have q := a6
    simp (disch := omega) only [upW_n, upW_s]; (first | exact q | (refine q.trans ?_; simp [yC, yL, yP, yB, yS, yT, yF, uC, uL, uP, uB, uS, uT, uF]) | (rw [q]; rfl))
  · have q := a7
    simp (disch := omega) only [upW_n, upW_s]; (first | exact q | (refine q.trans ?_; simp [yC, yL, yP, yB, yS, yT, yF, uC, uL, uP, uB, uS, uT, uF]) | (rw [q]; rfl))
  · have q := a8
    simp (disch := omega) only [upW_n, upW_s]; (first | exact q | (refine q.trans ?_; simp [yC, yL, yP, yB, yS, yT, yF, uC, uL, uP, uB, uS, uT, uF]) | (rw [q]; rfl))
  · have q := a9
    simp (disch := omega) only [upW_n, upW_s]; (first | exact q | (refine q.trans ?_; simp [yC, yL, yP, yB, yS, yT, yF, uC, uL, uP, uB, uS, uT, uF]) | (rw [q]; rfl))
  · have q := a10
    simp (disch := omega) only [upW_n, upW_s]; (first | exact q | (refine q.trans ?_; simp [yC, yL, yP, yB, yS, yT, yF, uC, uL, uP, uB, uS, uT, uF]) | (rw [q]; rfl))
  · have q := a11
    simp (disch := omega) only [upW_n, upW_s]; (first | exact q | (refine q.trans ?_; simp [yC, yL, yP, yB, yS, yT, yF, uC, uL, uP, uB, uS, uT, uF]) | (rw [q]; rfl))
  · have q := a12
    simp (disch := omega) only [upW_n, upW_s]; (first | exact q | (refine q.trans ?_; simp [yC, yL, yP, yB, yS, yT, yF, uC, uL, uP, uB, uS, uT, uF]) | (rw [q]; rfl))
  · have q := a13
    simp (disch := omega) only [upW_n, upW_s]; (first | exact q | (refine q.trans ?_; simp [yC, yL, yP, yB, yS, yT, yF, uC, uL, uP, uB, uS, uT, uF]) | (rw [q]; rfl))
  · have q := a14
    simp (disch := omega) only [upW_n, upW_s]; (first | exact q | (refine q.trans ?_; simp [yC, yL, yP, yB, yS, yT, yF, uC, uL, uP, uB, uS, uT, uF]) | (rw [q]; rfl))
  · obtain ⟨q1, q2, q3, q4, q5, q6⟩ := d1 i hi
    have e8 : yC (uC (uF (uP Y c (some o)) 8 (yF Y 8 + 1)) c 6 (yF Y 8 + 1)) i 8 = yC Y i 8 := if_neg (by omega)
    have e11 : yC (uC (uF (uP Y c (some o)) 8 (yF Y 8 + 1)) c 6 (yF Y 8 + 1)) i 11 = yC Y i 11 := if_neg (by omega)
    have e12 : yC (uC (uF (uP Y c (some o)) 8 (yF Y 8 + 1)) c 6 (yF Y 8 + 1)) i 12 = yC Y i 12 := if_neg (by omega)
    refine ⟨?_, ?_, ?_, ?_, ?_, ?_⟩ <;> simp (disch := omega) only [upW_n, upW_s]
    · rw [e8]; exact q1
    · exact q2
    · rw [e11]; exact q3
    · exact q4
    · rw [e8]; exact q5
    · rw [e12]; exact q6
  · obtain ⟨q1, q2, q3⟩ := g1 i hi
    have e8 : yC (uC (uF (uP Y c (some o)) 8 (yF Y 8 + 1)) c 6 (yF Y 8 + 1)) i 2 = yC Y i 2 := if_neg (by omega)
    have e11 : yC (uC (uF (uP Y c (some o)) 8 (yF Y 8 + 1)) c 6 (yF Y 8 + 1)) i 3 = yC Y i 3 := if_neg (by omega)
    have e12 : yC (uC (uF (uP Y c (some o)) 8 (yF Y 8 + 1)) c 6 (yF Y 8 + 1)) i 7 = yC Y i 7 := if_neg (by omega)
    refine ⟨?_, ?_, ?_⟩ <;> simp (disch := omega) only [upW_n, upW_s]
    · rw [e8]; exact q1
    · rw [e11]; exact q2
    · rw [e12]; exact q3
  · obtain ⟨q1, q2, q3, q4⟩ := b1 j hj
    refine ⟨?_, ?_, ?_, ?_⟩
    · have q := q1
      simp (disch := omega) only [upW_n, upW_s]; (first | exact q | (refine q.trans ?_; simp [yC, yL, yP, yB, yS, yT, yF, uC, uL, uP, uB, uS, uT, uF]) | (rw [q]; rfl))
    · have q := q2
      simp (disch := omega) only [upW_n, upW_s]; (first | exact q | (refine q.trans ?_; simp [yC, yL, yP, yB, yS, yT, yF, uC, uL, uP, uB, uS, uT, uF]) | (rw [q]; rfl))
    · have q := q3
      simp (disch := omega) only [upW_n, upW_s]; (first | exact q | (refine q.trans ?_; simp [yC, yL, yP, yB, yS, yT, yF, uC, uL, uP, uB, uS, uT, uF]) | (rw [q]; rfl))
    · have q := q4
      simp (disch := omega) only [upW_n, upW_s]; (first | exact q | (refine q.trans ?_; simp [yC, yL, yP, yB, yS, yT, yF, uC, uL, uP, uB, uS, uT, uF]) | (rw [q]; rfl))
  · refine (NW.eq (w := w) ?_ (fun j hj => by simp (disch := omega) only [upW_n, upW_s]))
    have q := n1 i hi
    first | exact q | (simp [yC, yL, yP, yB, yS, yT, yF, uC, uL, uP, uB, uS, uT, uF] at q ⊢; exact q)
  · refine (NW.eq (w := w) ?_ (fun i hi => by simp (disch := omega) only [upW_n, upW_s]))
    have q := n2 j hj
    first | exact q | (simp [yC, yL, yP, yB, yS, yT, yF, uC, uL, uP, uB, uS, uT, uF] at q ⊢; exact q)
  · intro i j hi hj o2 p q9
    obtain ⟨f, f1, f2⟩ := hF
    have fs : (yF Y 8 + 1).toInt = (yF Y 8).toInt + 1 := by rw [f1, nI_s1, nI_toInt (by omega), nI_toInt (by omega)]; omega
    have c6 : ∀ x, x < 16 → ¬ x = c → yC (uC (uF (uP Y c (some o)) 8 (yF Y 8 + 1)) c 6 (yF Y 8 + 1)) x 6 = yC Y x 6 := fun x _ hx => if_neg fun z => hx z.1
    have cc : yC (uC (uF (uP Y c (some o)) 8 (yF Y 8 + 1)) c 6 (yF Y 8 + 1)) c 6 = yF Y 8 + 1 := if_pos ⟨rfl, rfl⟩
    have kI : (w 15).toInt = k := by rw [k1]; exact nI_toInt (by omega)
    have sI9 : ∀ x, x < m → (w (16 + 18 * x + 10)).toInt < k := fun x hx => by
      obtain ⟨s, x1, x2⟩ := k3 x hx
      rw [x2, nI_toInt (by omega)]; omega
    by_cases z1 : i = c
    · by_cases z2 : j = c
      · rw [z1, z2]
        exact ⟨fun q => absurd (Int32.lt_iff_toInt_lt.mp q) (Int.lt_irrefl _), fun q => absurd q (Int.lt_irrefl _)⟩
      · have pj : yP Y j = some o2 := by simpa [yP, uP, uC, uF, z2] using q9
        have := hb j (by omega) (by rw [pj]; intro q; cases q)
        have := sI9 j hj
        subst z1
        rw [c6 j (by omega) z2, cc]
        simp (disch := omega) only [upW_n, upW_s]
        rw [Int32.lt_iff_toInt_lt]
        omega
    · have pi : yP Y i = some o2 := by simpa [yP, uP, uC, uF, z1] using p
      by_cases z2 : j = c
      · have := hb i (by omega) (by rw [pi]; intro q; cases q)
        have := sI9 i hi
        subst z2
        rw [c6 i (by omega) z1, cc]
        simp (disch := omega) only [upW_n, upW_s]
        rw [Int32.lt_iff_toInt_lt]
        omega
      · have pj : yP Y j = some o2 := by simpa [yP, uP, uC, uF, z2] using q9
        rw [c6 i (by omega) z1, c6 j (by omega) z2]
        simp (disch := omega) only [upW_n, upW_s]
        exact s1 i j hi hj pi pj
  · refine ⟨k + 1, ?_, by omega, fun i hi => ?_⟩
    · rw [upW_s, k1, nI_s1]
    · by_cases z : i = c
      · subst z; exact ⟨k, by omega, by simp (disch := omega) only [upW_n, upW_s]; exact k1⟩
      · obtain ⟨s, x1, x2⟩ := k3 i hi
        exact ⟨s, by omega, by simp (disch := omega) only [upW_n, upW_s]; exact x2⟩
end RWU
