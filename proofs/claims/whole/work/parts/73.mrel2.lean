/-! the array below 370 alone counts -/
theorem RW.eq {Y : Yd} {m b K : Nat} {w w' : Nat → Int32} (h : RW Y m b K w) (hw : ∀ x, x < 370 → w' x = w x) : RW Y m b K w' := by
  obtain ⟨⟨t1, t2, t3, t4⟩, ⟨a1, a2, a3, a4, a5, a6, a7, a8, a9, a10, a11, a12, a13, a14⟩, d1, g1, b1, ⟨n1, n2⟩, s1, ⟨k, k1, k2, k3⟩, bl⟩ := h
  refine ⟨⟨t1, by rw [hw 0 (by omega)]; exact t2, fun k hk => by rw [hw _ (by omega)]; exact t3 k hk, t4⟩, ⟨by rw [hw 1 (by omega)]; exact a1, by rw [hw 2 (by omega)]; exact a2, by rw [hw 3 (by omega)]; exact a3, by rw [hw 4 (by omega)]; exact a4, by rw [hw 5 (by omega)]; exact a5, by rw [hw 6 (by omega)]; exact a6, by rw [hw 7 (by omega)]; exact a7, by rw [hw 8 (by omega)]; exact a8, by rw [hw 9 (by omega)]; exact a9, by rw [hw 10 (by omega)]; exact a10, by rw [hw 11 (by omega)]; exact a11, by rw [hw 12 (by omega)]; exact a12, by rw [hw 13 (by omega)]; exact a13, by rw [hw 14 (by omega)]; exact a14⟩, fun i hi => ?_, fun i hi => ?_, fun j hj => ?_, ⟨fun i hi => (n1 i hi).eq fun j hj => hw _ (by omega), fun j hj => (n2 j hj).eq fun i hi => hw _ (by omega)⟩, fun i j hi hj o p q => ?_, ⟨k, by rw [hw 15 (by omega)]; exact k1, k2, fun i hi => ?_⟩, bl⟩
  · obtain ⟨q1, q2, q3, q4, q5, q6⟩ := d1 i hi
    exact ⟨by rw [hw _ (by omega)]; exact q1, by rw [hw _ (by omega)]; exact q2, by rw [hw _ (by omega)]; exact q3, by rw [hw _ (by omega)]; exact q4, by rw [hw _ (by omega)]; exact q5, by rw [hw _ (by omega)]; exact q6⟩
  · obtain ⟨q1, q2, q3⟩ := g1 i hi
    exact ⟨by rw [hw _ (by omega)]; exact q1, by rw [hw _ (by omega)]; exact q2, by rw [hw _ (by omega)]; exact q3⟩
  · obtain ⟨q1, q2, q3, q4⟩ := b1 j hj
    exact ⟨by rw [hw _ (by omega)]; exact q1, by rw [hw _ (by omega)]; exact q2, by rw [hw _ (by omega)]; exact q3, by rw [hw _ (by omega)]; exact q4⟩
  · rw [hw _ (by omega), hw _ (by omega)]
    exact s1 i j hi hj p q
  · obtain ⟨s, x1, x2⟩ := k3 i hi
    exact ⟨s, x1, by rw [hw _ (by omega)]; exact x2⟩
