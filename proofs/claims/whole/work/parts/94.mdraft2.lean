/-! the model reads crates and buyers -/
theorem acY_C (Y : Yd) (n : Nat) (nm ta go : Int32) (i f : Nat) : yC (acY Y n nm ta go) i f = if i = n ∧ f = 7 then 1 else if i = n ∧ f = 4 then ta + go else if i = n ∧ f = 3 then go else if i = n ∧ f = 2 then ta else if i = n ∧ f = 1 then nm else yC Y i f := rfl
theorem abY_B (Y : Yd) (n : Nat) (nm mo to tr : Int32) (j f : Nat) : yB (abY Y n nm mo to tr) j f = if j = n ∧ f = 4 then tr else if j = n ∧ f = 3 then to else if j = n ∧ f = 2 then mo else if j = n ∧ f = 1 then nm else yB Y j f := rfl
/-- without readings nothing is discarded -/
theorem aw_z {x : Int32} : ∀ (n : Nat) (Y : Yd) (o : Option Nat), ZR Y → (∀ i, i < 16 → ∀ j, yP Y i = some j → j < 16) → (∀ k, o = some k → k < 16) → (∀ i f, f ≠ 4 → yC (awO n Y o x) i f = yC Y i f) ∧ (∀ i f, yL (awO n Y o x) i f = yL Y i f) ∧ ∀ f, yT (awO n Y o x) f = yT Y f := by
  intro n
  induction n with
  | zero => intro Y o _ _ _; exact ⟨fun _ _ _ => rfl, fun _ _ => rfl, fun _ => rfl⟩
  | succ n ih =>
    intro Y o hZ hP ho
    cases o with
    | none => exact ⟨fun _ _ _ => rfl, fun _ _ => rfl, fun _ => rfl⟩
    | some k =>
      have hk := ho k rfl
      obtain ⟨z1, z2, z3, z4, z5⟩ := hZ k hk
      have c1 : ∀ i f, f ≠ 4 → yC (awC Y k x) i f = yC Y i f := fun i f hf => by
        rw [awC_C]
        by_cases e1 : i = k ∧ f = 12
        · rw [if_pos e1, e1.1, e1.2, z5]
        · rw [if_neg e1]
          by_cases e2 : i = k ∧ f = 11
          · rw [if_pos e2, e2.1, e2.2, z4]
          · rw [if_neg e2]
            by_cases e3 : i = k ∧ f = 8
            · rw [if_pos e3, e3.1, e3.2, z1]
            · rw [if_neg e3, if_neg (fun q => hf q.2)]
      have c2 : ∀ i f, yL (awC Y k x) i f = yL Y i f := fun i f => by
        rw [awC_L]
        by_cases e1 : i = k ∧ f = 10
        · rw [if_pos e1, e1.1, e1.2, z3]
        · rw [if_neg e1]
          by_cases e2 : i = k ∧ f = 9
          · rw [if_pos e2, e2.1, e2.2, z2]
          · rw [if_neg e2]
      have c3 : ∀ f, yT (awC Y k x) f = yT Y f := fun f => by
        show (if f = 1 then yT Y 1 + yC Y k 8 else yT Y f) = yT Y f
        by_cases e : f = 1
        · rw [if_pos e, z1, Int32.add_zero, e]
        · rw [if_neg e]
      have hZ2 : ZR (awC Y k x) := fun i hi => by
        rw [c1 i 8 (by omega), c1 i 11 (by omega), c1 i 12 (by omega), c2, c2]
        exact hZ i hi
      obtain ⟨q1, q2, q3⟩ := ih (awC Y k x) (yP Y k) hZ2 hP (fun i e => hP k hk i e)
      exact ⟨fun i f hf => (q1 i f hf).trans (c1 i f hf), fun i f => (q2 i f).trans (c2 i f), fun f => (q3 f).trans (c3 f)⟩
theorem PV.ac {Y : Yd} {m b T : Nat} {nm : Int32} {ta go : Nat} (h : PV Y m b T) (hZ : ZR Y) (hm : m < 16) (h1 : ta ≤ 50) (h2 : go ≤ 500) : PV (acY Y m nm (nI ta) (nI go)) (m + 1) b T := by
  have hp := fun {i j : Nat} (hi : i < 16) (e : yP Y i = some j) => h.p hi e
  obtain ⟨⟨a1, a2, a3⟩, l, s, d, e, f, z, q⟩ := h
  obtain ⟨c1, c2, c3, c4, c5, c6, c7⟩ := a3
  have eP : yP (acY Y m nm (nI ta) (nI go)) = yP Y := rfl
  have pn : yP Y m = none := by
    cases e9 : yP Y m with
    | none => rfl
    | some j => have := hp hm e9; omega
  refine ⟨⟨fun i hi => ?_, a2, by omega, c2, ?_, c4, fun i hi hm2 => ?_, c6, fun i j hi e9 => ?_⟩, fun i hi => ?_, ?_, fun i hi => ?_, fun i hi => ?_, f, ?_, q⟩
  · rw [acY_C]
    by_cases z : i = m
    · rw [if_pos ⟨z, rfl⟩]; exact Or.inr rfl
    · rw [if_neg (fun q => z q.1), if_neg (fun q => z q.1), if_neg (fun q => z q.1), if_neg (fun q => z q.1), if_neg (fun q => z q.1)]; exact a1 i hi
  · show yF Y 4 + 1 = _
    rw [c3, nI_s1]
  · rw [acY_C, if_neg (by omega), if_neg (by omega), if_neg (by omega), if_neg (by omega), if_neg (by omega)]
    exact c5 i hi (by omega)
  · have := c7 i j hi e9
    omega
  · have es : sm (fun c => if yP Y c = some i then yC (acY Y m nm (nI ta) (nI go)) c 4 else 0) 16 = sm (fun c => if yP Y c = some i then yC Y c 4 else 0) 16 := by
      refine sm_c fun c _ => ?_
      by_cases y : yP Y c = some i
      · rw [if_pos y, if_pos y, acY_C, if_neg (by omega), if_neg (fun q => by rw [q.1, pn] at y; cases y), if_neg (by omega), if_neg (by omega), if_neg (by omega)]
      · rw [if_neg y, if_neg y]
    rw [eP, es, acY_C, acY_C, acY_C]
    by_cases z : i = m
    · subst z
      rw [if_neg (by omega), if_pos ⟨rfl, rfl⟩, if_neg (by omega), if_neg (by omega), if_neg (by omega), if_pos ⟨rfl, rfl⟩, if_neg (by omega), if_neg (by omega), if_pos ⟨rfl, rfl⟩, sm_z, az]
      intro c hc
      rw [if_neg]
      intro y
      have := hp hc y
      omega
    · have n : ∀ (f g : Nat), ¬ (i = m ∧ f = g) := fun f g q => z q.1
      rw [if_neg (n _ _), if_neg (n _ _), if_neg (n _ _), if_neg (n _ _), if_neg (n _ _), if_neg (n _ _), if_neg (n _ _), if_neg (n _ _), if_neg (n _ _), if_neg (n _ _), if_neg (n _ _), if_neg (n _ _), if_neg (n _ _), if_neg (n _ _), if_neg (n _ _)]
      exact l i hi
  · obtain ⟨t, t1, t2, t3, t4⟩ := s
    refine ⟨t, t1, t2, fun i hi => ?_, fun i hi j hj => ?_⟩
    · rw [acY_C, if_neg (by omega), if_neg (by omega), if_neg (by omega), if_neg (by omega), if_neg (by omega)]
      exact t3 i hi
    · rw [acY_C, acY_C, if_neg (by omega), if_neg (by omega), if_neg (by omega), if_neg (by omega), if_neg (by omega), if_neg (by omega), if_neg (by omega), if_neg (by omega), if_neg (by omega), if_neg (by omega)]
      exact t4 i hi j hj
  · rw [acY_C, acY_C]
    by_cases z : i = m
    · subst z
      rw [if_neg (by omega), if_neg (by omega), if_neg (by omega), if_pos ⟨rfl, rfl⟩, if_neg (by omega), if_neg (by omega), if_pos ⟨rfl, rfl⟩]
      exact ⟨ta, go, rfl, h1, rfl, h2⟩
    · have n : ∀ (f g : Nat), ¬ (i = m ∧ f = g) := fun f g q => z q.1
      rw [if_neg (n _ _), if_neg (n _ _), if_neg (n _ _), if_neg (n _ _), if_neg (n _ _), if_neg (n _ _), if_neg (n _ _), if_neg (n _ _), if_neg (n _ _), if_neg (n _ _)]
      exact d i hi
  · refine (e i hi).eq ?_
    obtain ⟨z1, z2, z3, z4, z5⟩ := hZ i hi
    left
    rw [acY_C, acY_C, if_neg (by omega), if_neg (by omega), if_neg (by omega), if_neg (by omega), if_neg (by omega), if_neg (by omega), if_neg (by omega), if_neg (by omega), if_neg (by omega), if_neg (by omega)]
    exact ⟨z1, z2, z3, z5⟩
  · refine ⟨fun i hi hm2 => ?_, z.2⟩
    rw [acY_C, if_neg (by omega), if_neg (by omega), if_neg (by omega), if_neg (by omega), if_neg (by omega)]
    exact z.1 i hi (by omega)
theorem PV.ab {Y : Yd} {m b T : Nat} {nm mo to tr : Int32} (h : PV Y m b T) (hb : b < 6) : PV (abY Y b nm mo to tr) m (b + 1) T := by
  obtain ⟨⟨a1, a2, a3⟩, l, s, d, e, f, z, q⟩ := h
  obtain ⟨c1, c2, c3, c4, c5, c6, c7⟩ := a3
  refine ⟨⟨a1, a2, c1, by omega, c3, ?_, c5, fun j hj hb2 => ?_, c7⟩, l, s, d, e, f, ⟨z.1, fun j hj hb2 => ?_⟩, q⟩
  · show yF Y 5 + 1 = _
    rw [c4, nI_s1]
  · rw [abY_B, if_neg (by omega), if_neg (by omega), if_neg (by omega), if_neg (by omega)]
    exact c6 j hj (by omega)
  · rw [abY_B, abY_B, if_neg (by omega), if_neg (by omega), if_neg (by omega), if_neg (by omega), if_neg (by omega), if_neg (by omega), if_neg (by omega), if_neg (by omega)]
    exact z.2 j hj (by omega)
theorem mo_ab {Y Z : Yd} {b : Nat} {mo : Int32} (hb : b < 6) (hz : yB Y b 2 = 0) (e : ∀ j, yB Z j 2 = if j = b then mo else yB Y j 2) : ∀ (n i : Nat) (a : Int32), i + n = 6 → moF Z n i a = moF Y n i a + if i ≤ b then mo else 0 := by
  intro n
  induction n with
  | zero =>
    intro i a hi
    rw [moF, moF, if_neg (by omega), Int32.add_zero]
  | succ n ih =>
    intro i a hi
    rw [moF, moF, ih (i + 1) _ (by omega), e]
    by_cases z : i = b
    · subst z
      rw [if_pos rfl, if_neg (by omega), if_pos (Nat.le_refl _), hz, Int32.add_zero, Int32.add_zero, mo_a]
    · rw [if_neg z]
      by_cases y : i ≤ b
      · rw [if_pos y, if_pos (by omega)]
      · rw [if_neg y, if_neg (by omega)]
/-- a crate without a parent -/
theorem DR.ac {Y : Yd} {m b : Nat} {w : Nat → Int32} {L : Nat} {nm : Int32} {ta go : Nat} (h : DR Y m b w) (hm : m < 16) (h1 : ta ≤ 50) (h2 : go ≤ 500) (hN : NW nm (acW w m (nI L) (nI ta) (nI go) (-1)) (16 + 18 * m)) : DR (acY Y m nm (nI ta) (nI go)) (m + 1) b (acW w m (nI L) (nI ta) (nI go) (-1)) := by
  obtain ⟨hR, hV, hZ, hT, hM⟩ := h
  have pn : yP Y m = none := by
    cases e9 : yP Y m with
    | none => rfl
    | some j => have := hV.p hm e9; omega
  refine ⟨?_, (hV.ac hZ hm h1 h2).mono (Nat.le_succ m), fun i hi => ?_, hT, hM⟩
  · refine RW.ac (Y' := uT (acY Y m nm (nI ta) (nI go)) 6 0) (nm := nm) (po := none) hR hm (fun j e => nomatch e) (fun i f hf hi => ?_) ⟨?_, ?_, ?_, ?_, ?_, ?_, ?_⟩ (fun _ _ => rfl) (fun i => ?_) rfl rfl (fun f => rfl) (fun f hf => ?_) (fun i hi => ?_) (fun j e => nomatch e) hN
    · show yC (acY Y m nm (nI ta) (nI go)) i f = yC Y i f
      have n : ∀ g : Nat, ¬ (i = m ∧ f = g) := fun g q => hi q.1
      rw [acY_C, if_neg (n _), if_neg (n _), if_neg (n _), if_neg (n _), if_neg (n _)]
    · show yC (acY Y m nm (nI ta) (nI go)) m 1 = _
      rw [acY_C]; simp
    · show yC (acY Y m nm (nI ta) (nI go)) m 2 = _
      rw [acY_C]; simp
    · show yC (acY Y m nm (nI ta) (nI go)) m 3 = _
      rw [acY_C]; simp
    · show yC (acY Y m nm (nI ta) (nI go)) m 7 = _
      rw [acY_C]; simp
    · show yC (acY Y m nm (nI ta) (nI go)) m 8 = yC Y m 8
      rw [acY_C]; simp
    · show yC (acY Y m nm (nI ta) (nI go)) m 11 = yC Y m 11
      rw [acY_C]; simp
    · show yC (acY Y m nm (nI ta) (nI go)) m 12 = yC Y m 12
      rw [acY_C]; simp
    · show yP Y i = if i = m then none else yP Y i
      by_cases z : i = m
      · rw [if_pos z, z, pn]
      · rw [if_neg z]
    · show (if f = 4 then _ else yF Y f) = yF Y f
      rw [if_neg (by omega)]
    · show yC (acY Y m nm (nI ta) (nI go)) i 6 = yC Y i 6
      rw [acY_C, if_neg (by omega), if_neg (by omega), if_neg (by omega), if_neg (by omega), if_neg (by omega)]
  · obtain ⟨z1, z2, z3, z4, z5⟩ := hZ i hi
    rw [acY_C, acY_C, acY_C]
    simp only [show ¬ (i = m ∧ 8 = 7) from by omega, show ¬ (i = m ∧ 8 = 4) from by omega, show ¬ (i = m ∧ 8 = 3) from by omega, show ¬ (i = m ∧ 8 = 2) from by omega, show ¬ (i = m ∧ 8 = 1) from by omega, show ¬ (i = m ∧ 11 = 7) from by omega, show ¬ (i = m ∧ 11 = 4) from by omega, show ¬ (i = m ∧ 11 = 3) from by omega, show ¬ (i = m ∧ 11 = 2) from by omega, show ¬ (i = m ∧ 11 = 1) from by omega, show ¬ (i = m ∧ 12 = 7) from by omega, show ¬ (i = m ∧ 12 = 4) from by omega, show ¬ (i = m ∧ 12 = 3) from by omega, show ¬ (i = m ∧ 12 = 2) from by omega, show ¬ (i = m ∧ 12 = 1) from by omega, if_false]
    exact ⟨z1, z2, z3, z4, z5⟩
theorem ac_pn {Y : Yd} {m b : Nat} {nm ta go : Int32} (h : PV Y m b m) (hm : m < 16) : yP (acY Y m nm ta go) m = none := by
  cases e9 : yP Y m with
  | none => exact e9
  | some j => have := h.p hm e9; omega
/-- a crate in another -/
theorem DR.ne {Y : Yd} {m b j : Nat} {w : Nat → Int32} {L : Nat} {nm : Int32} {ta go : Nat} (h : DR Y m b w) (hm : m < 16) (hj : j < m) (h1 : ta ≤ 50) (h2 : go ≤ 500) (hA2 : Acy (neY (acY Y m nm (nI ta) (nI go)) m j)) (hN : NW nm (acW w m (nI L) (nI ta) (nI go) (nI j)) (16 + 18 * m)) : DR (neY (acY Y m nm (nI ta) (nI go)) m j) (m + 1) b (acW w m (nI L) (nI ta) (nI go) (nI j)) := by
  obtain ⟨hR, hV, hZ, hT, hM⟩ := h
  have hV1 := hV.ac (nm := nm) hZ hm h1 h2
  have pn := ac_pn (nm := nm) (ta := nI ta) (go := nI go) hV hm
  have hV2 := hV1.ne (i := m) (o := j) (by omega) (by omega) (by omega) hA2
  generalize e1 : acY Y m nm (nI ta) (nI go) = Y1 at *
  have c1 : ∀ i f, yC Y1 i f = if i = m ∧ f = 7 then 1 else if i = m ∧ f = 4 then nI ta + nI go else if i = m ∧ f = 3 then nI go else if i = m ∧ f = 2 then nI ta else if i = m ∧ f = 1 then nm else yC Y i f := fun i f => by rw [← e1]; rfl
  have l1 : yL Y1 = yL Y := by rw [← e1]; rfl
  have p1 : yP Y1 = yP Y := by rw [← e1]; rfl
  have t1 : yT Y1 = yT Y := by rw [← e1]; rfl
  have s1 : yS Y1 = yS Y := by rw [← e1]; rfl
  have b1 : yB Y1 = yB Y := by rw [← e1]; rfl
  have f1 : ∀ f, f ≠ 4 → yF Y1 f = yF Y f := fun f hf => by rw [← e1]; exact if_neg hf
  have hZ1 : ZR Y1 := fun i hi => by
    obtain ⟨z1, z2, z3, z4, z5⟩ := hZ i hi
    rw [c1, c1, c1, l1]
    refine ⟨?_, z2, z3, ?_, ?_⟩
    · rw [if_neg (by omega), if_neg (by omega), if_neg (by omega), if_neg (by omega), if_neg (by omega)]; exact z1
    · rw [if_neg (by omega), if_neg (by omega), if_neg (by omega), if_neg (by omega), if_neg (by omega)]; exact z4
    · rw [if_neg (by omega), if_neg (by omega), if_neg (by omega), if_neg (by omega), if_neg (by omega)]; exact z5
  have a0 : awO 5 Y1 (yP Y1 m) (-(yC Y1 m 4)) = Y1 := by rw [pn]; rfl
  -- the yard before the weights are added
  have C0 : ∀ i f, yC (neY0 Y1 m j) i f = if i = m ∧ f = 6 then yF Y1 8 + 1 else yC Y1 i f := fun i f => by
    show (if i = m ∧ f = 6 then yF (awO 5 Y1 (yP Y1 m) (-(yC Y1 m 4))) 8 + 1 else yC (awO 5 Y1 (yP Y1 m) (-(yC Y1 m 4))) i f) = _
    rw [a0]
  have L0 : yL (neY0 Y1 m j) = yL Y1 := by
    show yL (awO 5 Y1 (yP Y1 m) (-(yC Y1 m 4))) = _
    rw [a0]
  have T0 : yT (neY0 Y1 m j) = yT Y1 := by
    show yT (awO 5 Y1 (yP Y1 m) (-(yC Y1 m 4))) = _
    rw [a0]
  have hZ0 : ZR (neY0 Y1 m j) := fun i hi => by
    rw [C0, C0, C0, L0, if_neg (by omega), if_neg (by omega), if_neg (by omega)]
    exact hZ1 i hi
  have hP0 : ∀ i, i < 16 → ∀ k, yP (neY0 Y1 m j) i = some k → k < 16 := fun i hi k e => by
    rw [yP_neY0] at e
    have e : (if i = m then some j else yP Y1 i) = some k := e
    by_cases z : i = m
    · rw [if_pos z] at e; cases e; omega
    · rw [if_neg z] at e; exact hV1.p16 i hi k e
  obtain ⟨q1, q2, q3⟩ := aw_z (x := yC (neY0 Y1 m j) m 4) 6 (neY0 Y1 m j) (some j) hZ0 hP0 (fun k e => by cases e; omega)
  have C2 : ∀ i f, f ≠ 4 → yC (neY Y1 m j) i f = if i = m ∧ f = 6 then yF Y1 8 + 1 else yC Y1 i f := fun i f hf => (q1 i f hf).trans (C0 i f)
  obtain ⟨w1, w2, w3, w4⟩ := aw_st 6 (neY0 Y1 m j) (some j) (yC (neY0 Y1 m j) m 4)
  obtain ⟨v1, v2, v3, v4⟩ := aw_st 5 Y1 (yP Y1 m) (-(yC Y1 m 4))
  have S2 : yS (neY Y1 m j) = yS Y := (w1.trans v1).trans s1
  have B2 : yB (neY Y1 m j) = yB Y := (w3.trans v3).trans b1
  have T2 : ∀ f, yT (neY Y1 m j) f = yT Y f := fun f => (q3 f).trans (by rw [T0, t1])
  have P2 : ∀ i, yP (neY Y1 m j) i = if i = m then some j else yP Y i := fun i => by rw [yP_neY, p1]
  have F2 : ∀ f, f ≠ 8 → yF (neY Y1 m j) f = yF Y1 f := fun f hf => yF_neY Y1 m j f hf
  obtain ⟨t, u1, u2, u3, u4⟩ := hV.s
  refine ⟨?_, hV2, fun i hi => ?_, fun f hf => (T2 f).trans (hT f hf), ?_⟩
  · refine RW.ac (Y' := uT (neY Y1 m j) 6 0) (nm := nm) (po := some j) hR hm (fun k e => by cases e; exact hj) (fun i f hf hi => ?_) ⟨?_, ?_, ?_, ?_, ?_, ?_, ?_⟩ (fun i f => ?_) (fun i => P2 i) S2 B2 (fun f => ?_) (fun f hf => ?_) (fun i hi => ?_) (fun k e i hi hn => ?_) hN
    · show yC (neY Y1 m j) i f = yC Y i f
      have n : ∀ g : Nat, ¬ (i = m ∧ f = g) := fun g q => hi q.1
      rw [C2 i f (by omega), if_neg (n _), c1, if_neg (n _), if_neg (n _), if_neg (n _), if_neg (n _), if_neg (n _)]
    · show yC (neY Y1 m j) m 1 = _
      rw [C2 m 1 (by omega), c1]; simp
    · show yC (neY Y1 m j) m 2 = _
      rw [C2 m 2 (by omega), c1]; simp
    · show yC (neY Y1 m j) m 3 = _
      rw [C2 m 3 (by omega), c1]; simp
    · show yC (neY Y1 m j) m 7 = _
      rw [C2 m 7 (by omega), c1]; simp
    · show yC (neY Y1 m j) m 8 = yC Y m 8
      rw [C2 m 8 (by omega), c1]; simp
    · show yC (neY Y1 m j) m 11 = yC Y m 11
      rw [C2 m 11 (by omega), c1]; simp
    · show yC (neY Y1 m j) m 12 = yC Y m 12
      rw [C2 m 12 (by omega), c1]; simp
    · show yL (neY Y1 m j) i f = yL Y i f
      exact (q2 i f).trans (by rw [L0, l1])
    · show (if f = 6 then 0 else yT (neY Y1 m j) f) = if f = 6 then 0 else yT Y f
      rw [T2]
    · show yF (neY Y1 m j) f = yF Y f
      rw [F2 f (by omega), f1 f (by omega)]
    · show yC (neY Y1 m j) i 6 = yC Y i 6
      rw [C2 i 6 (by omega), if_neg (by omega), c1, if_neg (by omega), if_neg (by omega), if_neg (by omega), if_neg (by omega), if_neg (by omega)]
    · show (yC Y i 6).toInt < (yC (neY Y1 m j) m 6).toInt
      obtain ⟨s, x1, x2, -⟩ := u3 i (by omega)
      rw [C2 m 6 (by omega), if_pos ⟨rfl, rfl⟩, f1 8 (by omega), u2, nI_s1, x2, nI_toInt (by omega), nI_toInt (by omega)]
      omega
  · obtain ⟨z1, z2, z3, z4, z5⟩ := hZ1 i hi
    rw [C2 i 8 (by omega), C2 i 11 (by omega), C2 i 12 (by omega), if_neg (by omega), if_neg (by omega), if_neg (by omega)]
    exact ⟨z1, (q2 i 9).trans (by rw [L0]; exact z2), (q2 i 10).trans (by rw [L0]; exact z3), z4, z5⟩
  · rw [T2, hM]
    have : ∀ n i a, moF (neY Y1 m j) n i a = moF Y n i a := by
      intro n
      induction n with
      | zero => intro i a; rfl
      | succ n ih => intro i a; rw [moF, moF, ih, B2]
    exact (this _ _ _).symm
theorem DR.ab {Y : Yd} {m b : Nat} {w : Nat → Int32} {L : Nat} {nm mo to tr : Int32} (h : DR Y m b w) (hb : b < 6) (hN : NW nm (abW w b (nI L) mo to tr) (304 + 11 * b)) : DR (abY Y b nm mo to tr) m (b + 1) (abW w b (nI L) mo to tr) := by
  obtain ⟨hR, hV, hZ, hT, hM⟩ := h
  refine ⟨?_, hV.ab hb, hZ, fun f hf => ?_, ?_⟩
  · refine RW.ab (Y' := uT (abY Y b nm mo to tr) 6 0) (nm := nm) hR hb rfl rfl rfl rfl (fun j f => rfl) (fun f => ?_) ⟨?_, ?_, ?_⟩ hN
    · show (if f = 6 then (0 : Int32) else if f = 6 then _ else yT Y f) = if f = 6 then 0 else yT Y f
      by_cases z : f = 6
      · rw [if_pos z, if_pos z]
      · rw [if_neg z, if_neg z, if_neg z]
    · show yF Y 5 + 1 = _
      rw [hV.f5, nI_s1]
    · rfl
    · rfl
  · show (if f = 6 then _ else yT Y f) = 0
    rw [if_neg (by omega)]
    exact hT f hf
  · show yT Y 6 + mo = _
    rw [hM, mo_ab (Y := Y) (Z := abY Y b nm mo to tr) (b := b) (mo := mo) hb (hV.z.2 b hb (Nat.le_refl _)).1 (fun j => ?_) 6 0 0 (by omega), if_pos (Nat.zero_le _)]
    rw [abY_B]
    by_cases z : j = b
    · rw [if_neg (by omega), if_neg (by omega), if_pos ⟨z, rfl⟩, if_pos z]
    · rw [if_neg (fun q => z q.1), if_neg (fun q => z q.1), if_neg (fun q => z q.1), if_neg (fun q => z q.1), if_neg z]
