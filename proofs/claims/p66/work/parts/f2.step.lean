/-! goods, springs, amplitudes, weighings: both yards stay alike -/
theorem sm_out {α : Type} [Lean.Grind.AddCommMonoid α] {f : Nat → α} {n j : Nat} (hj : j < n) : sm f n = f j + sm (fun i => if i = j then 0 else f i) n := by
  have e1 : sm (fun i => if i = j then f j else 0) n = f j := by
    rw [sm_1 hj fun i hi hne => if_neg hne]
    exact if_pos rfl
  rw [← e1, ← sm_a]
  refine sm_c fun i hi => ?_
  by_cases z : i = j
  · subst z; rw [if_pos rfl, if_pos rfl, az]
  · rw [if_neg z, if_neg z, za]
/-- readings stored and discarded -/
def cS9 (Y : Yd) : Int32 := sm (fun i => yC Y i 8) 16 + yT Y 1
theorem i32_c (a b c : Int32) : a + b + c = b + (c + a) := by
  rw [Int32.add_comm a b, Int32.add_assoc, Int32.add_comm a c]
theorem cS_awC {Y : Yd} {j : Nat} (hj : j < 16) (w : Int32) : cS9 (awC Y j w) = cS9 Y := by
  unfold cS9
  have e1 : yT (awC Y j w) 1 = yT Y 1 + yC Y j 8 := rfl
  have e2 : sm (fun i => yC (awC Y j w) i 8) 16 = sm (fun i => if i = j then 0 else yC Y i 8) 16 := sm_c fun i hi => by
    rw [awC_C, if_neg (by omega), if_neg (by omega)]
    by_cases z : i = j
    · rw [if_pos ⟨z, rfl⟩, if_pos z]
    · rw [if_neg (fun q => z q.1), if_neg (by omega), if_neg z]
  rw [e1, e2, sm_out (f := fun i => yC Y i 8) hj]
  show sm (fun i => if i = j then 0 else yC Y i 8) 16 + (yT Y 1 + yC Y j 8) = yC Y j 8 + sm (fun i => if i = j then 0 else yC Y i 8) 16 + yT Y 1
  rw [i32_c]
theorem aw_T : ∀ (n : Nat) (Y : Yd) (o : Option Nat) (w : Int32) (f : Nat), f ≠ 1 → yT (awO n Y o w) f = yT Y f := by
  intro n
  induction n with
  | zero => intro Y o w f _; rfl
  | succ n ih =>
    intro Y o w f hf
    cases o with
    | none => rfl
    | some j =>
      show yT (awO n (awC Y j w) (yP Y j) w) f = _
      rw [ih _ _ _ _ hf]
      exact if_neg hf
theorem cS_awO {w : Int32} : ∀ (n : Nat) (Y : Yd) (o : Option Nat), (∀ i, i < 16 → ∀ j, yP Y i = some j → j < 16) → (∀ k, o = some k → k < 16) → cS9 (awO n Y o w) = cS9 Y := by
  intro n
  induction n with
  | zero => intro Y o _ _; rfl
  | succ n ih =>
    intro Y o hp ho
    cases o with
    | none => rfl
    | some j =>
      have hj := ho j rfl
      show cS9 (awO n (awC Y j w) (yP Y j) w) = _
      rw [ih (awC Y j w) (yP Y j) hp (fun k e => hp j hj k e), cS_awC hj]
section STP
variable {Y Z : Yd} {W V : LW} {T k : Nat}
theorem CI9.of (h : CI9 Y) (h1 : cS9 Z = cS9 Y) (h2 : ∀ f, f ≠ 1 → f ≠ 2 → yT Z f = yT Y f) (h3 : yB Z = yB Y) : CI9 Z := by
  obtain ⟨a, b⟩ := h
  refine ⟨?_, ?_⟩
  · rw [h2 0 (by omega) (by omega)]
    show yT Y 0 = cS9 Z
    rw [h1]; exact a
  · rw [h2 4 (by omega) (by omega), h2 5 (by omega) (by omega), h2 6 (by omega) (by omega), h3]; exact b
theorem MI9.eq {T' : Nat} (h : MI9 W T) (hT : T ≤ T') (h7 : wYs V 7 = wYs W 7) (h8 : wYs V 8 = wYs W 8) (h9 : wYs V 9 = wYs W 9) : MI9 V T' := by
  obtain ⟨a, b, c, h1, h2, h3, h4, h5, h6⟩ := h
  refine ⟨a, b, c, h7.trans h1, h8.trans h2, h9.trans h3, ?_, h5, h6⟩
  have := Nat.mul_le_mul_left 2000000 hT
  omega
theorem IV.mono {T' : Nat} (h : IV Y W T) (hT : T ≤ T') (h9 : T' ≤ 39) : IV Y W T' := ⟨h.ry, h.pv.mono hT, h9, h.n2, fun k hk => Nat.le_trans (h.rl hk) hT, h.mi.eq hT rfl rfl rfl, h.ci⟩
theorem fgF_R : ∀ n (W : LW) k i, wR (fgF n W k).2 i = [] ∨ wR (fgF n W k).2 i = wR W i := by
  intro n
  induction n with
  | zero =>
    intro W k i
    show wR (fg1 W k) i = [] ∨ wR (fg1 W k) i = wR W i
    rw [fg1_R]
    by_cases z : i = k
    · rw [if_pos z]; exact Or.inl rfl
    · rw [if_neg z]; exact Or.inr rfl
  | succ n ih =>
    intro W k i
    have h0 : wR (fg1 W k) i = [] ∨ wR (fg1 W k) i = wR W i := by
      rw [fg1_R]
      by_cases z : i = k
      · rw [if_pos z]; exact Or.inl rfl
      · rw [if_neg z]; exact Or.inr rfl
    simp only [fgF]
    cases wP W k with
    | none => exact h0
    | some j =>
      rcases ih (fg1 W k) j i with z | z
      · exact Or.inl z
      · rcases h0 with q | q
        · exact Or.inl (z.trans q)
        · exact Or.inr (z.trans q)
theorem fgF_l (n : Nat) (W : LW) (k i : Nat) : (wR (fgF n W k).2 i).length ≤ (wR W i).length := by
  rcases fgF_R n W k i with z | z
  · rw [z]; exact Nat.zero_le _
  · rw [z]; exact Nat.le_refl _
theorem IV.goods {go : Nat} {v : Int32} (h : IV Y W T) (hk : k < wN W) (hv : wI W k 2 + v = nI go) (hg : go ≤ 500) : IV (cgY Y k v) (evG W k v) T := by
  have hk16 : k < 16 := by have := h.n9; omega
  have f := fgF_f 5 (vI W k 2 (wI W k 2 + v)) k
  have hY : wYs (fgF 5 (vI W k 2 (wI W k 2 + v)) k).2 = wYs W := f.2.2.2.2.1
  have aw := aw_st 6 (uC Y k 3 (yC Y k 3 + v)) (some k) v
  refine ⟨h.ry.goods hk h.pv.acy h.hp, ?_, h.t39, ?_, fun i hi => ?_, h.mi.eq (Nat.le_refl _) ?_ ?_ ?_, h.ci.of ?_ (fun g h1 h2 => ?_) ?_⟩
  · have e : wN (evG W k v) = wN W := f.1
    rw [e]
    exact h.pv.cg hk16 (by rw [(h.rc hk).2.2.1]; exact hv) hg
  · have e : wN (evG W k v) = wN W := f.1
    rw [e]; exact h.n2
  · have e : wN (evG W k v) = wN W := f.1
    rw [e] at hi
    exact Nat.le_trans (fgF_l 5 (vI W k 2 (wI W k 2 + v)) k i) (h.rl hi)
  · unfold evG; rw [vY_n (by decide), hY]
  · unfold evG; rw [vY_n (by decide), hY]
  · unfold evG; rw [vY_n (by decide), hY]
  · unfold cgY
    refine (cS_awO 6 (uC Y k 3 (yC Y k 3 + v)) (some k) h.pv.p16 (fun x e => by cases e; exact hk16)).trans ?_
    have e8 : sm (fun i => yC (uC Y k 3 (yC Y k 3 + v)) i 8) 16 = sm (fun i => yC Y i 8) 16 := sm_c fun i _ => by rw [yC_uC, if_neg (by omega)]
    unfold cS9
    rw [e8]
    rfl
  · exact aw_T 6 _ _ _ g h1
  · exact aw.2.2.1
theorem IV.spring (h : IV Y W T) : IV (spY Y) (vY W 4 0) T := by
  refine ⟨h.ry.spring, h.pv.sp, h.t39, h.n2, fun i hi => h.rl hi, h.mi.eq (Nat.le_refl _) rfl rfl rfl, h.ci.of rfl (fun g h1 h2 => ?_) rfl⟩
  exact if_neg h2
theorem IV.ampl {a : Nat} (h : IV Y W T) (ha : a ≤ 50) : IV (uS Y 1 (nI a)) (vY W 2 (nI a)) T :=
  ⟨h.ry.ampl, h.pv.am ha, h.t39, h.n2, fun i hi => h.rl hi, h.mi.eq (Nat.le_refl _) rfl rfl rfl, h.ci.of rfl (fun _ _ _ => rfl) rfl⟩
/-- the error of a reading that is owed -/
theorem IV.par (h : IV Y W T) (hk : k < wN W) : (rem (yC Y k 8) 2 = 0 ↔ (wR W k).length % 2 = 0) := by
  have hl := h.rl hk
  have := h.t39
  rw [(h.rc hk).2.2.2.2.2.1]
  exact par_rem (by omega)
def stX (Y : Yd) (k : Nat) (r : Int32) : Yd := uS (stoY Y k r (fSag (yS Y 2) (yS Y 3))) 3 (yS Y 3 + 1)
theorem stX_C (Y : Yd) (k : Nat) (r : Int32) (i f : Nat) : yC (stX Y k r) i f = if i = k ∧ f = 11 then r else if i = k ∧ f = 8 then yC Y k 8 + 1 else yC Y i f := rfl
theorem stX_L (Y : Yd) (k : Nat) (r : Int32) (i f : Nat) : yL (stX Y k r) i f = if i = k ∧ f = 10 then yL Y k 10 + (fSag (yS Y 2) (yS Y 3)).toInt64 else if i = k ∧ f = 9 then yL Y k 9 + r.toInt64 else yL Y i f := rfl
/-- a reading more on both sides: X is the class's yard with the new error, V the law's -/
theorem st_ry {X : Yd} {a : Nat} {r : Int32} {e9 : Option Nat} (h : RY X V) (hk : k < wN V) (hod : (wR V k).length % 2 = 0 → wI V k 3 = yC X k 12) (hr : -20000 ≤ r.toInt ∧ r.toInt ≤ 20000) : RY (stX (uT X 0 (yT X 0 + 1)) k r) (wg1 V k a r e9) := by
  obtain ⟨⟨h1, h2, h3, h4, ⟨s1, s2, s3, s4⟩, ⟨t1, t2, t3, t4, t5, t6, t7, t8⟩⟩, h7⟩ := h
  have eY : ∀ f, f ≠ 4 → f ≠ 5 → wYs (wg1 V k a r e9) f = wYs V f := fun f g4 g5 => by
    unfold wg1
    rw [vY_n g5, vY_n g4]
    rfl
  have eY4 : wYs (wg1 V k a r e9) 4 = wYs V 4 + 1 := by
    unfold wg1
    rw [vY_n (by decide), vY_s]
  have eY5 : wYs (wg1 V k a r e9) 5 = wYs V 5 + 1 := by
    unfold wg1
    rw [vY_s]
  have eI : ∀ i f, wI (wg1 V k a r e9) i f = if i = k ∧ f = 5 then (if wI V k 5 = 1 then 0 else 1) else wI V i f := fun i f => rfl
  have eR : ∀ i, wR (wg1 V k a r e9) i = if i = k then wR V k ++ [(a, r)] else wR V i := fun i => rfl
  refine ⟨⟨h1, h2, h3, fun i hi => ?_, ⟨?_, ?_, ?_, ?_⟩, ⟨?_, ?_, ?_, ?_, ?_, ?_, t7, t8⟩⟩, ?_⟩
  · have c := h4 i hi
    have hch : ChR (stX (uT X 0 (yT X 0 + 1)) k r) i (wC V i) := c.ch.eq rfl (fun x => by rw [stX_C, if_neg (by omega), if_neg (by omega)]; rfl)
    by_cases z : i = k
    · subst z
      obtain ⟨c1, c2, c3, c4, c5, c6, c7, c8, c9, c10, c11⟩ := c
      have eC : ∀ f, f ≠ 11 → f ≠ 8 → yC (stX (uT X 0 (yT X 0 + 1)) i r) i f = yC X i f := fun f g1 g2 => by
        rw [stX_C, if_neg (fun q => g1 q.2), if_neg (fun q => g2 q.2)]; rfl
      have eI' : ∀ f, f ≠ 5 → wI (wg1 V i a r e9) i f = wI V i f := fun f g => by rw [eI, if_neg (fun q => g q.2)]
      have eR' : wR (wg1 V i a r e9) i = wR V i ++ [(a, r)] := by rw [eR, if_pos rfl]
      have el : (wR (wg1 V i a r e9) i).length = (wR V i).length + 1 := by rw [eR', List.length_append]; rfl
      refine ⟨by rw [eI' 0 (by decide)]; exact c1, by rw [eC 2 (by decide) (by decide), eI' 1 (by decide)]; exact c2, by rw [eC 3 (by decide) (by decide), eI' 2 (by decide)]; exact c3, by rw [eC 7 (by decide) (by decide), eI' 4 (by decide)]; exact c4, hch, ?_, ?_, ?_, ?_, ?_, ?_⟩
      · rw [el, stX_C, if_neg (by omega), if_pos ⟨rfl, rfl⟩]
        show yC X i 8 + 1 = _
        rw [c6, nI_s1]
      · rw [stX_L, if_neg (by omega), if_pos ⟨rfl, rfl⟩, eR']
        show yL X i 9 + r.toInt64 = _
        rw [c7]
        unfold sL9
        rw [List.foldl_append]
        rfl
      · rw [stX_C, if_pos ⟨rfl, rfl⟩, eR']
        unfold laR
        rw [List.getLast?_append]
        rfl
      · rw [el, eI, if_pos ⟨rfl, rfl⟩, c9]
        by_cases w : (wR V i).length % 2 = 1
        · rw [if_pos w, if_pos rfl, if_neg (by omega)]
        · rw [if_neg w, if_neg (by decide), if_pos (by omega)]
      · rw [el, eI' 3 (by decide), eC 12 (by decide) (by decide)]
        intro w
        exact hod (by omega)
      · rw [eR']
        intro q hq
        rcases List.mem_append.mp hq with hq | hq
        · exact c11 q hq
        · rw [List.mem_singleton.mp hq]; exact hr
    · refine c.eq (fun f _ => ?_) ?_ hch (fun f _ => ?_) ?_
      · rw [stX_C, if_neg (fun q => z q.1), if_neg (fun q => z q.1)]; rfl
      · rw [stX_L, if_neg (fun q => z q.1), if_neg (fun q => z q.1)]; rfl
      · rw [eI, if_neg (fun q => z q.1)]
      · rw [eR, if_neg z]
  · rw [eY 1 (by decide) (by decide)]; exact s1
  · rw [eY 2 (by decide) (by decide)]; exact s2
  · rw [eY 3 (by decide) (by decide)]; exact s3
  · rw [eY4, ← s4]; rfl
  · rw [eY5, ← t1]; rfl
  · rw [eY 7 (by decide) (by decide)]; exact t2
  · rw [eY 8 (by decide) (by decide)]; exact t3
  · rw [eY 9 (by decide) (by decide)]; exact t4
  · rw [eY 10 (by decide) (by decide)]; exact t5
  · rw [eY 11 (by decide) (by decide)]; exact t6
  · rw [eY 6 (by decide) (by decide)]; exact h7
theorem tk_e {k : Nat} (Y : Yd) : tkY Y k = if rem (yC Y k 8) 2 = 0 then (yC Y k 4 + fSag (yS Y 2) (yS Y 3) + fNz (nxG (yS Y 0)) (yS Y 1), stX (uT (uC (uS Y 0 (nxG (yS Y 0))) k 12 (fNz (nxG (yS Y 0)) (yS Y 1))) 0 (yT Y 0 + 1)) k (yC Y k 4 + fSag (yS Y 2) (yS Y 3) + fNz (nxG (yS Y 0)) (yS Y 1))) else (yC Y k 4 + fSag (yS Y 2) (yS Y 3) + - yC Y k 12, stX (uT Y 0 (yT Y 0 + 1)) k (yC Y k 4 + fSag (yS Y 2) (yS Y 3) + - yC Y k 12)) := by
  unfold tkY rdY
  have e8 : yC (uT Y 0 (yT Y 0 + 1)) k 8 = yC Y k 8 := rfl
  rw [e8]
  by_cases z : rem (yC Y k 8) 2 = 0
  · rw [if_pos z, if_pos z]
    have e4 : yC (uC (uS (uT Y 0 (yT Y 0 + 1)) 0 (nxG (yS Y 0))) k 12 (fNz (nxG (yS Y 0)) (yS Y 1))) k 4 = yC Y k 4 := if_neg (by omega)
    show rdYF (uC (uS (uT Y 0 (yT Y 0 + 1)) 0 (nxG (yS Y 0))) k 12 (fNz (nxG (yS Y 0)) (yS Y 1))) k (fNz (nxG (yS Y 0)) (yS Y 1)) = _
    unfold rdYF
    rw [e4]
    rfl
  · rw [if_neg z, if_neg z]
    rfl
theorem IV.weigh {a : Nat} {e9 : Option Nat} (h : IV Y W T) (hk : k < wN W) (hT : T + 1 ≤ 39) : (tkY Y k).1 = wgV W k ∧ IV (tkY Y k).2 (wgW W k a e9) (T + 1) := by
  have hk16 : k < 16 := by have := h.n9; omega
  obtain ⟨hR0, h7⟩ := h.ry
  obtain ⟨r1, r2, r3, r4, ⟨s1, s2, s3, s4⟩, rt⟩ := hR0
  have c := r4 k hk
  obtain ⟨c1, c2, c3, c4, c5, c6, c7, c8, c9, c10, c11⟩ := c
  have hpar := h.par hk
  have hpv := h.pv.tk (c := k) (by omega) hk
  obtain ⟨g, hg1, hg2⟩ := h.pv.gr hk16
  obtain ⟨sg, hs1, hs2⟩ := sag_in h.pv (by omega)
  obtain ⟨⟨gn, n1, n2⟩, ⟨am, m1, m2⟩, ⟨q, q1, q2, q3⟩, -⟩ := h.pv.f
  have hsag : fSag (yS Y 2) (yS Y 3) = wYs W 4 / wYs W 3 := h.wh.2.2.2.2.2.2.1
  have hgr := h.gr hk
  have hwE : fNz (nxG (yS Y 0)) (yS Y 1) = wgE W k := by rw [s1, s2]; rfl
  -- bounds of a reading
  have bd : ∀ e : Int32, -50 ≤ e.toInt → e.toInt ≤ 50 → -20000 ≤ (yC Y k 4 + fSag (yS Y 2) (yS Y 3) + e).toInt ∧ (yC Y k 4 + fSag (yS Y 2) (yS Y 3) + e).toInt ≤ 20000 := by
    intro e b1 b2
    have t39 := h.t39
    rw [hg1, hs1, nI_add, i_add (by rw [nI_toInt (by omega)]; omega) (by rw [nI_toInt (by omega)]; omega), nI_toInt (by omega)]
    omega
  have hl := h.rl hk
  have ci := h.ci
  have key : ∀ (X : Yd) (V : LW) (r : Int32), RY X V → wN V = wN W → (∀ i, wR V i = wR W i) → wYs V 7 = wYs W 7 → wYs V 8 = wYs W 8 → wYs V 9 = wYs W 9 → yT X = yT Y → yB X = yB Y → (∀ i, yC X i 8 = yC Y i 8) → ((wR V k).length % 2 = 0 → wI V k 3 = yC X k 12) → (-20000 ≤ r.toInt ∧ r.toInt ≤ 20000) → PV (stX (uT X 0 (yT X 0 + 1)) k r) (wN W) 1 (T + 1) → IV (stX (uT X 0 (yT X 0 + 1)) k r) (wg1 V k a r e9) (T + 1) := by
    intro X V r hX hN hRR w7 w8 w9 hTX hB h8 hod hr hP
    have hkV : k < wN V := by rw [hN]; exact hk
    have eN : wN (wg1 V k a r e9) = wN W := hN
    refine ⟨st_ry hX hkV hod hr, by rw [eN]; exact hP, hT, by rw [eN]; exact h.n2, fun i hi => ?_, h.mi.eq (Nat.le_succ T) ?_ ?_ ?_, ?_, ?_⟩
    · rw [eN] at hi
      show (if i = k then wR V k ++ [(a, r)] else wR V i).length ≤ T + 1
      by_cases z : i = k
      · rw [if_pos z, List.length_append, hRR]
        show (wR W k).length + 1 ≤ T + 1
        omega
      · rw [if_neg z, hRR]
        have := h.rl hi
        omega
    · unfold wg1; rw [vY_n (by decide), vY_n (by decide)]; exact w7
    · unfold wg1; rw [vY_n (by decide), vY_n (by decide)]; exact w8
    · unfold wg1; rw [vY_n (by decide), vY_n (by decide)]; exact w9
    · have e0 : yT (stX (uT X 0 (yT X 0 + 1)) k r) 0 = yT Y 0 + 1 := by rw [← hTX]; rfl
      have e1 : yT (stX (uT X 0 (yT X 0 + 1)) k r) 1 = yT Y 1 := by rw [← hTX]; rfl
      have e2 : sm (fun i => if i = k then 0 else yC (stX (uT X 0 (yT X 0 + 1)) k r) i 8) 16 = sm (fun i => if i = k then 0 else yC Y i 8) 16 := sm_c fun i _ => by
        by_cases z : i = k
        · rw [if_pos z, if_pos z]
        · rw [if_neg z, if_neg z, stX_C, if_neg (fun w => z w.1), if_neg (fun w => z w.1)]
          exact h8 i
      have e3 : yC (stX (uT X 0 (yT X 0 + 1)) k r) k 8 = yC Y k 8 + 1 := by
        rw [stX_C, if_neg (by omega), if_pos ⟨rfl, rfl⟩]
        show yC X k 8 + 1 = _
        rw [h8]
      have e4 := ci.1
      rw [sm_out (f := fun i => yC Y i 8) hk16] at e4
      rw [e0, e1, sm_out (f := fun i => yC (stX (uT X 0 (yT X 0 + 1)) k r) i 8) hk16]
      show yT Y 0 + 1 = yC (stX (uT X 0 (yT X 0 + 1)) k r) k 8 + sm (fun i => if i = k then 0 else yC (stX (uT X 0 (yT X 0 + 1)) k r) i 8) 16 + yT Y 1
      rw [e2, e3, e4]
      obtain ⟨A, hA⟩ : ∃ A, A = sm (fun i => if i = k then 0 else yC Y i 8) 16 := ⟨_, rfl⟩
      rw [← hA]
      show yC Y k 8 + A + yT Y 1 + 1 = yC Y k 8 + 1 + A + yT Y 1
      rw [Int32.add_assoc, Int32.add_assoc, Int32.add_assoc, Int32.add_assoc, ← Int32.add_assoc A, Int32.add_comm (A + yT Y 1)]
    · have e0 : ∀ f, f ≠ 0 → yT (stX (uT X 0 (yT X 0 + 1)) k r) f = yT Y f := fun f g => by
        rw [← hTX]
        exact if_neg g
      rw [e0 4 (by decide), e0 5 (by decide), e0 6 (by decide), show yB (stX (uT X 0 (yT X 0 + 1)) k r) = yB X from rfl, hB]
      exact ci.2
  rw [tk_e] at hpv ⊢
  by_cases z : rem (yC Y k 8) 2 = 0
  · have hl2 : (wR W k).length % 2 = 0 := hpar.mp z
    have o5 : ¬ wI W k 5 = 1 := by rw [c9, if_neg (by omega)]; decide
    rw [if_pos z] at hpv ⊢
    obtain ⟨b1, b2⟩ : -50 ≤ (fNz (nxG (yS Y 0)) (yS Y 1)).toInt ∧ (fNz (nxG (yS Y 0)) (yS Y 1)).toInt ≤ 50 := by
      obtain ⟨g2, g3, g4⟩ := nx_in n2
      rw [n1, m1, g3]
      exact nz_in g4 m2
    have ev : yC Y k 4 + fSag (yS Y 2) (yS Y 3) + fNz (nxG (yS Y 0)) (yS Y 1) = wgV W k := by
      unfold wgV
      rw [if_neg o5, hgr, hsag, hwE]
    refine ⟨ev, ?_⟩
    have e0 : wg0 W k = vI (vY W 1 (rem (75 * wYs W 1 + 74) 65537)) k 3 (wgE W k) := if_neg o5
    unfold wgW
    rw [e0, ← ev]
    refine key (uC (uS Y 0 (nxG (yS Y 0))) k 12 (fNz (nxG (yS Y 0)) (yS Y 1))) _ _ ⟨⟨r1, r2, r3, fun i hi => ?_, ⟨?_, s2, s3, s4⟩, rt⟩, h7⟩ rfl (fun _ => rfl) rfl rfl rfl rfl rfl (fun i => if_neg (by omega)) (fun _ => ?_) (bd _ b1 b2) hpv
    · have ci' := r4 i hi
      by_cases w : i = k
      · subst w
        have eC : ∀ f, f ≠ 12 → yC (uC (uS Y 0 (nxG (yS Y 0))) i 12 (fNz (nxG (yS Y 0)) (yS Y 1))) i f = yC Y i f := fun f g => if_neg (fun q => g q.2)
        have eI : ∀ f, f ≠ 3 → wI (vI (vY W 1 (rem (75 * wYs W 1 + 74) 65537)) i 3 (wgE W i)) i f = wI W i f := fun f g => if_neg (fun q => g q.2)
        exact ⟨by rw [eI 0 (by decide)]; exact c1, by rw [eC 2 (by decide), eI 1 (by decide)]; exact c2, by rw [eC 3 (by decide), eI 2 (by decide)]; exact c3, by rw [eC 7 (by decide), eI 4 (by decide)]; exact c4, c5.eq rfl (fun x => if_neg (by omega)), by rw [eC 8 (by decide)]; exact c6, c7, by rw [eC 11 (by decide)]; exact c8, by rw [eI 5 (by decide)]; exact c9, fun q => absurd hl2 (by have q' : (wR W i).length % 2 = 1 := q; omega), c11⟩
      · exact ci'.eq (fun f _ => if_neg (fun q => w q.1)) rfl (ci'.ch.eq rfl (fun x => if_neg (by omega))) (fun f _ => if_neg (fun q => w q.1)) rfl
    · show nxG (yS Y 0) = wYs (vY W 1 (rem (75 * wYs W 1 + 74) 65537)) 1
      rw [vY_s, s1]
      rfl
    · show (if k = k ∧ 3 = 3 then wgE W k else wI W k 3) = if k = k ∧ 12 = 12 then fNz (nxG (yS Y 0)) (yS Y 1) else yC Y k 12
      rw [if_pos ⟨rfl, rfl⟩, if_pos ⟨rfl, rfl⟩, hwE]
  · have hl2 : (wR W k).length % 2 = 1 := by have w : ¬ (wR W k).length % 2 = 0 := fun q => z (hpar.mpr q); omega
    have o5 : wI W k 5 = 1 := by rw [c9, if_pos hl2]
    rw [if_neg z] at hpv ⊢
    have e12 := c10 hl2
    obtain ⟨-, -, -, -, -, -, b1, b2, -⟩ := h.pv.e hk16
    have bn := neg_in b1 b2
    have ev : yC Y k 4 + fSag (yS Y 2) (yS Y 3) + - yC Y k 12 = wgV W k := by
      unfold wgV
      rw [if_pos o5, hgr, hsag, e12, Int32.sub_eq_add_neg]
    refine ⟨ev, ?_⟩
    have e0 : wg0 W k = W := if_pos o5
    unfold wgW
    rw [e0, ← ev]
    exact key Y W _ h.ry rfl (fun _ => rfl) rfl rfl rfl rfl rfl (fun _ => rfl) (fun q => absurd hl2 (by omega)) (bd _ (by rw [bn]; omega) (by rw [bn]; omega)) hpv
end STP
