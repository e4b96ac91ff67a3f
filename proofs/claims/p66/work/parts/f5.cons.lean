/-! what isConsistent says; when a sale is refused -/
theorem i_arc (a b c : Int32) : a + b + c = a + c + b := by rw [Int32.add_assoc, Int32.add_comm b c, ← Int32.add_assoc]
theorem gc_own {Y : Yd} {m b T : Nat} (h : PV Y m b T) (hT : T < 2 ^ 31) : ∀ n i, i < 16 → (∀ x, x < 16 → itO (yP Y) (n + 1) (some x) ≠ some i) → gcF Y n i = yC Y i 4 := by
  intro n
  induction n with
  | zero =>
    intro i hi hN
    rw [gcF, h.l i hi, sm_z, az]
    intro c hc
    rw [if_neg]
    intro e
    exact hN c hc e
  | succ n ih =>
    intro i hi hN
    rw [gcF, h.l i hi]
    have hD := h.sb hT
    have := gcL_e hD (gcF Y n) 17 0 (yC Y i 2 + yC Y i 3) (Nat.lt_succ_of_le (nG_le Y i 0))
    rw [show caF Y i 0 16 0 none = fCh Y i from rfl] at this
    rw [this]
    refine congrArg (HAdd.hAdd _) (sm_c fun k hk => ?_)
    by_cases e : yP Y k = some i
    · rw [if_pos e, if_pos ⟨e, hD.1 k hk i e⟩]
      exact ih k hk fun x hx q => hN x hx (it_st q e)
    · rw [if_neg e, if_neg (fun q => e q.1)]
theorem ga_own {Y : Yd} {i : Nat} : ∀ (n k : Nat) (a : Int32), k + n = 16 → gaF Y i n k a + sm (fun c => if inO 6 (yP Y) (some c) i = true then yC Y c 2 + yC Y c 3 else 0) k = a + sm (fun c => if inO 6 (yP Y) (some c) i = true then yC Y c 2 + yC Y c 3 else 0) 16 := by
  intro n
  induction n with
  | zero =>
    intro k a hk
    rw [gaF, show k = 16 by omega]
  | succ n ih =>
    intro k a hk
    have q := ih (k + 1) (if ins Y k i = true then a + (yC Y k 2 + yC Y k 3) else a) (by omega)
    rw [sm] at q
    rw [gaF]
    unfold ins at q ⊢
    by_cases z : inO 6 (yP Y) (some k) i = true
    · rw [if_pos z, if_pos z] at q
      rw [if_pos z]
      rw [i_arc a] at q
      refine (Int32.add_left_inj (yC Y k 2 + yC Y k 3)).mp ?_
      rw [Int32.add_assoc]
      exact q
    · rw [if_neg z, if_neg z, Int32.add_zero] at q
      rw [if_neg z]
      exact q
theorem ao_1 {Y : Yd} {m b T : Nat} (h : PV Y m b T) (hT : T ≤ 57000) : ∀ n i, i + n = 16 → aoF Y n i = 1 := by
  intro n
  induction n with
  | zero => intro i _; rfl
  | succ n ih =>
    intro i hi
    have g5 := gc_own h (by omega) 5 i (by omega) (fun x hx q => by rw [h.i6 x hx] at q; cases q)
    have gA := ga_own (Y := Y) (i := i) 16 0 0 (by omega)
    rw [sm, Int32.add_zero, Int32.zero_add, ← h.un (by omega)] at gA
    rw [aoF, if_pos ⟨g5, g5.trans gA.symm, (h.sq (by omega) (by omega)).2⟩]
    exact ih (i + 1) (by omega)
theorem st_own {Y : Yd} : ∀ (n k : Nat) (a : Int32), stF Y n k a + sm (fun c => yC Y c 8) k = a + sm (fun c => yC Y c 8) (k + n) := by
  intro n
  induction n with
  | zero => intro k a; rfl
  | succ n ih =>
    intro k a
    have q := ih (k + 1) (a + yC Y k 8)
    rw [sm] at q
    rw [stF]
    refine (Int32.add_left_inj (yC Y k 8)).mp ?_
    rw [Int32.add_assoc, show k + (n + 1) = k + 1 + n by omega, i_arc, ← q]
section COI
variable {Y : Yd} {W : LW} {T k : Nat}
theorem IV.co (h : IV Y W T) : coY Y = 1 := by
  obtain ⟨c1, c2⟩ := h.ci
  have hT := h.t39
  unfold coY
  rw [ao_1 h.pv (by omega) 16 0 (by omega), if_neg (by decide)]
  have e1 : moF Y 6 0 (yT Y 4 - yT Y 5) = yT Y 6 := by
    rw [moF, moF_z 5 1 _ (fun j h1 h2 => (h.pv.z.2 j (by omega) (by omega)).1), Int32.add_comm]
    exact c2
  have e2 : stF Y 16 0 0 = sm (fun c => yC Y c 8) 16 := by
    have := st_own (Y := Y) 16 0 0
    rw [sm, Int32.add_zero, Int32.zero_add] at this
    exact this
  rw [if_neg (fun q => q e1), if_neg]
  intro q
  rw [e2] at q
  exact q c1
theorem IV.ln2 (h : IV Y W T) (hk : k < wN W) : (yC Y k 8 < yF Y 6 ↔ (wR W k).length < 2) := by
  have hl := h.rl hk
  have := h.t39
  rw [(h.rc hk).2.2.2.2.2.1, h.1.1.2.2.2.2.2.2.2.2.2.2.2.1, show (2 : Int32) = nI 2 from rfl, i_lt0, nI_toInt (by omega), nI_toInt (by omega)]
  omega
/-- a sale that the class refuses: the law's reasons -/
theorem IV.ref (h : IV Y W T) (hk : k < wN W) (hr : ¬ yRef Y k 0 = 0) : ¬ wI W k 4 = 0 ∨ wP W k ≠ none ∨ (wR W k).length < 2 ∨ wYs W 9 < 20 ∨ wYs W 7 < sdM W k := by
  have hk16 : k < 16 := by have := h.n9; omega
  have c := h.rc hk
  obtain ⟨mo, tol, tr, w7, w8, w9, b7, b8, b9⟩ := h.mi
  obtain ⟨t1, t2, t3, t4, t5, t6, t7, t8⟩ := h.1.1.2.2.2.2.2
  by_cases z1 : yC Y k 7 = 0
  · refine Or.inl ?_
    rw [c.2.2.2.1, z1]; decide
  · by_cases z2 : yP Y k = none
    · by_cases z3 : yC Y k 8 < yF Y 6
      · exact Or.inr (Or.inr (Or.inl ((h.ln2 hk).mp z3)))
      · have hl2 : ¬ (wR W k).length < 2 := fun q => z3 ((h.ln2 hk).mpr q)
        have he : wR W k ≠ [] := fun q => hl2 (by rw [q]; decide)
        by_cases z4 : yB Y 0 4 < yF Y 7
        · refine Or.inr (Or.inr (Or.inr (Or.inl ?_)))
          rw [← t4, ← t8]; exact z4
        · refine Or.inr (Or.inr (Or.inr (Or.inr ?_)))
          have z5 : yB Y 0 2 < yPrice Y k := by
            refine Classical.byContradiction fun q => hr ?_
            unfold yRef
            rw [if_neg z1, if_pos z2, if_neg z3, if_neg z4, if_neg q]
          have eM : yMean Y k = sdM W k := (h.mn hk he).2.2
          unfold yPrice fmax at z5
          rw [eM, t2] at z5
          by_cases q : (0 : Int32) < sdM W k
          · rw [if_pos q] at z5; exact z5
          · rw [if_neg q, w7] at z5
            have := h.t39
            exact absurd (show nI mo < nI 0 from z5) (nI_nlt (Nat.zero_le _) (by omega))
    · refine Or.inr (Or.inl ?_)
      rw [← h.pw]; exact z2
theorem IV.ref0 (h : IV Y W T) (hk : k < wN W) (hr : yRef Y k 0 = 0) : wR W k ≠ [] := by
  intro he
  have : yC Y k 8 < yF Y 6 := (h.ln2 hk).mpr (by rw [he]; decide)
  unfold yRef at hr
  rw [if_pos this] at hr
  split at hr
  · cases hr
  · split at hr
    · cases hr
    · cases hr
end COI
