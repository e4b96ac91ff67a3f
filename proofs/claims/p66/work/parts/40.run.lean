/-! a script run; what was remembered -/
def rnF : List St → Nat → Yd → Nat × Yd
  | [], i, Y => (i, Y)
  | t :: ts, i, Y => if (exY Y t).1 = 0 then (i, (exY Y t).2) else rnF ts (i + 1) (exY Y t).2
theorem yF_rdY (Y : Yd) (i : Nat) : yF (rdY Y i).2 = yF Y := by
  unfold rdY
  split <;> rfl
theorem yP_rdY (Y : Yd) (i : Nat) : yP (rdY Y i).2 = yP Y := by
  unfold rdY
  split <;> rfl
theorem yF_tkY (Y : Yd) (i : Nat) : yF (tkY Y i).2 = yF Y := yF_rdY _ i
theorem yP_tkY (Y : Yd) (i : Nat) : yP (tkY Y i).2 = yP Y := yP_rdY _ i
theorem yF_tkN (i : Nat) : ∀ (t : Nat) (Y : Yd), yF (tkN i t Y) = yF Y := by
  intro t
  induction t with
  | zero => intro Y; rfl
  | succ t ih => intro Y; rw [tkN, ih, yF_tkY]
theorem yP_tkN (i : Nat) : ∀ (t : Nat) (Y : Yd), yP (tkN i t Y) = yP Y := by
  intro t
  induction t with
  | zero => intro Y; rfl
  | succ t ih => intro Y; rw [tkN, ih, yP_tkY]
theorem yF_saF (t : Nat) : ∀ (k i : Nat) (Y : Yd), yF (saF t k i Y) = yF Y := by
  intro k
  induction k with
  | zero => intro i Y; rfl
  | succ k ih => intro i Y; rw [saF, ih]; split <;> rfl
theorem yP_saF (t : Nat) : ∀ (k i : Nat) (Y : Yd), yP (saF t k i Y) = yP Y := by
  intro k
  induction k with
  | zero => intro i Y; rfl
  | succ k ih => intro i Y; rw [saF, ih]; split <;> rfl
theorem yF_neY (Y : Yd) (i o : Nat) (f : Nat) (hf : f ≠ 8) : yF (neY Y i o) f = yF Y f := by
  unfold neY
  rw [yF_awO]
  show yF (uC (uF (uP _ i (some o)) 8 _) i 6 _) f = _
  rw [yF_uC, yF_uF, if_neg hf, yF_uP, yF_awO]
theorem yF_unY (Y : Yd) (i : Nat) : yF (unY Y i) = yF Y := by
  unfold unY
  rw [yF_uP, yF_awO]
theorem yF_cgY (Y : Yd) (i : Nat) (w : Int32) : yF (cgY Y i w) = yF Y := by
  unfold cgY
  rw [yF_awO, yF_uC]
theorem yP_cgY (Y : Yd) (i : Nat) (w : Int32) : yP (cgY Y i w) = yP Y := by
  unfold cgY
  rw [yP_awO, yP_uC]
theorem yF_trY (Y : Yd) (i b : Nat) : yF (trY Y i b) = yF Y := by
  unfold trY
  rw [yF_saF]; rfl
theorem yP_trY (Y : Yd) (i b : Nat) : yP (trY Y i b) = yP Y := by
  unfold trY
  rw [yP_saF]; rfl
theorem acy_eq {Y Z : Yd} (e : yP Z = yP Y) (h : Acy Y) : Acy Z := by
  intro i hi
  rw [e]; exact h i hi
theorem exY_ind (P : Yd → Prop) (Y : Yd) (t : St) (h0 : P Y) (h1 : P (spY Y)) (h2 : P (uS Y 1 t.2.2.2)) (h3 : P (uS Y 2 t.2.2.2)) (h4 : P (tkN t.2.1 t.2.2.2.toNatClampNeg Y)) (h5 : ¬ yC Y t.2.1 7 = 0 ∧ yC Y t.2.1 3 + t.2.2.2 ≤ 500 → P (cgY Y t.2.1 t.2.2.2)) (h6 : ¬ yC Y t.2.1 7 = 0 ∧ t.2.2.2 ≤ yC Y t.2.1 3 → P (cgY Y t.2.1 (-t.2.2.2))) (h7 : t.1 = 3 → ¬ yCan Y t.2.1 t.2.2.1 = 0 → P (neY Y t.2.1 t.2.2.1)) (h8 : t.1 = 4 → ¬ yC Y t.2.1 7 = 0 → ¬ yP Y t.2.1 = none → P (unY Y t.2.1)) (h9 : yRef Y t.2.1 t.2.2.1 = 0 → P (trY Y t.2.1 t.2.2.1)) : P (exY Y t).2 := by
  unfold exY
  split
  · exact h1
  split
  · exact h2
  split
  · exact h3
  split
  · exact h0
  next z =>
    split
    · exact h4
    split
    · split
      · next w => exact h5 w
      · exact h0
    split
    · split
      · next w => exact h6 w
      · exact h0
    split
    · next e3 =>
      split
      · exact h0
      · next w => exact h7 e3 w
    split
    · next e4 =>
      split
      · exact h0
      · next w => exact h8 e4 z (by rw [w]; simp)
    split
    · next w => exact h9 w
    · exact h0
theorem yF_exY (Y : Yd) (t : St) (f : Nat) (hf : f ≠ 8) : yF (exY Y t).2 f = yF Y f := by
  refine exY_ind (fun Z => yF Z f = yF Y f) Y t rfl ?_ ?_ ?_ ?_ (fun _ => ?_) (fun _ => ?_) (fun _ _ => ?_) (fun _ _ _ => ?_) (fun _ => ?_)
  · rfl
  · rfl
  · rfl
  · show yF _ f = _; rw [yF_tkN]
  · show yF _ f = _; rw [yF_cgY]
  · show yF _ f = _; rw [yF_cgY]
  · exact yF_neY Y _ _ f hf
  · show yF _ f = _; rw [yF_unY]
  · show yF _ f = _; rw [yF_trY]
theorem acy_exY {Y : Yd} {t : St} (hA : Acy Y) (hC : CV Y t) : Acy (exY Y t).2 := by
  refine exY_ind Acy Y t hA ?_ ?_ ?_ ?_ (fun _ => ?_) (fun _ => ?_) (fun e3 w => ?_) (fun _ _ _ => ?_) (fun _ => ?_)
  · exact hA
  · exact hA
  · exact hA
  · exact acy_eq (yP_tkN _ _ _) hA
  · exact acy_eq (yP_cgY _ _ _) hA
  · exact acy_eq (yP_cgY _ _ _) hA
  · have h1 := (hC.1 (by rw [e3]; rfl)).1
    have h2 := (hC.2.1 e3).1
    have h3 := (can_iff hA h1).mp w
    exact acy_can hA h1 h2 h3.2.2.1 h3.2.2.2
  · exact acy_un hA
  · exact acy_eq (yP_trY _ _ _) hA
theorem CV.keep {Y Z : Yd} {t : St} (h4 : yF Z 4 = yF Y 4) (h5 : yF Z 5 = yF Y 5) (h : CV Y t) : CV Z t := by
  unfold CV at h ⊢
  rw [h4, h5]
  exact h