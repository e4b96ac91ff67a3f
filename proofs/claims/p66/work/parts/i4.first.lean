/-! the yard that the text gives: both sides alike -/
def numW (W : LW) (mo tol tr am ag sd : Nat) : LW := vY (vY (vY (vY (vY (vY W 7 (nI mo)) 8 (nI tol)) 9 (nI tr)) 2 (nI am)) 3 (nI ag)) 1 (nI sd)
theorem numW_Y (W : LW) (mo tol tr am ag sd : Nat) : wYs (numW W mo tol tr am ag sd) 7 = nI mo ∧ wYs (numW W mo tol tr am ag sd) 8 = nI tol ∧ wYs (numW W mo tol tr am ag sd) 9 = nI tr ∧ wYs (numW W mo tol tr am ag sd) 2 = nI am ∧ wYs (numW W mo tol tr am ag sd) 3 = nI ag ∧ wYs (numW W mo tol tr am ag sd) 1 = nI sd ∧ ∀ f, (f = 4 ∨ f = 5 ∨ f = 6 ∨ f = 10 ∨ f = 11) → wYs (numW W mo tol tr am ag sd) f = wYs W f := by
  unfold numW
  refine ⟨?_, ?_, ?_, ?_, ?_, ?_, fun f hf => ?_⟩
  · rw [vY_n (by decide), vY_n (by decide), vY_n (by decide), vY_n (by decide), vY_n (by decide), vY_s]
  · rw [vY_n (by decide), vY_n (by decide), vY_n (by decide), vY_n (by decide), vY_s]
  · rw [vY_n (by decide), vY_n (by decide), vY_n (by decide), vY_s]
  · rw [vY_n (by decide), vY_n (by decide), vY_s]
  · rw [vY_n (by decide), vY_s]
  · rw [vY_s]
  · rw [vY_n (by omega), vY_n (by omega), vY_n (by omega), vY_n (by omega), vY_n (by omega), vY_n (by omega)]
section FTY
variable (Y : Yd) (W : LW) (mo tol tr am ag sd : Nat)
theorem ft_C : yC (ftY Y mo tol tr am ag sd) = yC Y := by
  unfold ftY
  rw [yC_uS, yC_uS, yC_uS, yC_uF]
  rfl
theorem ft_L : yL (ftY Y mo tol tr am ag sd) = yL Y := by
  unfold ftY
  rw [yL_uS, yL_uS, yL_uS, yL_uF]
  rfl
theorem ft_P : yP (ftY Y mo tol tr am ag sd) = yP Y := rfl
theorem nu_I : wI (numW W mo tol tr am ag sd) = wI W := rfl
theorem nu_C : wC (numW W mo tol tr am ag sd) = wC W := rfl
theorem nu_R : wR (numW W mo tol tr am ag sd) = wR W := rfl
theorem nu_P : wP (numW W mo tol tr am ag sd) = wP W := rfl
theorem nu_N : wN (numW W mo tol tr am ag sd) = wN W := rfl
end FTY
theorem PX.fin {Y : Yd} {W : LW} {mo tol tr am ag sd : Nat} (h : PX Y W) (hz : ∀ f, wYs W f = 0) (n2 : 2 ≤ wN W) (h1 : mo ≤ 200) (h2 : tol ≤ 3) (h3 : tr ≤ 100) (h4 : am ≤ 50) (h5 : 1 ≤ ag) (h6 : ag ≤ 100) (h7 : sd ≤ 9999) : IV (ftY Y mo tol tr am ag sd) (numW W mo tol tr am ag sd) 9 := by
  obtain ⟨p1, p2, p3, p4, ⟨p5, p5'⟩, p6, p7, p8⟩ := h
  obtain ⟨q7, q8, q9, q2, q3, q1, q0⟩ := numW_Y W mo tol tr am ag sd
  have hN : wN (numW W mo tol tr am ag sd) = wN W := rfl
  have hpv := ((((p1.ab (nm := nI 1) (mo := nI mo) (to := nI tol) (tr := nI tr) (by decide)).f7 (v := nI 20)).am h4).ag h5 h6).gn h7
  have eT : ∀ f, yT (ftY Y mo tol tr am ag sd) f = if f = 6 then yT Y 6 + nI mo else yT Y f := fun f => rfl
  refine ⟨⟨⟨p1.f4, p7, (ft_P Y mo tol tr am ag sd).trans p5, fun k hk => ?_, ⟨q1.symm, q2.symm, q3.symm, ?_⟩, ⟨?_, q7.symm, q8.symm, q9.symm, ?_, ?_, p8.1, rfl⟩⟩, ?_⟩, hpv.mono p7, by decide, n2, fun k hk => ?_, ⟨mo, tol, tr, q7, q8, q9, by omega, h2, h3⟩, ?_, ?_⟩
  · rw [nu_N] at hk
    have c := p5' k hk
    exact c.eq (fun f _ => by rw [ft_C]) (by rw [ft_L]) (by rw [nu_C]; exact c.ch.eq (ft_P Y mo tol tr am ag sd) (fun _ => by rw [ft_C])) (fun f _ => by rw [nu_I]) (by rw [nu_R])
  · rw [q0 4 (by omega), hz]
    exact p8.2
  · rw [q0 5 (by omega), hz, eT, if_neg (by decide)]; exact p3 0 (by decide)
  · rw [q0 10 (by omega), hz, eT, if_neg (by decide)]; exact p3 4 (by decide)
  · rw [q0 11 (by omega), hz, eT, if_neg (by decide)]; exact p3 5 (by decide)
  · rw [q0 6 (by omega), hz, eT, if_neg (by decide)]; exact p3 1 (by decide)
  · rw [nu_N] at hk
    rw [nu_R, p6 k hk]; exact Nat.zero_le _
  · rw [eT, eT, if_neg (by decide), if_neg (by decide), p3 0 (by decide), p3 1 (by decide), Int32.add_zero]
    rw [ft_C]
    exact (sm_z fun i hi => (p2 i hi).1).symm
  · rw [eT, eT, eT, if_neg (by decide), if_neg (by decide), if_pos rfl, p3 4 (by decide), p3 5 (by decide), p3 6 (by decide), Int32.zero_add]
    show nI mo + (0 - 0) = nI mo
    rw [show (0 : Int32) - 0 = 0 by decide, Int32.add_zero]
