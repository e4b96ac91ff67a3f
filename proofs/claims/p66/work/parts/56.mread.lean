/-! the model's readings -/
theorem t32a (x y : Int64) : (x + y).toInt32 = x.toInt32 + y.toInt32 := Int64.toInt32_add x y
theorem t32b (x : Int32) : x.toInt64.toInt32 = x := Int32.toInt32_toInt64 x
theorem rem2 {r : Nat} (hr : r < 2 ^ 31) : rem (nI r) 2 = nI (r % 2) := by
  show nI r - nI r / nI 2 * nI 2 = _
  exact pk_rem hr (by decide) (by decide)
/-- what a reading makes of the array -/
def wgF (w u : Nat → Int32) (c : Nat) (g e : Int32) : Nat → Int32 :=
  let r := g + w 7 / w 4 + e
  let W4 := upW u (16 + 18 * c + 12) (u (16 + 18 * c + 12) + 1)
  let W5 := upW W4 (16 + 18 * c + 13) (W4 (16 + 18 * c + 13) + r)
  let W6 := upW W5 (16 + 18 * c + 15) (W5 (16 + 18 * c + 15) + w 7 / w 4)
  let W7 := upW W6 (16 + 18 * c + 14) r
  let W8 := upW W7 7 (W7 7 + 1)
  upW W8 8 (W8 8 + 1)
theorem f_sag {Y : Yd} (h : ¬ yS Y 2 < 1) : fSag (yS Y 2) (yS Y 3) = yS Y 3 / yS Y 2 := if_neg h
theorem tk_N {Y : Yd} {c : Nat} (h : rem (yC Y c 8) 2 = 0) : tkY Y c = rdYF (uC (uS (uT Y 0 (yT Y 0 + 1)) 0 (nxG (yS Y 0))) c 12 (fNz (nxG (yS Y 0)) (yS Y 1))) c (fNz (nxG (yS Y 0)) (yS Y 1)) := if_pos h
theorem tk_O {Y : Yd} {c : Nat} (h : ¬ rem (yC Y c 8) 2 = 0) : tkY Y c = rdYF (uT Y 0 (yT Y 0 + 1)) c (- yC Y c 12) := if_neg h
theorem rf_C (X : Yd) (c : Nat) (e : Int32) (i f : Nat) : yC (rdYF X c e).2 i f = if i = c ∧ f = 11 then yC X c 4 + fSag (yS X 2) (yS X 3) + e else if i = c ∧ f = 8 then yC X c 8 + 1 else yC X i f := rfl
theorem rf_L (X : Yd) (c : Nat) (e : Int32) (i f : Nat) : yL (rdYF X c e).2 i f = if i = c ∧ f = 10 then yL X c 10 + (fSag (yS X 2) (yS X 3)).toInt64 else if i = c ∧ f = 9 then yL X c 9 + (yC X c 4 + fSag (yS X 2) (yS X 3) + e).toInt64 else yL X i f := rfl
theorem rf_S (X : Yd) (c : Nat) (e : Int32) (f : Nat) : yS (rdYF X c e).2 f = if f = 3 then yS X 3 + 1 else yS X f := rfl
theorem par_s {r : Nat} (hr : r < 2 ^ 31 - 1) : rem (nI r + 1) 2 = if r % 2 = 0 then nI 1 else nI 0 := by
  rw [nI_s1, rem2 (by omega)]
  split
  · rw [show (r + 1) % 2 = 1 by omega]
  · rw [show (r + 1) % 2 = 0 by omega]
set_option maxHeartbeats 1000000 in
theorem rw_wgN {Y : Yd} {m b K c : Nat} {w : Nat → Int32} (h : RW Y m b K w) (hc : c < 16) {r : Nat} (hr : yC Y c 8 = nI r) (hr2 : r < 2 ^ 31 - 1) (h2 : r % 2 = 0) (hag : ¬ yS Y 2 < 1) : RW (tkY Y c).2 m b K (wgF w (upW (upW (upW w 3 (nxG (w 3))) (16 + 18 * c + 16) 1) (16 + 18 * c + 17) (fNz ((upW (upW w 3 (nxG (w 3))) (16 + 18 * c + 16) 1) 3) ((upW (upW w 3 (nxG (w 3))) (16 + 18 * c + 16) 1) 2))) c (yC Y c 4) ((upW (upW (upW w 3 (nxG (w 3))) (16 + 18 * c + 16) 1) (16 + 18 * c + 17) (fNz ((upW (upW w 3 (nxG (w 3))) (16 + 18 * c + 16) 1) 3) ((upW (upW w 3 (nxG (w 3))) (16 + 18 * c + 16) 1) 2))) (16 + 18 * c + 17))) ∧ yC Y c 4 + w 7 / w 4 + (upW (upW (upW w 3 (nxG (w 3))) (16 + 18 * c + 16) 1) (16 + 18 * c + 17) (fNz ((upW (upW w 3 (nxG (w 3))) (16 + 18 * c + 16) 1) 3) ((upW (upW w 3 (nxG (w 3))) (16 + 18 * c + 16) 1) 2))) (16 + 18 * c + 17) = (tkY Y c).1 := by
  have hz : rem (yC Y c 8) 2 = 0 := by rw [hr, rem2 (by omega), h2]; rfl
  rw [tk_N hz]
  obtain ⟨q1, q2, q3, q4, q5, q6, q7, q8, q9, -⟩ := h.h
  obtain ⟨d1, d2, d3, d4, d5, d6⟩ := h.d hc
  have ee : (upW (upW (upW w 3 (nxG (w 3))) (16 + 18 * c + 16) 1) (16 + 18 * c + 17) (fNz ((upW (upW w 3 (nxG (w 3))) (16 + 18 * c + 16) 1) 3) ((upW (upW w 3 (nxG (w 3))) (16 + 18 * c + 16) 1) 2))) (16 + 18 * c + 17) = fNz (nxG (yS Y 0)) (yS Y 1) := by
    simp (disch := omega) only [upW_n, upW_s]
    rw [q3, q2]
  have es : w 7 / w 4 = fSag (yS Y 2) (yS Y 3) := by rw [f_sag hag, q7, q4]
  have e4 : yC (uC (uS (uT Y 0 (yT Y 0 + 1)) 0 (nxG (yS Y 0))) c 12 (fNz (nxG (yS Y 0)) (yS Y 1))) c 4 = yC Y c 4 := if_neg (by omega)
  refine ⟨?_, by rw [ee, es, ← e4]; rfl⟩
  rw [ee]
  refine h.rd (c := c) (fun x hx => ?_) hc ?_ ?_ ?_ ?_ ⟨?_, ?_, ?_, ?_, ?_, ?_⟩ (fun i f hf => ?_) (fun i f hi => ?_) rfl rfl ⟨rfl, rfl⟩ (fun f hf => ?_) rfl
  · unfold wgF; simp (disch := omega) only [upW_n, upW_s]
  · unfold wgF; simp (disch := omega) only [upW_n, upW_s]; rw [q3]; rfl
  · unfold wgF; simp (disch := omega) only [upW_n, upW_s]; rw [q7]; rfl
  · unfold wgF; simp (disch := omega) only [upW_n, upW_s]; rw [q8]; rfl
  · unfold wgF; simp (disch := omega) only [upW_n, upW_s]; rw [q9]; rfl
  · unfold wgF; simp (disch := omega) only [upW_n, upW_s]; rw [d1, rf_C, if_neg (by omega), if_pos ⟨rfl, rfl⟩]; show _ = (if c = c ∧ 8 = 12 then _ else yC Y c 8) + 1; rw [if_neg (by omega)]
  · unfold wgF; simp (disch := omega) only [upW_n, upW_s]; rw [d2, rf_L, if_neg (by omega), if_pos ⟨rfl, rfl⟩, t32a, t32b, es, e4]; rfl
  · unfold wgF; simp (disch := omega) only [upW_n, upW_s]; rw [rf_C, if_pos ⟨rfl, rfl⟩, es, e4]; rfl
  · unfold wgF; simp (disch := omega) only [upW_n, upW_s]; rw [d4, rf_L, if_pos ⟨rfl, rfl⟩, t32a, t32b, es]; rfl
  · unfold wgF; simp (disch := omega) only [upW_n, upW_s]; rw [rf_C, if_neg (by omega), if_pos ⟨rfl, rfl⟩]; show _ = rem ((if c = c ∧ 8 = 12 then _ else yC Y c 8) + 1) 2; rw [if_neg (by omega), hr, par_s hr2, if_pos h2]; rfl
  · unfold wgF; simp (disch := omega) only [upW_n, upW_s]; rw [rf_C, if_neg (by omega), if_neg (by omega), q3, q2]; show _ = (if c = c ∧ 12 = 12 then _ else yC Y c 12); rw [if_pos ⟨rfl, rfl⟩]
  · rw [rf_C, if_neg (by omega), if_neg (by omega)]; show (if i = c ∧ f = 12 then _ else yC Y i f) = _; rw [if_neg (by omega)]
  · rw [rf_L, if_neg (by omega), if_neg (by omega)]; rfl
  · show (if f = 0 then _ else yT Y f) = _; rw [if_neg (by omega)]
set_option maxHeartbeats 1000000 in
theorem rw_wgO {Y : Yd} {m b K c : Nat} {w : Nat → Int32} (h : RW Y m b K w) (hc : c < 16) {r : Nat} (hr : yC Y c 8 = nI r) (hr2 : r < 2 ^ 31 - 1) (h2 : ¬ r % 2 = 0) (hag : ¬ yS Y 2 < 1) : RW (tkY Y c).2 m b K (wgF w (upW w (16 + 18 * c + 16) 0) c (yC Y c 4) (- (upW w (16 + 18 * c + 16) 0) (16 + 18 * c + 17))) ∧ yC Y c 4 + w 7 / w 4 + - (upW w (16 + 18 * c + 16) 0) (16 + 18 * c + 17) = (tkY Y c).1 := by
  have hz : ¬ rem (yC Y c 8) 2 = 0 := by
    rw [hr, rem2 (by omega)]
    intro q
    have q2 := (nI_inj (b := 0) (by omega) (by decide)).mp q
    exact h2 q2
  rw [tk_O hz]
  obtain ⟨q1, q2, q3, q4, q5, q6, q7, q8, q9, -⟩ := h.h
  obtain ⟨d1, d2, d3, d4, d5, d6⟩ := h.d hc
  have ee : - (upW w (16 + 18 * c + 16) 0) (16 + 18 * c + 17) = - yC Y c 12 := by
    simp (disch := omega) only [upW_n, upW_s]
    rw [d6]
  have es : w 7 / w 4 = fSag (yS Y 2) (yS Y 3) := by rw [f_sag hag, q7, q4]
  refine ⟨?_, by rw [ee, es]; rfl⟩
  rw [ee]
  refine h.rd (c := c) (fun x hx => ?_) hc ?_ ?_ ?_ ?_ ⟨?_, ?_, ?_, ?_, ?_, ?_⟩ (fun i f hf => ?_) (fun i f hi => ?_) rfl rfl ⟨rfl, rfl⟩ (fun f hf => ?_) rfl
  · unfold wgF; simp (disch := omega) only [upW_n, upW_s]
  · unfold wgF; simp (disch := omega) only [upW_n, upW_s]; rw [q3]; rfl
  · unfold wgF; simp (disch := omega) only [upW_n, upW_s]; rw [q7]; rfl
  · unfold wgF; simp (disch := omega) only [upW_n, upW_s]; rw [q8]; rfl
  · unfold wgF; simp (disch := omega) only [upW_n, upW_s]; rw [q9]; rfl
  · unfold wgF; simp (disch := omega) only [upW_n, upW_s]; rw [d1, rf_C, if_neg (by omega), if_pos ⟨rfl, rfl⟩]; rfl
  · unfold wgF; simp (disch := omega) only [upW_n, upW_s]; rw [d2, rf_L, if_neg (by omega), if_pos ⟨rfl, rfl⟩, t32a, t32b, es]; rfl
  · unfold wgF; simp (disch := omega) only [upW_n, upW_s]; rw [rf_C, if_pos ⟨rfl, rfl⟩, es]; rfl
  · unfold wgF; simp (disch := omega) only [upW_n, upW_s]; rw [d4, rf_L, if_pos ⟨rfl, rfl⟩, t32a, t32b, es]; rfl
  · unfold wgF; simp (disch := omega) only [upW_n, upW_s]; rw [rf_C, if_neg (by omega), if_pos ⟨rfl, rfl⟩]; show _ = rem (yC Y c 8 + 1) 2; rw [hr, par_s hr2, if_neg h2]; rfl
  · unfold wgF; simp (disch := omega) only [upW_n, upW_s]; rw [rf_C, if_neg (by omega), if_neg (by omega), d6]; rfl
  · rw [rf_C, if_neg (by omega), if_neg (by omega)]; rfl
  · rw [rf_L, if_neg (by omega), if_neg (by omega)]; rfl
  · show (if f = 0 then _ else yT Y f) = _; rw [if_neg (by omega)]
/-- what a reading wants of a yard -/
def WgO (Y : Yd) (c : Nat) : Prop := LG Y ∧ Acy Y ∧ (∃ r, yC Y c 8 = nI r ∧ r < 2 ^ 31 - 1) ∧ ¬ yS Y 2 < 1 ∧ ¬ 2 * yS Y 1 + 1 = 0