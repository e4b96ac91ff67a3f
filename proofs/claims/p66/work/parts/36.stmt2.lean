/-! one statement of a script -/
theorem qC_no {b : Nat → Int32} {n e : Nat} {Y : Yd} {K : Nat → Nat → QR} (w : ¬ ncC b n e Y = 0) : qC b n e Y K = .inl (ncC b n e Y, tS b n e) := by
  unfold ncC at w ⊢
  unfold qC
  by_cases z : nnC b n e = 0
  · rw [if_pos z] at w ⊢
    rw [if_pos z]
    cases hc : cnF Y (nmF b (tS b n e) (tE b n e)) 16 0 with
    | none => rfl
    | some j => rw [hc] at w; exact absurd rfl w
  · rw [if_neg z, if_neg z]
theorem qC_ok {b : Nat → Int32} {n e j : Nat} {Y : Yd} {K : Nat → Nat → QR} (w : ncC b n e Y = 0) (hc : cnF Y (nmF b (tS b n e) (tE b n e)) 16 0 = some j) : qC b n e Y K = K j (tE b n e) := by
  unfold ncC at w
  unfold qC
  by_cases z : nnC b n e = 0
  · rw [if_pos z, hc]
  · rw [if_neg z] at w; exact absurd w z
theorem qB_no {b : Nat → Int32} {n e : Nat} {Y : Yd} {K : Nat → Nat → QR} (w : ¬ nyC b n e Y = 0) : qB b n e Y K = .inl (nyC b n e Y, tS b n e) := by
  unfold nyC at w ⊢
  unfold qB
  by_cases z : nnC b n e = 0
  · rw [if_pos z] at w ⊢
    rw [if_pos z]
    cases hc : bnF Y (nmF b (tS b n e) (tE b n e)) 6 0 with
    | none => rfl
    | some j => rw [hc] at w; exact absurd rfl w
  · rw [if_neg z, if_neg z]
theorem qB_ok {b : Nat → Int32} {n e j : Nat} {Y : Yd} {K : Nat → Nat → QR} (w : nyC b n e Y = 0) (hc : bnF Y (nmF b (tS b n e) (tE b n e)) 6 0 = some j) : qB b n e Y K = K j (tE b n e) := by
  unfold nyC at w
  unfold qB
  by_cases z : nnC b n e = 0
  · rw [if_pos z, hc]
  · rw [if_neg z] at w; exact absurd w z
theorem Tx.frR {b : Nat → Int32} {n j : Nat} {v : Option Nat} {a : Ta} {M : Mem} (h : Tx M b n a) : Tx (sR M 6 j 0 v) b n a :=
  h.fr (S := fun k i => k = 6 ∧ i = j) (Fr.sR (Fr.rf _ _) ⟨rfl, rfl⟩) (fun z => absurd z.1 (by decide)) (fun z => absurd z.1 (by decide))
theorem Yv.frR {y j : Nat} {v : Option Nat} {Y : Yd} {M : Mem} (h : Yv M y Y) : Yv (sR M 6 j 0 v) y Y :=
  h.fr (S := fun k i => k = 6 ∧ i = j) (Fr.sR (Fr.rf _ _) ⟨rfl, rfl⟩) (fun k i h z => by unfold inY at h; omega)