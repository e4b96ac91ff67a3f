/-! a crate written out with what is in it -/
section FRS
variable {M M' : Mem}
theorem FrS.e (h : FrS M M') {k i : Nat} (h1 : k ≠ 12) (h2 : k = 13 → i = 0) : mI M' k i = mI M k i ∧ mL M' k i = mL M k i ∧ mR M' k i = mR M k i ∧ mD M' k i = mD M k i ∧ mN M' k i = mN M k i := h.1 k i h1 h2
theorem Lay.frS {y : Nat} (h : Lay M y) (F : FrS M M') : Lay M' y := by
  have e9 := F.e (k := 9) (i := y) (by omega) (by omega)
  have e18 := F.e (k := 18) (i := y) (by omega) (by omega)
  have e17 := F.e (k := 17) (i := y) (by omega) (by omega)
  obtain ⟨a1, a2, a3, a4, a5, a6, a7, a8⟩ := h
  exact ⟨by rw [e9.2.2.1]; exact a1, by rw [e9.2.2.1]; exact a2, by rw [e9.2.2.1]; exact a3, by rw [e9.2.2.1]; exact a4, by rw [e18.2.2.2.2]; exact a5, by rw [e17.2.2.2.2]; exact a6, fun i hi => by rw [e18.2.2.1]; exact a7 i hi, fun i hi => by rw [e17.2.2.1]; exact a8 i hi⟩
theorem Yv.frS {y : Nat} {Y : Yd} (h : Yv M y Y) (F : FrS M M') : Yv M' y Y := by
  obtain ⟨h1, h2, h3, h4, h5, h6, h7, h8, h9, h10, h11, h12⟩ := h
  have e : ∀ k i, (k = 1 ∨ k = 0 ∨ k = 3 ∨ k = 8 ∨ k = 9) → mI M' k i = mI M k i ∧ mL M' k i = mL M k i ∧ mR M' k i = mR M k i := fun k i hk => by
    have := F.e (k := k) (i := i) (by omega) (by omega)
    exact ⟨this.1, this.2.1, this.2.2.1⟩
  refine ⟨h1.frS F, fun i hi f => ?_, fun i hi f => ?_, fun i hi => ?_, h5, fun j hj f => ?_, fun f => ?_, fun f => ?_, fun f => ?_, h10, h11, h12⟩
  · rw [(e 1 _ (by omega)).1]; exact h2 i hi f
  · rw [(e 1 _ (by omega)).2.1]; exact h3 i hi f
  · rw [(e 1 _ (by omega)).2.2]; exact h4 i hi
  · rw [(e 0 _ (by omega)).1]; exact h6 j hj f
  · rw [(e 3 _ (by omega)).1]; exact h7 f
  · rw [(e 8 _ (by omega)).1]; exact h8 f
  · rw [(e 9 _ (by omega)).1]; exact h9 f
theorem Hv.frS {p : Nat} {L : List Yd} (h : Hv M p L) (F : FrS M M') : Hv M' p L := by
  obtain ⟨⟨b1, b2, b3⟩, a2, a3, a4, a5, a6, a7⟩ := h
  have e2 := F.e (k := 2) (i := 0) (by decide) (by decide)
  have e20 := F.e (k := 20) (i := 0) (by decide) (by decide)
  refine ⟨⟨by rw [e2.2.2.1]; exact b1, by rw [e20.2.2.2.2]; exact b2, fun j hj => by rw [e20.2.2.1]; exact b3 j hj⟩, by rw [e2.1]; exact a2, by rw [e2.1]; exact a3, a4, a5, fun j hj => ?_, fun i Z hZ => (a7 i Z hZ).frS F⟩
  obtain ⟨Y, hY⟩ := a6 j hj
  exact ⟨Y, hY.frS F⟩
/-- the class behind a change of its output -/
theorem CSt.sb {S : KS} {p cap : Nat} {O : List Int32} (h : CSt M S p) (F : FrS M M') (hO : Sb M' cap O) : CSt M' (kY S, kV S, kH S, kB S, kN S, kE S, kQ S, O) p := by
  obtain ⟨a1, a2, ⟨Z1, a3, a3b⟩, ⟨Z, a4⟩, a5, a6, a7, a8, -⟩ := h
  have e10 := F.e (k := 10) (i := 0) (by decide) (by decide)
  have e5 := F.e (k := 5) (i := 0) (by decide) (by decide)
  have e4 := F.e (k := 4) (i := 0) (by decide) (by decide)
  have e19 := F.e (k := 19) (i := 0) (by decide) (by decide)
  have e7 := F.e (k := 7) (i := 0) (by decide) (by decide)
  have e13 := F.e (k := 13) (i := 0) (by decide) (fun _ => rfl)
  refine ⟨?_, a2.frS F, ⟨Z1, a3.frS F, ?_⟩, ⟨Z, a4.frS F⟩, a5.frS F, ?_, ?_, ?_, cap, hO⟩
  · unfold CLay at a1 ⊢
    rw [e10.2.2.1]; exact a1
  · rw [e10.1]; exact a3b
  · unfold LSe at a6 ⊢
    rw [e5.2.2.1]; exact a6
  · obtain ⟨b1, b2, b3, b4, b5⟩ := a7
    exact ⟨by rw [e4.2.2.1]; exact b1, by rw [e4.2.2.1]; exact b2, by rw [e4.2.2.1]; exact b3, by rw [e19.2.2.2.2]; exact b4, fun j hj => by rw [e19.2.2.1]; exact b5 j hj⟩
  · obtain ⟨b1, b2, b3, b4, b5, ⟨s, b6, b7⟩, b8, b9⟩ := a8
    exact ⟨by rw [e7.2.2.1]; exact b1, by rw [e13.2.2.2.2]; exact b2, fun i hi => by rw [e13.1]; exact b3 i hi, by rw [e7.1]; exact b4, b5, ⟨s, b6, by rw [e7.1]; exact b7⟩, by rw [e7.1]; exact b8, by rw [e7.1]; exact b9⟩
theorem FrK.sb {cap cap' : Nat} (F : FrS M M') (G : Gw M M' cap cap') (hc : cap' ≤ 600) : FrK M M' := by
  obtain ⟨f1, f2, f3⟩ := F
  obtain ⟨g1, g2, g3⟩ := G
  refine ⟨fun k i hk => f1 k i (by unfold inK at hk; omega) (by unfold inK at hk; omega), fun k hk => f2 k (by unfold inK at hk; omega), by omega, by omega⟩
end FRS
theorem and31 (x : Int32) : ∃ k, k < 32 ∧ x &&& 31 = nI k := by
  refine ⟨(x.toBitVec &&& 31#32).toNat, ?_, ?_⟩
  · rw [BitVec.toNat_and]
    exact Nat.lt_of_le_of_lt Nat.and_le_right (by decide)
  · apply Int32.toBitVec_inj.1
    show x.toBitVec &&& 31#32 = BitVec.ofNat 32 _
    rw [BitVec.ofNat_toNat]
    exact (BitVec.setWidth_eq _).symm
theorem ltF_k {nm x : Int32} (h : ¬ ltF nm x = -1) : ∃ k, ltF nm x = nI k ∧ k < 128 := by
  unfold ltF at h ⊢
  split at h
  · exact absurd rfl h
  next z =>
    rw [if_neg z]
    split at h
    · exact absurd rfl h
    next w =>
      rw [if_neg w]
      obtain ⟨k, hk, e⟩ := and31 (nm >>> ((5 * x) &&& 31))
      rw [e] at w ⊢
      have k0 : 0 < k := by
        apply Decidable.byContradiction
        intro z
        exact w (by rw [show k = 0 by omega]; rfl)
      refine ⟨97 + k - 1, ?_, by omega⟩
      rw [show (97 : Int32) = nI 97 from rfl, nI_add, show (1 : Int32) = nI 1 from rfl, nI_sub (by omega)]
def nmL (nm : Int32) : Nat → Nat → List Int32
  | 0, _ => []
  | k + 1, i => (if ltF nm (nI i) = -1 then [] else [ltF nm (nI i)]) ++ nmL nm k (i + 1)
def wrL (Y : Yd) (g : Nat → List Int32) : Nat → Option Nat → Int32 → List Int32
  | 0, _, _ => []
  | f + 1, o, c => match o with
    | none => []
    | some j => (c :: g j) ++ wrL Y g f (nCh Y j) (nI 44)
/-- a crate's text, n levels more -/
def wrF (Y : Yd) : Nat → Nat → List Int32
  | 0, i => nmL (yC Y i 1) 6 0 ++ nI 58 :: dgS (yC Y i 4).toNatClampNeg
  | n + 1, i => nmL (yC Y i 1) 6 0 ++ nI 58 :: dgS (yC Y i 4).toNatClampNeg ++ match fCh Y i with
    | none => []
    | some j => wrL Y (wrF Y n) 17 (some j) (nI 91) ++ [nI 93]
/-- gross weights that can be written -/
def GrO (Y : Yd) : Prop := ∀ i, i < 16 → yC Y i 4 = nI (yC Y i 4).toNatClampNeg ∧ (yC Y i 4).toNatClampNeg < 10000