/-! a crate written out with what is in it -/
section FRS
variable {M M' : Mem}
theorem FrS.e (h : FrS M M') {k i : Nat} (h1 : k ≠ 12) (h2 : k = 13 → i = 0) : mI M' k i = mI M k i ∧ mL M' k i = mL M k i ∧ mR M' k i = mR M k i ∧ mD M' k i = mD M k i ∧ mN M' k i = mN M k i := h.1 k i h1 h2
theorem Lay.frS {y : Nat} (h : Lay M y) (F : FrS M M') : Lay M' y := by
  have e9 := F.e (k := 9) (i := y) (by omega) (by omega)
  have e18 := F.e (k := 18) (i := y) (by omega) (by omega)
  have e17 := F.e (k := 17) (i := y) (by omega) (by omega)
  obtain ⟨a1, a2, a3, a4, a5, a6, a7, a8⟩ := h
  exact ⟨by rw [e9.2.2.1]; exact a1, by rw [e9.2.2.1]; exact a2, by rw [e9.2.2.1]; exact a3, by rw [e9.2.2.1]; exact a4, by rw [e18.2.2.2.2]; exact a5, by rw [e17.2.2.2.2]; exact a6, fun i hi => by rw [e18.2.2.1]; exact a7 i hi, fun i hi => by rw [e17.2.2.1]; exact a8 i hi⟩
theorem Yv.frS {y : Nat} {Y : Yd} (h : Yv M y Y) (F : FrS M M') : Yv M' y Y := by
  obtain ⟨h1, h2, h3, h4, h5, h6, h7, h8, h9, h10, h11, h12⟩ := h
  have e : ∀ k i, (k = 1 ∨ k = 0 ∨ k = 3 ∨ k = 8 ∨ k = 9) → mI M' k i = mI M k i ∧ mL M' k i = mL M k i ∧ mR M' k i = mR M k i := fun k i hk => by
    have := F.e (k := k) (i := i) (by omega) (by omega)
    exact ⟨this.1, this.2.1, this.2.2.1⟩
  refine ⟨h1.frS F, fun i hi f => ?_, fun i hi f => ?_, fun i hi => ?_, h5, fun j hj f => ?_, fun f => ?_, fun f => ?_, fun f => ?_, h10, h11, h12⟩
  · rw [(e 1 _ (by omega)).1]; exact h2 i hi f
  · rw [(e 1 _ (by omega)).2.1]; exact h3 i hi f
  · rw [(e 1 _ (by omega)).2.2]; exact h4 i hi
  · rw [(e 0 _ (by omega)).1]; exact h6 j hj f
  · rw [(e 3 _ (by omega)).1]; exact h7 f
  · rw [(e 8 _ (by omega)).1]; exact h8 f
  · rw [(e 9 _ (by omega)).1]; exact h9 f
theorem Hv.frS {p : Nat} {L : List Yd} (h : Hv M p L) (F : FrS M M') : Hv M' p L := by
  obtain ⟨⟨b1, b2, b3⟩, a2, a3, a4, a5, a6, a7⟩ := h
  have e2 := F.e (k := 2) (i := 0) (by decide) (by decide)
  have e20 := F.e (k := 20) (i := 0) (by decide) (by decide)
  refine ⟨⟨by rw [e2.2.2.1]; exact b1, by rw [e20.2.2.2.2]; exact b2, fun j hj => by rw [e20.2.2.1]; exact b3 j hj⟩, by rw [e2.1]; exact a2, by rw [e2.1]; exact a3, a4, a5, fun j hj => ?_, fun i Z hZ => (a7 i Z hZ).frS F⟩
  obtain ⟨Y, hY⟩ := a6 j hj
  exact ⟨Y, hY.frS F⟩
/-- the class behind a change of its output -/
theorem CSt.sb {S : KS} {p cap : Nat} {O : List Int32} (h : CSt M S p) (F : FrS M M') (hO : Sb M' cap O) : CSt M' (kY S, kV S, kH S, kB S, kN S, kE S, kQ S, O) p := by
  obtain ⟨a1, a2, ⟨Z1, a3, a3b⟩, ⟨Z, a4⟩, a5, a6, a7, a8, -⟩ := h
  have e10 := F.e (k := 10) (i := 0) (by decide) (by decide)
  have e5 := F.e (k := 5) (i := 0) (by decide) (by decide)
  have e4 := F.e (k := 4) (i := 0) (by decide) (by decide)
  have e19 := F.e (k := 19) (i := 0) (by decide) (by decide)
  have e7 := F.e (k := 7) (i := 0) (by decide) (by decide)
  have e13 := F.e (k := 13) (i := 0) (by decide) (fun _ => rfl)
  refine ⟨?_, a2.frS F, ⟨Z1, a3.frS F, ?_⟩, ⟨Z, a4.frS F⟩, a5.frS F, ?_, ?_, ?_, cap, hO⟩
  · unfold CLay at a1 ⊢
    rw [e10.2.2.1]; exact a1
  · rw [e10.1]; exact a3b
  · unfold LSe at a6 ⊢
    rw [e5.2.2.1]; exact a6
  · obtain ⟨b1, b2, b3, b4, b5⟩ := a7
    exact ⟨by rw [e4.2.2.1]; exact b1, by rw [e4.2.2.1]; exact b2, by rw [e4.2.2.1]; exact b3, by rw [e19.2.2.2.2]; exact b4, fun j hj => by rw [e19.2.2.1]; exact b5 j hj⟩
  · obtain ⟨b1, b2, b3, b4, b5, ⟨s, b6, b7⟩, b8, b9⟩ := a8
    exact ⟨by rw [e7.2.2.1]; exact b1, by rw [e13.2.2.2.2]; exact b2, fun i hi => by rw [e13.1]; exact b3 i hi, by rw [e7.1]; exact b4, b5, ⟨s, b6, by rw [e7.1]; exact b7⟩, by rw [e7.1]; exact b8, by rw [e7.1]; exact b9⟩
theorem FrK.sb {cap cap' : Nat} (F : FrS M M') (G : Gw M M' cap cap') (hc : cap' ≤ 600) : FrK M M' := by
  obtain ⟨f1, f2, f3⟩ := F
  obtain ⟨g1, g2, g3⟩ := G
  refine ⟨fun k i hk => f1 k i (by unfold inK at hk; omega) (by unfold inK at hk; omega), fun k hk => f2 k (by unfold inK at hk; omega), by omega, by omega⟩
end FRS
theorem and31 (x : Int32) : ∃ k, k < 32 ∧ x &&& 31 = nI k := by
  refine ⟨(x.toBitVec &&& 31#32).toNat, ?_, ?_⟩
  · rw [BitVec.toNat_and]
    exact Nat.lt_of_le_of_lt Nat.and_le_right (by decide)
  · apply Int32.toBitVec_inj.1
    show x.toBitVec &&& 31#32 = BitVec.ofNat 32 _
    rw [BitVec.ofNat_toNat]
    exact (BitVec.setWidth_eq _).symm
theorem ltF_k {nm x : Int32} (h : ¬ ltF nm x = -1) : ∃ k, ltF nm x = nI k ∧ k < 128 := by
  unfold ltF at h ⊢
  split at h
  · exact absurd rfl h
  next z =>
    rw [if_neg z]
    split at h
    · exact absurd rfl h
    next w =>
      rw [if_neg w]
      obtain ⟨k, hk, e⟩ := and31 (nm >>> ((5 * x) &&& 31))
      rw [e] at w ⊢
      have k0 : 0 < k := by
        apply Decidable.byContradiction
        intro z
        exact w (by rw [show k = 0 by omega]; rfl)
      refine ⟨97 + k - 1, ?_, by omega⟩
      rw [show (97 : Int32) = nI 97 from rfl, nI_add, show (1 : Int32) = nI 1 from rfl, nI_sub (by omega)]
def nmL (nm : Int32) : Nat → Nat → List Int32
  | 0, _ => []
  | k + 1, i => (if ltF nm (nI i) = -1 then [] else [ltF nm (nI i)]) ++ nmL nm k (i + 1)
def wrL (Y : Yd) (g : Nat → List Int32) : Nat → Option Nat → Int32 → List Int32
  | 0, _, _ => []
  | f + 1, o, c => match o with
    | none => []
    | some j => (c :: g j) ++ wrL Y g f (nCh Y j) (nI 44)
/-- a crate's text, n levels more -/
def wrF (Y : Yd) : Nat → Nat → List Int32
  | 0, i => nmL (yC Y i 1) 6 0 ++ nI 58 :: dgS (yC Y i 4).toNatClampNeg
  | n + 1, i => nmL (yC Y i 1) 6 0 ++ nI 58 :: dgS (yC Y i 4).toNatClampNeg ++ match fCh Y i with
    | none => []
    | some j => wrL Y (wrF Y n) 17 (some j) (nI 91) ++ [nI 93]
/-- gross weights that can be written -/
def GrO (Y : Yd) : Prop := ∀ i, i < 16 → yC Y i 4 = nI (yC Y i 4).toNatClampNeg ∧ (yC Y i 4).toNatClampNeg < 10000
set_option maxHeartbeats 2000000 in
set_option maxRecDepth 4000 in
theorem s_wrL {d : Nat} {Y : Yd} {i l n9 : Nat} {M : Mem} {Q : Out → Mem → Prop} {cap : Nat} {O : List Int32} (h : Yv M 0 Y) (s : Sb M cap O) (hl : O.length + (nmL (yC Y i 1) 6 0).length ≤ 290) (hi : i < 16) (kq9 : ∀ M2 c2 (v2 : Value), Sb M2 c2 (O ++ nmL (yC Y i 1) 6 0) → FrS M M2 → Gw M M2 cap c2 → WP mX12_writeCrate (d + n9 + 8) 41 [.ref (rf 9 0), .ref (rf 1 (16 * 0 + i)), .ref (rf 12 0), .int (nI l), .int (nI 6), v2, UN] [] M2 Q) : WPc (d + n9 + 8) mX12_writeCrate [.ref (rf 9 0), .ref (rf 1 (16 * 0 + i)), .ref (rf 12 0), .int (nI l)] M Q := by
  refine WPc.of (by decide +kernel) (Nat.le_of_ble_eq_true rfl) rfl ?_
  have key : ∀ (f a : Nat) (M1 : Mem) (v1 : Value) (c1 : Nat) (O1 : List Int32), a + f = 6 → Yv M1 0 Y → Sb M1 c1 O1 → FrS M M1 → Gw M M1 cap c1 → O1.length + (nmL (yC Y i 1) f a).length ≤ 290 → (∀ M2 c2 (v2 : Value), Sb M2 c2 (O1 ++ nmL (yC Y i 1) f a) → FrS M M2 → Gw M M2 cap c2 → WP mX12_writeCrate (d + n9 + 8) 41 [.ref (rf 9 0), .ref (rf 1 (16 * 0 + i)), .ref (rf 12 0), .int (nI l), .int (nI 6), v2, UN] [] M2 Q) → WP mX12_writeCrate (d + n9 + 8) 3 [.ref (rf 9 0), .ref (rf 1 (16 * 0 + i)), .ref (rf 12 0), .int (nI l), .int (nI a), v1, UN] [] M1 Q := by
    intro f
    induction f with
    | zero =>
      intro a M1 v1 c1 O1 hf h1 s1 F1 G1 hl kq
      have ea : a = 6 := by omega
      subst ea
      refine R.iload dX12_writeCrate_3 rfl ?_
      refine R.bipush (v := nI 6) dX12_writeCrate_5 (by decide) ?_
      refine R.geT (tgt := 41) (Int32.le_refl _) dX12_writeCrate_7 (by decide) ?_
      exact kq M1 c1 v1 (by simpa [nmL] using s1) F1 G1
    | succ f ih =>
      intro a M1 v1 c1 O1 hf h1 s1 F1 G1 hl kq
      refine R.iload dX12_writeCrate_3 rfl ?_
      refine R.bipush (v := nI 6) dX12_writeCrate_5 (by decide) ?_
      refine R.geF (tgt := 41) (nI_ge (show a < 6 by omega) (by decide)) dX12_writeCrate_7 (by decide) ?_
      refine R.aload_n dX12_writeCrate_10 rfl (by first | rfl | exact rfv_rf _) ?_
      refine R.getI dX12_writeCrate_11 fl_X12_123 (by decide) rfl ?_
      rw [h1.rC hi]
      refine R.iload dX12_writeCrate_14 rfl ?_
      refine cl_X12_126 rfl rfl (by first | exact Nat.le_of_ble_eq_true rfl | simp [rf_cat, Value.category]) dX12_writeCrate_16 ?_
      refine s_let ?_
      refine R.istore dX12_writeCrate_19 (Nat.le_of_ble_eq_true rfl) (by decide) (by first | rfl | simp [lft, rf_cat]) rfl ?_
      refine R.iload dX12_writeCrate_21 rfl ?_
      refine R.iconst (v := (-1)) dX12_writeCrate_23 rfl ?_
      refine R.icmp_eq (tgt := 35) dX12_writeCrate_24 (by decide) (fun c24 => ?_) (fun c24 => ?_)
      · skip
        refine R.iinc dX12_writeCrate_35 (Nat.le_of_ble_eq_true rfl) (by decide) (by first | rfl | simp [lft, rf_cat]) rfl (inc_nI _) rfl ?_
        refine R.goto (tgt := 3) dX12_writeCrate_38 (by decide) ?_
        exact ih (a + 1) M1 _ _ O1 (by omega) h1 s1 F1 G1 (by simpa [nmL, c24] using hl) (fun M2 c2 v2 s2 => kq M2 c2 v2 (by simpa [nmL, c24] using s2))
      · obtain ⟨k, ek, hk⟩ := ltF_k c24
        have hl2 : O1.length + (1 + (nmL (yC Y i 1) f (a + 1)).length) ≤ 290 := by
          rw [nmL, if_neg c24] at hl
          simp only [List.length_append, List.length_cons, List.length_nil] at hl
          omega
        rw [ek]
        refine R.aload_n dX12_writeCrate_27 rfl (by first | rfl | exact rfv_rf _) ?_
        refine R.iload dX12_writeCrate_28 rfl ?_
        refine R.i2c dX12_writeCrate_30 ?_
        rw [i2c_k hk]
        refine cl_X12_398 rfl rfl (by first | exact Nat.le_of_ble_eq_true rfl | simp [rf_cat, Value.category]) dX12_writeCrate_31 ?_
        refine s_sbC s1 hk (by omega) (fun M2 c2 s2 F2 G2 => ?_)
        refine R.pop dX12_writeCrate_34 (by first | rfl | exact rf_cat _) ?_
        refine R.iinc dX12_writeCrate_35 (Nat.le_of_ble_eq_true rfl) (by decide) (by first | rfl | simp [lft, rf_cat]) rfl (inc_nI _) rfl ?_
        refine R.goto (tgt := 3) dX12_writeCrate_38 (by decide) ?_
        refine ih (a + 1) M2 _ _ (O1 ++ [nI k]) (by omega) (h1.frS F2) s2 (F1.tr F2) (G1.tr G2) (by rw [List.length_append, List.length_singleton]; omega) (fun M3 c3 v3 s3 => kq M3 c3 v3 ?_)
        rw [nmL, if_neg c24, ek]
        simpa using s3
  refine R.iconst (v := 0) dX12_writeCrate_0 rfl ?_
  refine R.istore dX12_writeCrate_1 (Nat.le_of_ble_eq_true rfl) (by decide) (by first | rfl | simp [lft, rf_cat]) rfl ?_
  exact key 6 0 M _ cap O rfl h s (FrS.rf _) (Gw.rf _ _) hl kq9
set_option maxHeartbeats 2000000 in
set_option maxRecDepth 4000 in
theorem s_wr {d : Nat} {Y : Yd} (hG : GrO Y) (hE : ChE Y) : ∀ (n l i : Nat), l + n = 5 → i < 16 → ∀ {M : Mem} {Q : Out → Mem → Prop} {cap : Nat} {O : List Int32}, Yv M 0 Y → Sb M cap O → O.length + (wrF Y n i).length ≤ 290 → (∀ M' cap', Sb M' cap' (O ++ wrF Y n i) → FrS M M' → Gw M M' cap cap' → Q (.inl none) M') → WPc (d + n + 8) mX12_writeCrate [.ref (rf 9 0), .ref (rf 1 (16 * 0 + i)), .ref (rf 12 0), .int (nI l)] M Q := by
  intro n
  induction n with
  | zero =>
    intro l i hln hi M Q cap O h s hl hq
    rw [wrF] at hl
    refine s_wrL (n9 := 0) h s (by simp only [List.length_append, List.length_cons, List.length_nil] at hl ⊢; omega) hi (fun M2 c2 v2 s2 F2 G2 => ?_)
    have h2 := h.frS F2
    refine R.aload_n dX12_writeCrate_41 rfl (by first | rfl | exact rfv_rf _) ?_
    refine R.bipush (v := nI 58) dX12_writeCrate_42 (by decide) ?_
    refine cl_X12_398 rfl rfl (by first | exact Nat.le_of_ble_eq_true rfl | simp [rf_cat, Value.category]) dX12_writeCrate_44 ?_
    refine s_sbC s2 (by decide) (by simp only [List.length_append, List.length_cons, List.length_nil] at hl ⊢; omega) (fun M3 c3 s3 F3 G3 => ?_)
    refine R.pop dX12_writeCrate_47 (by first | rfl | exact rf_cat _) ?_
    refine R.aload_n dX12_writeCrate_48 rfl (by first | rfl | exact rfv_rf _) ?_
    refine R.aload_n dX12_writeCrate_49 rfl (by first | rfl | exact rfv_rf _) ?_
    refine R.getI dX12_writeCrate_50 fl_X12_143 (by decide) rfl ?_
    rw [(h2.frS F3).rC hi, (hG i hi).1]
    refine cl_X12_402 rfl rfl (by first | exact Nat.le_of_ble_eq_true rfl | simp [rf_cat, Value.category]) dX12_writeCrate_53 ?_
    refine s_sbI s3 (hG i hi).2 (by rw [← dgS_len (hG i hi).2]; simp only [List.length_append, List.length_cons, List.length_nil] at hl ⊢; omega) (fun M4 c4 s4 F4 G4 => ?_)
    have h4 := (h2.frS F3).frS F4
    have F5 := (F2.tr F3).tr F4
    have G5 := (G2.tr G3).tr G4
    refine R.pop dX12_writeCrate_56 (by first | rfl | exact rf_cat _) ?_
    refine R.aload_n dX12_writeCrate_57 rfl (by first | rfl | exact rfv_rf _) ?_
    refine R.aload_n dX12_writeCrate_58 rfl (by first | rfl | exact rfv_rf _) ?_
    refine cl_X12_152 rfl rfl (by first | exact Nat.le_of_ble_eq_true rfl | simp [rf_cat, Value.category]) dX12_writeCrate_59 ?_
    refine s_yFirst h4 ?_
    cases hf : fCh Y i with
    | none =>
      show WP mX12_writeCrate _ 62 _ [.null] M4 Q
      refine R.astore dX12_writeCrate_62 (by first | rfl | exact rfv_rf _) (Nat.le_of_ble_eq_true rfl) (by decide) (by first | rfl | simp [lft, rf_cat]) rfl ?_
      refine R.aload dX12_writeCrate_64 rfl (by first | rfl | exact rfv_rf _) ?_
      refine R.ifnullN (tgt := 74) dX12_writeCrate_66 (by decide) ?_
      refine WP.ret (ov := none) dX12_writeCrate_74 ⟨rfl, rfl⟩ ?_
      refine hq M4 c4 ?_ F5 G5
      simpa [wrF] using s4
    | some c =>
      show WP mX12_writeCrate _ 62 _ [.ref (rf 1 (16 * 0 + c))] M4 Q
      refine R.astore dX12_writeCrate_62 (by first | rfl | exact rfv_rf _) (Nat.le_of_ble_eq_true rfl) (by decide) (by first | rfl | simp [lft, rf_cat]) rfl ?_
      refine R.aload dX12_writeCrate_64 rfl (by first | rfl | exact rfv_rf _) ?_
      refine R.ifnullS (tgt := 74) (by first | decide | exact Nat.lt_of_le_of_lt (Nat.le_of_eq (kd_rf _ _ (by decide))) (by decide)) dX12_writeCrate_66 (by decide) ?_
      refine R.iload_n dX12_writeCrate_69 rfl ?_
      refine R.iconst (v := 5) dX12_writeCrate_70 rfl ?_
      refine R.icmp_lt (tgt := 75) dX12_writeCrate_71 (by decide) (fun c => absurd c (nI_nlt (b := 5) (by omega) (by omega))) (fun _ => ?_)
      refine WP.ret (ov := none) dX12_writeCrate_74 ⟨rfl, rfl⟩ ?_
      refine hq M4 c4 ?_ F5 G5
      simpa [wrF] using s4
  | succ n ih =>
    intro l i hln hi M Q cap O h s hl hq
    have hlx : O.length + (nmL (yC Y i 1) 6 0 ++ nI 58 :: dgS (yC Y i 4).toNatClampNeg).length ≤ 290 := by
      rw [wrF] at hl
      simp only [List.length_append] at hl ⊢
      omega
    refine s_wrL (n9 := n + 1) h s (by simp only [List.length_append, List.length_cons, List.length_nil] at hlx ⊢; omega) hi (fun M2 c2 v2 s2 F2 G2 => ?_)
    have h2 := h.frS F2
    refine R.aload_n dX12_writeCrate_41 rfl (by first | rfl | exact rfv_rf _) ?_
    refine R.bipush (v := nI 58) dX12_writeCrate_42 (by decide) ?_
    refine cl_X12_398 rfl rfl (by first | exact Nat.le_of_ble_eq_true rfl | simp [rf_cat, Value.category]) dX12_writeCrate_44 ?_
    refine s_sbC s2 (by decide) (by simp only [List.length_append, List.length_cons, List.length_nil] at hlx ⊢; omega) (fun M3 c3 s3 F3 G3 => ?_)
    refine R.pop dX12_writeCrate_47 (by first | rfl | exact rf_cat _) ?_
    refine R.aload_n dX12_writeCrate_48 rfl (by first | rfl | exact rfv_rf _) ?_
    refine R.aload_n dX12_writeCrate_49 rfl (by first | rfl | exact rfv_rf _) ?_
    refine R.getI dX12_writeCrate_50 fl_X12_143 (by decide) rfl ?_
    rw [(h2.frS F3).rC hi, (hG i hi).1]
    refine cl_X12_402 rfl rfl (by first | exact Nat.le_of_ble_eq_true rfl | simp [rf_cat, Value.category]) dX12_writeCrate_53 ?_
    refine s_sbI s3 (hG i hi).2 (by rw [← dgS_len (hG i hi).2]; simp only [List.length_append, List.length_cons, List.length_nil] at hlx ⊢; omega) (fun M4 c4 s4 F4 G4 => ?_)
    have h4 := (h2.frS F3).frS F4
    have F5 := (F2.tr F3).tr F4
    have G5 := (G2.tr G3).tr G4
    refine R.pop dX12_writeCrate_56 (by first | rfl | exact rf_cat _) ?_
    refine R.aload_n dX12_writeCrate_57 rfl (by first | rfl | exact rfv_rf _) ?_
    refine R.aload_n dX12_writeCrate_58 rfl (by first | rfl | exact rfv_rf _) ?_
    refine cl_X12_152 rfl rfl (by first | exact Nat.le_of_ble_eq_true rfl | simp [rf_cat, Value.category]) dX12_writeCrate_59 ?_
    refine s_yFirst h4 ?_
    cases hf : fCh Y i with
    | none =>
      show WP mX12_writeCrate _ 62 _ [.null] M4 Q
      refine R.astore dX12_writeCrate_62 (by first | rfl | exact rfv_rf _) (Nat.le_of_ble_eq_true rfl) (by decide) (by first | rfl | simp [lft, rf_cat]) rfl ?_
      refine R.aload dX12_writeCrate_64 rfl (by first | rfl | exact rfv_rf _) ?_
      refine R.ifnullN (tgt := 74) dX12_writeCrate_66 (by decide) ?_
      refine WP.ret (ov := none) dX12_writeCrate_74 ⟨rfl, rfl⟩ ?_
      refine hq M4 c4 ?_ F5 G5
      simpa [wrF, hf] using s4
    | some c =>
      have key2 : ∀ (f : Nat) (o : Option Nat) (k : Nat) (M1 : Mem) (c1 : Nat) (O1 : List Int32), k < 128 → chE Y f o → (∀ c, o = some c → c < 16) → Yv M1 0 Y → Sb M1 c1 O1 → FrS M M1 → Gw M M1 cap c1 → O1.length + (wrL Y (wrF Y n) f o (nI k)).length + 1 ≤ 290 → (∀ M' cap', Sb M' cap' (O1 ++ wrL Y (wrF Y n) f o (nI k) ++ [nI 93]) → FrS M M' → Gw M M' cap cap' → Q (.inl none) M') → WP mX12_writeCrate (d + (n + 1) + 8) 83 [.ref (rf 9 0), .ref (rf 1 (16 * 0 + i)), .ref (rf 12 0), .int (nI l), .ref (rf 1 (16 * 0 + c)), .int (nI k), va_rf (o.map fun j => rf 1 (16 * 0 + j))] [] M1 Q := by
        intro f
        induction f with
        | zero =>
          intro o k M1 c1 O1 hk hE1 ho h1 s1 F1 G1 hl kq
          cases (show o = none from hE1)
          show WP mX12_writeCrate (d + (n + 1) + 8) 83 [.ref (rf 9 0), .ref (rf 1 (16 * 0 + i)), .ref (rf 12 0), .int (nI l), .ref (rf 1 (16 * 0 + c)), .int (nI k), .null] [] M1 Q
          refine R.aload dX12_writeCrate_83 rfl (by first | rfl | exact rfv_rf _) ?_
          refine R.ifnullN (tgt := 120) dX12_writeCrate_85 (by decide) ?_
          refine R.aload_n dX12_writeCrate_120 rfl (by first | rfl | exact rfv_rf _) ?_
          refine R.bipush (v := nI 93) dX12_writeCrate_121 (by decide) ?_
          refine cl_X12_398 rfl rfl (by first | exact Nat.le_of_ble_eq_true rfl | simp [rf_cat, Value.category]) dX12_writeCrate_123 ?_
          refine s_sbC s1 (by decide) (by simp only [wrL, List.length_append, List.length_cons, List.length_nil] at hl ⊢; omega) (fun M2 c2 s2 F2 G2 => ?_)
          refine R.pop dX12_writeCrate_126 (by first | rfl | exact rf_cat _) ?_
          refine WP.ret (ov := none) dX12_writeCrate_127 ⟨rfl, rfl⟩ ?_
          refine kq M2 c2 ?_ (F1.tr F2) (G1.tr G2)
          simpa [wrL] using s2
        | succ f ih2 =>
          intro o k M1 c1 O1 hk hE1 ho h1 s1 F1 G1 hl kq
          cases o with
          | none =>
            show WP mX12_writeCrate (d + (n + 1) + 8) 83 [.ref (rf 9 0), .ref (rf 1 (16 * 0 + i)), .ref (rf 12 0), .int (nI l), .ref (rf 1 (16 * 0 + c)), .int (nI k), .null] [] M1 Q
            refine R.aload dX12_writeCrate_83 rfl (by first | rfl | exact rfv_rf _) ?_
            refine R.ifnullN (tgt := 120) dX12_writeCrate_85 (by decide) ?_
            refine R.aload_n dX12_writeCrate_120 rfl (by first | rfl | exact rfv_rf _) ?_
            refine R.bipush (v := nI 93) dX12_writeCrate_121 (by decide) ?_
            refine cl_X12_398 rfl rfl (by first | exact Nat.le_of_ble_eq_true rfl | simp [rf_cat, Value.category]) dX12_writeCrate_123 ?_
            refine s_sbC s1 (by decide) (by simp only [wrL, List.length_append, List.length_cons, List.length_nil] at hl ⊢; omega) (fun M2 c2 s2 F2 G2 => ?_)
            refine R.pop dX12_writeCrate_126 (by first | rfl | exact rf_cat _) ?_
            refine WP.ret (ov := none) dX12_writeCrate_127 ⟨rfl, rfl⟩ ?_
            refine kq M2 c2 ?_ (F1.tr F2) (G1.tr G2)
            simpa [wrL] using s2
          | some j =>
            have hj := ho j rfl
            have hE2 : chE Y f (nCh Y j) := hE1
            show WP mX12_writeCrate (d + (n + 1) + 8) 83 [.ref (rf 9 0), .ref (rf 1 (16 * 0 + i)), .ref (rf 12 0), .int (nI l), .ref (rf 1 (16 * 0 + c)), .int (nI k), .ref (rf 1 (16 * 0 + j))] [] M1 Q
            refine R.aload dX12_writeCrate_83 rfl (by first | rfl | exact rfv_rf _) ?_
            refine R.ifnullS (tgt := 120) (by first | decide | exact Nat.lt_of_le_of_lt (Nat.le_of_eq (kd_rf _ _ (by decide))) (by decide)) dX12_writeCrate_85 (by decide) ?_
            refine R.aload_n dX12_writeCrate_88 rfl (by first | rfl | exact rfv_rf _) ?_
            refine R.iload dX12_writeCrate_89 rfl ?_
            refine cl_X12_398 rfl rfl (by first | exact Nat.le_of_ble_eq_true rfl | simp [rf_cat, Value.category]) dX12_writeCrate_91 ?_
            refine s_sbC s1 hk (by simp only [wrL, List.length_append, List.length_cons, List.length_nil] at hl ⊢; omega) (fun M2 c2 s2 F2 G2 => ?_)
            refine R.pop dX12_writeCrate_94 (by first | rfl | exact rf_cat _) ?_
            refine R.aload_n dX12_writeCrate_95 rfl (by first | rfl | exact rfv_rf _) ?_
            refine R.aload dX12_writeCrate_96 rfl (by first | rfl | exact rfv_rf _) ?_
            refine R.aload_n dX12_writeCrate_98 rfl (by first | rfl | exact rfv_rf _) ?_
            refine R.iload_n dX12_writeCrate_99 rfl ?_
            refine R.iconst (v := 1) dX12_writeCrate_100 rfl ?_
            refine R.iadd dX12_writeCrate_101 ?_
            rw [nI_1]
            refine cl_X12_346 rfl rfl (by first | exact Nat.le_of_ble_eq_true rfl | simp [rf_cat, Value.category]) dX12_writeCrate_102 ?_
            refine ih (l + 1) j (by omega) hj (h1.frS F2) s2 (by simp only [wrL, List.length_append, List.length_cons, List.length_nil] at hl ⊢; omega) (fun M3 c3 s3 F3 G3 => ?_)
            have h3 := (h1.frS F2).frS F3
            refine R.bipush (v := nI 44) dX12_writeCrate_105 (by decide) ?_
            refine R.istore dX12_writeCrate_107 (Nat.le_of_ble_eq_true rfl) (by decide) (by first | rfl | simp [lft, rf_cat]) rfl ?_
            refine R.aload_n dX12_writeCrate_109 rfl (by first | rfl | exact rfv_rf _) ?_
            refine R.aload dX12_writeCrate_110 rfl (by first | rfl | exact rfv_rf _) ?_
            refine cl_X12_156 rfl rfl (by first | exact Nat.le_of_ble_eq_true rfl | simp [rf_cat, Value.category]) dX12_writeCrate_112 ?_
            refine s_yNext h3 hj ?_
            refine R.astore dX12_writeCrate_115 (by first | rfl | exact rfv_rf _) (Nat.le_of_ble_eq_true rfl) (by decide) (by first | rfl | simp [lft, rf_cat]) rfl ?_
            refine R.goto (tgt := 83) dX12_writeCrate_117 (by decide) ?_
            refine ih2 (nCh Y j) 44 M3 c3 _ (by decide) hE2 (fun c9 e9 => nCh_lt e9) h3 s3 ((F1.tr F2).tr F3) ((G1.tr G2).tr G3) (by simp only [wrL, List.length_append, List.length_cons, List.length_nil] at hl ⊢; omega) (fun M9 c9 s9 F9 G9 => kq M9 c9 ?_ F9 G9)
            simpa [wrL] using s9
      show WP mX12_writeCrate _ 62 _ [.ref (rf 1 (16 * 0 + c))] M4 Q
      refine R.astore dX12_writeCrate_62 (by first | rfl | exact rfv_rf _) (Nat.le_of_ble_eq_true rfl) (by decide) (by first | rfl | simp [lft, rf_cat]) rfl ?_
      refine R.aload dX12_writeCrate_64 rfl (by first | rfl | exact rfv_rf _) ?_
      refine R.ifnullS (tgt := 74) (by first | decide | exact Nat.lt_of_le_of_lt (Nat.le_of_eq (kd_rf _ _ (by decide))) (by decide)) dX12_writeCrate_66 (by decide) ?_
      refine R.iload_n dX12_writeCrate_69 rfl ?_
      refine R.iconst (v := 5) dX12_writeCrate_70 rfl ?_
      refine R.icmp_lt (tgt := 75) dX12_writeCrate_71 (by decide) (fun _ => ?_) (fun c => absurd (nI_lt (b := 5) (by omega) (by decide)) c)
      refine R.bipush (v := nI 91) dX12_writeCrate_75 (by decide) ?_
      refine R.istore dX12_writeCrate_77 (Nat.le_of_ble_eq_true rfl) (by decide) (by first | rfl | simp [lft, rf_cat]) rfl ?_
      refine R.aload dX12_writeCrate_79 rfl (by first | rfl | exact rfv_rf _) ?_
      refine R.astore dX12_writeCrate_81 (by first | rfl | exact rfv_rf _) (Nat.le_of_ble_eq_true rfl) (by decide) (by first | rfl | simp [lft, rf_cat]) rfl ?_
      refine key2 17 (some c) 91 M4 c4 _ (by decide) ((hf ▸ hE i hi : chE Y 17 (some c))) (fun c9 e9 => by cases e9; exact fCh_lt hf) h4 s4 F5 G5 (by simp only [wrF, hf, List.length_append, List.length_cons, List.length_nil] at hl ⊢; omega) (fun M9 c9 s9 F9 G9 => hq M9 c9 ?_ F9 G9)
      simpa [wrF, hf] using s9
