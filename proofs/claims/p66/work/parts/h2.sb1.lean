/-! the law's own builder -/
/-- the builder 1 holds O; its array is one of the law's, from c0 on -/
def Sc (c0 : Nat) (M : Mem) (cap : Nat) (O : List Int32) : Prop := (∃ v, mR M 12 1 0 = some (rf 13 v) ∧ c0 ≤ v ∧ v < mC M 13 ∧ mN M 13 v = cap ∧ (∀ i x, O[i]? = some x → mI M 13 v i = x) ∧ ∀ j, j < cap → fits .byte (.int (mI M 13 v j)) = true) ∧ mI M 12 1 1 = 0 ∧ mI M 12 1 3 = nI O.length ∧ O.length ≤ cap ∧ cap ≤ 600
/-- what its growth may touch -/
def FrT (c0 : Nat) (M M' : Mem) : Prop := (∀ k i, (k = 12 → i ≠ 1) → (k = 13 → i < c0) → mI M' k i = mI M k i ∧ mL M' k i = mL M k i ∧ mR M' k i = mR M k i ∧ mD M' k i = mD M k i ∧ mN M' k i = mN M k i) ∧ (∀ k, k ≠ 13 → mC M' k = mC M k) ∧ mC M 13 ≤ mC M' 13
theorem FrT.tr {c0 : Nat} {M M' M'' : Mem} (h : FrT c0 M M') (g : FrT c0 M' M'') : FrT c0 M M'' := by
  refine ⟨fun k i h1 h2 => ?_, fun k hk => (g.2.1 k hk).trans (h.2.1 k hk), Nat.le_trans h.2.2 g.2.2⟩
  have a := h.1 k i h1 h2
  have b := g.1 k i h1 h2
  exact ⟨b.1.trans a.1, b.2.1.trans a.2.1, b.2.2.1.trans a.2.2.1, b.2.2.2.1.trans a.2.2.2.1, b.2.2.2.2.trans a.2.2.2.2⟩
theorem FrT.rf {c0 : Nat} (M : Mem) : FrT c0 M M := ⟨fun _ _ _ _ => ⟨rfl, rfl, rfl, rfl, rfl⟩, fun _ _ => rfl, Nat.le_refl _⟩
theorem FrT.s12 {c0 : Nat} {M M' : Mem} {f : Nat} {v : Int32} (h : FrT c0 M M') : FrT c0 M (sI M' 12 1 f v) :=
  h.tr ⟨fun k i h1 h2 => ⟨up3_ne (fun z => h1 z.1 z.2), rfl, rfl, rfl, rfl⟩, fun _ _ => rfl, Nat.le_refl _⟩
theorem FrT.r12 {c0 : Nat} {M M' : Mem} {f : Nat} {v : Option Nat} (h : FrT c0 M M') : FrT c0 M (sR M' 12 1 f v) :=
  h.tr ⟨fun k i h1 h2 => ⟨rfl, rfl, up3_ne (fun z => h1 z.1 z.2), rfl, rfl⟩, fun _ _ => rfl, Nat.le_refl _⟩
theorem FrT.s13 {c0 : Nat} {M M' : Mem} {w f : Nat} {v : Int32} (h : FrT c0 M M') (hw : c0 ≤ w) : FrT c0 M (sI M' 13 w f v) :=
  h.tr ⟨fun k i h1 h2 => ⟨up3_ne (fun z => by have := h2 z.1; omega), rfl, rfl, rfl, rfl⟩, fun _ _ => rfl, Nat.le_refl _⟩
set_option maxHeartbeats 1000000 in
set_option maxRecDepth 4000 in
theorem t_sbLat {c0 : Nat} {d : Nat} {cap : Nat} {O : List Int32} {M : Mem} {Q : Out → Mem → Prop} (h : Sc c0 M cap O) (hq : Q (.inl (some (.int 1))) M) : WPc d mJ5_isLatin1_aae02 [.ref (rf 12 1)] M Q := by
  refine WPc.of (by decide +kernel) (Nat.le_of_ble_eq_true rfl) rfl ?_
  obtain ⟨⟨v, a1, a2, a3, a4, a5, a6⟩, b1, b2, b3, b4⟩ := h
  refine R.gsCompact (gt_i 391 (by decide +kernel) rfl) dJ5_isLatin1_aae02_0 ?_
  refine R.if_eq (tgt := 17) dJ5_isLatin1_aae02_3 (by decide) (fun c => absurd c (by decide)) (fun _ => ?_)
  refine R.aload_n dJ5_isLatin1_aae02_6 rfl (by first | rfl | exact rfv_rf _) ?_
  refine R.getI dJ5_isLatin1_aae02_7 fl_J5_22 (by decide) rfl ?_
  rw [b1]
  refine R.if_ne (tgt := 17) dJ5_isLatin1_aae02_10 (by decide) (fun c => absurd rfl c) (fun _ => ?_)
  refine R.iconst (v := 1) dJ5_isLatin1_aae02_13 rfl ?_
  refine R.goto (tgt := 18) dJ5_isLatin1_aae02_14 (by decide) ?_
  refine WP.ret (ov := some (.int _)) dJ5_isLatin1_aae02_18 ⟨rfl, _, rfl, by first | rfl | assumption | exact nar_b01 (by assumption)⟩ ?_
  exact hq
set_option maxHeartbeats 1000000 in
set_option maxRecDepth 4000 in
theorem t_sbCap {c0 : Nat} {d : Nat} {cap : Nat} {O : List Int32} {q : Nat} {M : Mem} {Q : Out → Mem → Prop} (h : Sc c0 M cap O) (hc : cap < q) (hq9 : q ≤ 300) (hq : Q (.inl (some (.int (nI (max q (2 * cap + 2)))))) M) : WPc (d + 2) mJ5_newCapacity_0f7a4 [.ref (rf 12 1), .int (nI q)] M Q := by
  refine WPc.of (by decide +kernel) (Nat.le_of_ble_eq_true rfl) rfl ?_
  obtain ⟨⟨v, a1, a2, a3, a4, a5, a6⟩, b1, b2, b3, b4⟩ := h
  refine R.aload_n dJ5_newCapacity_0f7a4_0 rfl (by first | rfl | exact rfv_rf _) ?_
  refine R.getS (a1) dJ5_newCapacity_0f7a4_1 fl_J5_15 (by decide) rfl ?_
  refine R.alenS a4 (by decide) (by decide) dJ5_newCapacity_0f7a4_4 ?_
  refine R.istore_n dJ5_newCapacity_0f7a4_5 (Nat.le_of_ble_eq_true rfl) (by decide) (by first | rfl | simp [lft, rf_cat]) rfl ?_
  refine R.iload_n dJ5_newCapacity_0f7a4_6 rfl ?_
  refine R.aload_n dJ5_newCapacity_0f7a4_7 rfl (by first | rfl | exact rfv_rf _) ?_
  refine R.getI dJ5_newCapacity_0f7a4_8 fl_J5_22 (by decide) rfl ?_
  rw [b1]
  refine R.ishl dJ5_newCapacity_0f7a4_11 ?_
  rw [nI_shl0]
  refine R.istore_n dJ5_newCapacity_0f7a4_12 (Nat.le_of_ble_eq_true rfl) (by decide) (by first | rfl | simp [lft, rf_cat]) rfl ?_
  refine R.iload_n dJ5_newCapacity_0f7a4_13 rfl ?_
  refine R.iload_n dJ5_newCapacity_0f7a4_14 rfl ?_
  refine R.isub dJ5_newCapacity_0f7a4_15 ?_
  rw [nI_sub (by omega)]
  refine R.istore dJ5_newCapacity_0f7a4_16 (Nat.le_of_ble_eq_true rfl) (by decide) (by first | rfl | simp [lft, rf_cat]) rfl ?_
  refine R.iload_n dJ5_newCapacity_0f7a4_18 rfl ?_
  refine R.iload dJ5_newCapacity_0f7a4_19 rfl ?_
  refine R.iload_n dJ5_newCapacity_0f7a4_21 rfl ?_
  refine R.iconst (v := nI 2) dJ5_newCapacity_0f7a4_22 rfl ?_
  refine R.aload_n dJ5_newCapacity_0f7a4_23 rfl (by first | rfl | exact rfv_rf _) ?_
  refine R.getI dJ5_newCapacity_0f7a4_24 fl_J5_22 (by decide) rfl ?_
  rw [b1]
  refine R.ishl dJ5_newCapacity_0f7a4_27 ?_
  rw [nI_shl0]
  refine R.iadd dJ5_newCapacity_0f7a4_28 ?_
  rw [nI_add]
  refine cl_J5_114 rfl rfl (by first | exact Nat.le_of_ble_eq_true rfl | simp [rf_cat, Value.category]) dJ5_newCapacity_0f7a4_29 ?_
  refine s_newLen (by omega) ⟨by omega, by omega⟩ (by omega) ?_
  rw [show cap + max (q - cap) (cap + 2) = max q (2 * cap + 2) by omega]
  refine R.istore dJ5_newCapacity_0f7a4_32 (Nat.le_of_ble_eq_true rfl) (by decide) (by first | rfl | simp [lft, rf_cat]) rfl ?_
  refine R.iload dJ5_newCapacity_0f7a4_34 rfl ?_
  refine R.ldc (v := nI 2147483647) dJ5_newCapacity_0f7a4_36 (gt_i 1530 (by decide +kernel) rfl) ?_
  refine R.icmp_ne (tgt := 51) dJ5_newCapacity_0f7a4_38 (by decide) (fun _ => ?_) (fun c => absurd ((nI_eq (by omega) (by omega)).mp c) (by omega))
  refine R.iload dJ5_newCapacity_0f7a4_51 rfl ?_
  refine R.aload_n dJ5_newCapacity_0f7a4_53 rfl (by first | rfl | exact rfv_rf _) ?_
  refine R.getI dJ5_newCapacity_0f7a4_54 fl_J5_22 (by decide) rfl ?_
  rw [b1]
  refine R.ishr dJ5_newCapacity_0f7a4_57 ?_
  rw [nI_shr0]
  refine WP.ret (ov := some (.int _)) dJ5_newCapacity_0f7a4_58 ⟨rfl, _, rfl, by first | rfl | assumption | exact nar_b01 (by assumption)⟩ ?_
  exact hq
/-- the builder behind its growth -/
theorem Sc.grow {c0 : Nat} {M : Mem} {cap c9 v : Nat} {O : List Int32} (h : Sc c0 M cap O) (a1 : mR M 12 1 0 = some (rf 13 v)) (hv : c0 ≤ v) (hvC : v < mC M 13) (a4 : mN M 13 v = cap) (hc : 2 * cap + 2 ≤ c9) (hc7 : c9 ≤ 600) : Sc c0 (sR (cpA (al M 13 c9 c9) v (mC M 13) cap) 12 1 0 (some (rf 13 (mC M 13)))) c9 O ∧ FrT c0 M (sR (cpA (al M 13 c9 c9) v (mC M 13) cap) 12 1 0 (some (rf 13 (mC M 13)))) ∧ Gw M (sR (cpA (al M 13 c9 c9) v (mC M 13) cap) 12 1 0 (some (rf 13 (mC M 13)))) cap c9 := by
  obtain ⟨⟨v', a1', a2, a3, a4', a5, a6⟩, b1, b2, b3, b4⟩ := h
  have ev : v' = v := (rf_inj (by decide) (by decide) (Option.some.inj (a1'.symm.trans a1))).2
  subst ev
  have eI : ∀ k i f, ¬ (k = 13 ∧ i = mC M 13) → mI (al M 13 c9 c9) k i f = mI M k i f := by
    intro k i f hn
    show up2 M.1 13 (mC M 13) 0 k i f = _
    unfold up2
    rw [if_neg hn]; rfl
  have eZ : ∀ f, mI (al M 13 c9 c9) 13 (mC M 13) f = 0 := by
    intro f
    show up2 M.1 13 (mC M 13) 0 13 (mC M 13) f = _
    unfold up2
    rw [if_pos ⟨rfl, rfl⟩]
  have eC : ∀ k i f, mI (sR (cpA (al M 13 c9 c9) v' (mC M 13) cap) 12 1 0 (some (rf 13 (mC M 13)))) k i f = if k = 13 ∧ i = mC M 13 ∧ f < cap then mI M 13 v' f else mI (al M 13 c9 c9) k i f := by
    intro k i f
    rw [mI_sR, mI_cpA, eI 13 v' f (by omega)]
  refine ⟨⟨⟨mC M 13, ?_, by omega, ?_, ?_, fun i x hx => ?_, fun j hj => ?_⟩, ?_, ?_, by omega, by omega⟩, ⟨fun k i h1 h2 => ?_, fun k hk => ?_, ?_⟩, by omega, ?_, ?_⟩
  · rw [mR_sR, if_pos ⟨rfl, rfl, rfl⟩]
  · show mC M 13 < (if 13 = 13 then mC M 13 + 1 else mC M 13)
    rw [if_pos rfl]; omega
  · show (if 13 = 13 ∧ mC M 13 = mC M 13 then c9 else _) = c9
    rw [if_pos ⟨rfl, rfl⟩]
  · have hi : i < O.length := (List.getElem?_eq_some_iff.mp hx).1
    rw [eC, if_pos ⟨rfl, rfl, by omega⟩]
    exact a5 i x hx
  · rw [eC]
    by_cases z : j < cap
    · rw [if_pos ⟨rfl, rfl, z⟩]; exact a6 j z
    · rw [if_neg (fun w => z w.2.2), eZ]; decide
  · rw [eC, if_neg (by omega), eI _ _ _ (by omega)]; exact b1
  · rw [eC, if_neg (by omega), eI _ _ _ (by omega)]; exact b2
  · have hne : ¬ (k = 13 ∧ i = mC M 13) := fun z => by have := h2 z.1; omega
    refine ⟨?_, ?_, ?_, ?_, ?_⟩
    · funext f
      rw [eC, if_neg (fun z => hne ⟨z.1, z.2.1⟩), eI _ _ _ hne]
    · show up2 M.2.1 13 (mC M 13) 0 k i = _
      unfold up2
      funext f
      rw [if_neg hne]; rfl
    · rw [show mR (sR (cpA (al M 13 c9 c9) v' (mC M 13) cap) 12 1 0 (some (rf 13 (mC M 13)))) k i = mR (al M 13 c9 c9) k i from up3_ne (fun z => h1 z.1 z.2)]
      show up2 M.2.2.1 13 (mC M 13) none k i = _
      unfold up2
      funext f
      rw [if_neg hne]; rfl
    · show up2 M.2.2.2.1 13 (mC M 13) 0 k i = _
      unfold up2
      funext f
      rw [if_neg hne]; rfl
    · show (if k = 13 ∧ i = mC M 13 then c9 else mN M k i) = _
      rw [if_neg hne]
  · show (if k = 13 then mC M 13 + 1 else mC M k) = _
    rw [if_neg hk]
  · show mC M 13 ≤ (if 13 = 13 then mC M 13 + 1 else mC M 13)
    rw [if_pos rfl]; omega
  · show mK M + 1 + cap ≤ mK M + c9
    omega
  · show mS M + c9 + 2 * cap ≤ mS M + 2 * c9
    omega
set_option maxHeartbeats 1000000 in
set_option maxRecDepth 4000 in
theorem t_sbEns {c0 : Nat} {d : Nat} {cap : Nat} {O : List Int32} {q : Nat} {M : Mem} {Q : Out → Mem → Prop} (h : Sc c0 M cap O) (hq9 : q ≤ 300) (hq : ∀ M' cap', Sc c0 M' cap' O → q ≤ cap' → FrT c0 M M' → Gw M M' cap cap' → Q (.inl none) M') : WPc (d + 4) mJ5_ensureCapacityInternal_d00df [.ref (rf 12 1), .int (nI q)] M Q := by
  refine WPc.of (by decide +kernel) (Nat.le_of_ble_eq_true rfl) rfl ?_
  obtain ⟨⟨v, a1, a2, a3, a4, a5, a6⟩, b1, b2, b3, b4⟩ := h
  have h : Sc c0 M cap O := ⟨⟨v, a1, a2, a3, a4, a5, a6⟩, b1, b2, b3, b4⟩
  by_cases z : cap < q
  · skip
    refine R.aload_n dJ5_ensureCapacityInternal_d00df_0 rfl (by first | rfl | exact rfv_rf _) ?_
    refine R.getS (a1) dJ5_ensureCapacityInternal_d00df_1 fl_J5_15 (by decide) rfl ?_
    refine R.alenS a4 (by decide) (by decide) dJ5_ensureCapacityInternal_d00df_4 ?_
    refine R.aload_n dJ5_ensureCapacityInternal_d00df_5 rfl (by first | rfl | exact rfv_rf _) ?_
    refine R.getI dJ5_ensureCapacityInternal_d00df_6 fl_J5_22 (by decide) rfl ?_
    rw [b1]
    refine R.ishr dJ5_ensureCapacityInternal_d00df_9 ?_
    rw [nI_shr0]
    refine R.istore_n dJ5_ensureCapacityInternal_d00df_10 (Nat.le_of_ble_eq_true rfl) (by decide) (by first | rfl | simp [lft, rf_cat]) rfl ?_
    refine R.iload_n dJ5_ensureCapacityInternal_d00df_11 rfl ?_
    refine R.iload_n dJ5_ensureCapacityInternal_d00df_12 rfl ?_
    refine R.isub dJ5_ensureCapacityInternal_d00df_13 ?_
    refine R.if_le (tgt := 38) dJ5_ensureCapacityInternal_d00df_14 (by decide) (fun c => absurd c (sub_nle0 z (by omega))) (fun _ => ?_)
    refine R.aload_n dJ5_ensureCapacityInternal_d00df_17 rfl (by first | rfl | exact rfv_rf _) ?_
    refine R.aload_n dJ5_ensureCapacityInternal_d00df_18 rfl (by first | rfl | exact rfv_rf _) ?_
    refine R.getS (a1) dJ5_ensureCapacityInternal_d00df_19 fl_J5_15 (by decide) rfl ?_
    refine R.aload_n dJ5_ensureCapacityInternal_d00df_22 rfl (by first | rfl | exact rfv_rf _) ?_
    refine R.iload_n dJ5_ensureCapacityInternal_d00df_23 rfl ?_
    refine cl_J5_104 rfl rfl (by first | exact Nat.le_of_ble_eq_true rfl | simp [rf_cat, Value.category]) dJ5_ensureCapacityInternal_d00df_24 ?_
    refine t_sbCap h (by omega) hq9 ?_
    refine R.aload_n dJ5_ensureCapacityInternal_d00df_27 rfl (by first | rfl | exact rfv_rf _) ?_
    refine R.getI dJ5_ensureCapacityInternal_d00df_28 fl_J5_22 (by decide) rfl ?_
    rw [b1]
    refine R.ishl dJ5_ensureCapacityInternal_d00df_31 ?_
    rw [nI_shl0]
    refine cl_J5_108 rfl rfl (by first | exact Nat.le_of_ble_eq_true rfl | simp [rf_cat, Value.category]) dJ5_ensureCapacityInternal_d00df_32 ?_
    refine s_copyB a3 a4 (by omega) (by omega) (by omega) a6 ?_
    refine R.putA dJ5_ensureCapacityInternal_d00df_35 fl_J5_15 (fun q hq => by cases hq; exact Or.inl rfl) rfl ?_
    refine WP.ret (ov := none) dJ5_ensureCapacityInternal_d00df_38 ⟨rfl, rfl⟩ ?_
    obtain ⟨g1, g2, g3⟩ := h.grow (c9 := max q (2 * cap + 2)) a1 a2 a3 a4 (by omega) (by omega)
    exact hq _ _ g1 (by omega) g2 g3
  · skip
    refine R.aload_n dJ5_ensureCapacityInternal_d00df_0 rfl (by first | rfl | exact rfv_rf _) ?_
    refine R.getS (a1) dJ5_ensureCapacityInternal_d00df_1 fl_J5_15 (by decide) rfl ?_
    refine R.alenS a4 (by decide) (by decide) dJ5_ensureCapacityInternal_d00df_4 ?_
    refine R.aload_n dJ5_ensureCapacityInternal_d00df_5 rfl (by first | rfl | exact rfv_rf _) ?_
    refine R.getI dJ5_ensureCapacityInternal_d00df_6 fl_J5_22 (by decide) rfl ?_
    rw [b1]
    refine R.ishr dJ5_ensureCapacityInternal_d00df_9 ?_
    rw [nI_shr0]
    refine R.istore_n dJ5_ensureCapacityInternal_d00df_10 (Nat.le_of_ble_eq_true rfl) (by decide) (by first | rfl | simp [lft, rf_cat]) rfl ?_
    refine R.iload_n dJ5_ensureCapacityInternal_d00df_11 rfl ?_
    refine R.iload_n dJ5_ensureCapacityInternal_d00df_12 rfl ?_
    refine R.isub dJ5_ensureCapacityInternal_d00df_13 ?_
    refine R.if_le (tgt := 38) dJ5_ensureCapacityInternal_d00df_14 (by decide) (fun _ => ?_) (fun c => absurd (sub_le0 z (by omega)) c)
    refine WP.ret (ov := none) dJ5_ensureCapacityInternal_d00df_38 ⟨rfl, rfl⟩ ?_
    exact hq M cap h (by omega) (FrT.rf _) (Gw.rf _ _)
set_option maxHeartbeats 1000000 in
set_option maxRecDepth 4000 in
theorem t_sbC5 {c0 : Nat} {d : Nat} {cap : Nat} {O : List Int32} {k : Nat} {M : Mem} {Q : Out → Mem → Prop} (h : Sc c0 M cap O) (hk : k < 128) (hl : O.length + 1 ≤ 300) (hq : ∀ M' cap', Sc c0 M' cap' (O ++ [nI k]) → FrT c0 M M' → Gw M M' cap cap' → Q (.inl (some (.ref (rf 12 1)))) M') : WPc (d + 5) mJ5_append_3fe6f [.ref (rf 12 1), .int (nI k)] M Q := by
  refine WPc.of (by decide +kernel) (Nat.le_of_ble_eq_true rfl) rfl ?_
  refine R.aload_n dJ5_append_3fe6f_0 rfl (by first | rfl | exact rfv_rf _) ?_
  refine R.aload_n dJ5_append_3fe6f_1 rfl (by first | rfl | exact rfv_rf _) ?_
  refine R.getI dJ5_append_3fe6f_2 fl_J5_79 (by decide) rfl ?_
  rw [h.2.2.1]
  refine R.iconst (v := 1) dJ5_append_3fe6f_5 rfl ?_
  refine R.iadd dJ5_append_3fe6f_6 ?_
  rw [nI_1]
  refine cl_J5_100 rfl rfl (by first | exact Nat.le_of_ble_eq_true rfl | simp [rf_cat, Value.category]) dJ5_append_3fe6f_7 ?_
  refine t_sbEns h (by omega) (fun M1 cap' h1 hc1 F1 G1 => ?_)
  refine R.aload_n dJ5_append_3fe6f_10 rfl (by first | rfl | exact rfv_rf _) ?_
  refine cl_J5_83 rfl rfl (by first | exact Nat.le_of_ble_eq_true rfl | simp [rf_cat, Value.category]) dJ5_append_3fe6f_11 ?_
  refine t_sbLat h1 ?_
  obtain ⟨⟨v, a1, a2, a3, a4, a5, a6⟩, b1, b2, b3, b4⟩ := h1
  refine R.if_eq (tgt := 45) dJ5_append_3fe6f_14 (by decide) (fun c => absurd c (by decide)) (fun _ => ?_)
  refine R.iload_n dJ5_append_3fe6f_17 rfl ?_
  refine cl_J5_191 rfl rfl (by first | exact Nat.le_of_ble_eq_true rfl | simp [rf_cat, Value.category]) dJ5_append_3fe6f_18 ?_
  refine s_sbEnc hk ?_
  refine R.if_eq (tgt := 45) dJ5_append_3fe6f_21 (by decide) (fun c => absurd c (by decide)) (fun _ => ?_)
  refine R.aload_n dJ5_append_3fe6f_24 rfl (by first | rfl | exact rfv_rf _) ?_
  refine R.getS (a1) dJ5_append_3fe6f_25 fl_J5_15 (by decide) rfl ?_
  refine R.aload_n dJ5_append_3fe6f_28 rfl (by first | rfl | exact rfv_rf _) ?_
  refine R.dup dJ5_append_3fe6f_29 (by first | rfl | exact rf_cat _) ?_
  refine R.getI dJ5_append_3fe6f_30 fl_J5_79 (by decide) rfl ?_
  rw [b2]
  refine R.dup_x1 dJ5_append_3fe6f_33 rfl rfl ?_
  refine R.iconst (v := 1) dJ5_append_3fe6f_34 rfl ?_
  refine R.iadd dJ5_append_3fe6f_35 ?_
  rw [nI_1]
  refine R.putI dJ5_append_3fe6f_36 fl_J5_79 (fun q hq => by cases hq; exact Or.inl rfl) (by decide) rfl rfl rfl ?_
  refine R.iload_n dJ5_append_3fe6f_39 rfl ?_
  refine R.i2b dJ5_append_3fe6f_40 ?_
  rw [i2b_k hk]
  refine R.bast dJ5_append_3fe6f_41 (nI_pos (by omega)) (by rw [nI_clamp (by omega)]; show O.length < mN M1 13 v; rw [a4]; omega) ?_
  rw [nI_clamp (by omega), vp_byte hk]
  refine R.goto (tgt := 75) dJ5_append_3fe6f_42 (by decide) ?_
  refine R.aload_n dJ5_append_3fe6f_75 rfl (by first | rfl | exact rfv_rf _) ?_
  refine WP.ret (ov := some (.ref _)) dJ5_append_3fe6f_76 ⟨rfl, _, rfl, Or.inl ⟨_, rfl⟩⟩ ?_
  refine hq _ cap' ?_ ((F1.s12).s13 a2) ?_
  · refine ⟨⟨v, a1, a2, a3, a4, fun i x hx => ?_, fun j hj => ?_⟩, ?_, ?_, by simp; omega, b4⟩
    · rw [mI_sI]
      rw [List.getElem?_append] at hx
      by_cases z : i < O.length
      · rw [if_pos z] at hx
        rw [if_neg (by omega), mI_sI, if_neg (by omega)]
        exact a5 i x hx
      · rw [if_neg z] at hx
        have hi : i = O.length := by
          by_cases w : i - O.length = 0
          · omega
          · obtain ⟨k9, hk9⟩ : ∃ k9, i - O.length = k9 + 1 := ⟨i - O.length - 1, by omega⟩
            rw [hk9] at hx; simp at hx
        rw [if_pos ⟨rfl, rfl, hi⟩]
        rw [hi] at hx
        simpa using hx
    · rw [mI_sI]
      split
      · exact fit_byte hk
      · rw [mI_sI, if_neg (by omega)]; exact a6 j hj
    · rw [mI_sI, if_neg (by omega), mI_sI, if_neg (by omega)]; exact b1
    · rw [mI_sI, if_neg (by omega), mI_sI, if_pos ⟨rfl, rfl, rfl⟩]; simp
  · exact G1
set_option maxHeartbeats 1000000 in
set_option maxRecDepth 4000 in
theorem t_sbC {c0 : Nat} {d : Nat} {cap : Nat} {O : List Int32} {k : Nat} {M : Mem} {Q : Out → Mem → Prop} (h : Sc c0 M cap O) (hk : k < 128) (hl : O.length + 1 ≤ 300) (hq : ∀ M' cap', Sc c0 M' cap' (O ++ [nI k]) → FrT c0 M M' → Gw M M' cap cap' → Q (.inl (some (.ref (rf 12 1)))) M') : WPc (d + 6) mJ4_append_cf468 [.ref (rf 12 1), .int (nI k)] M Q := by
  refine WPc.of (by decide +kernel) (Nat.le_of_ble_eq_true rfl) rfl ?_
  refine R.aload_n dJ4_append_cf468_0 rfl (by first | rfl | exact rfv_rf _) ?_
  refine R.iload_n dJ4_append_cf468_1 rfl ?_
  refine cl_J4_50 rfl rfl (by first | exact Nat.le_of_ble_eq_true rfl | simp [rf_cat, Value.category]) dJ4_append_cf468_2 ?_
  refine t_sbC5 h hk hl (fun M1 c1 h1 F1 G1 => ?_)
  refine R.pop dJ4_append_cf468_5 (by first | rfl | exact rf_cat _) ?_
  refine R.aload_n dJ4_append_cf468_6 rfl (by first | rfl | exact rfv_rf _) ?_
  refine WP.ret (ov := some (.ref _)) dJ4_append_cf468_7 ⟨rfl, _, rfl, Or.inl ⟨_, rfl⟩⟩ ?_
  exact hq _ _ h1 F1 G1
theorem Sc.dig {c0 : Nat} {M : Mem} {cap : Nat} {O : List Int32} {v a : Nat} (h : Sc c0 M cap O) (a1 : mR M 12 1 0 = some (rf 13 a)) (hv : v < 10000) (hl : O.length + szF v ≤ cap) : Sc c0 (sI (gcM M a (O.length + szF v) v) 12 1 3 (nI (O.length + szF v))) cap (O ++ dgS v) ∧ FrT c0 M (sI (gcM M a (O.length + szF v) v) 12 1 3 (nI (O.length + szF v))) ∧ Gw M (sI (gcM M a (O.length + szF v) v) 12 1 3 (nI (O.length + szF v))) cap cap := by
  obtain ⟨⟨a', a1', a2, a3, a4, a5, a6⟩, b1, b2, b3, b4⟩ := h
  have ev : a' = a := (rf_inj (by decide) (by decide) (Option.some.inj (a1'.symm.trans a1))).2
  subst ev
  obtain ⟨g1, g2⟩ := gcM_r M a' (O.length + szF v) v hv (by omega)
  obtain ⟨e1, e2, e3, e4, e5, e6, e7⟩ := gc_o M a' (O.length + szF v) v
  rw [show O.length + szF v - szF v = O.length by omega] at g1 g2
  have hdl := dgS_len hv
  refine ⟨⟨⟨a', ?_, a2, ?_, ?_, fun i x hx => ?_, fun j hj => ?_⟩, ?_, ?_, by rw [List.length_append, hdl]; exact hl, b4⟩, ⟨fun k i h1 h2 => ?_, fun k hk => by show mC (gcM _ _ _ _) k = _; rw [e2], by show _ ≤ mC (gcM _ _ _ _) 13; rw [e2]; exact Nat.le_refl _⟩, Nat.le_refl _, ?_, ?_⟩
  · show mR (gcM _ _ _ _) 12 1 0 = _
    rw [e3]; exact a1'
  · show _ < mC (gcM _ _ _ _) 13
    rw [e2]; exact a3
  · show mN (gcM _ _ _ _) 13 a' = _
    rw [e1]; exact a4
  · rw [mI_sI, if_neg (by omega)]
    rw [List.getElem?_append] at hx
    by_cases z : i < O.length
    · rw [if_pos z] at hx
      rw [g1 _ _ _ (by omega)]; exact a5 i x hx
    · rw [if_neg z] at hx
      have := g2 _ x hx
      rw [show O.length + (i - O.length) = i by omega] at this
      exact this
  · rw [mI_sI, if_neg (by omega)]
    by_cases z : O.length ≤ j ∧ j < O.length + szF v
    · have hj2 : j - O.length < (dgS v).length := by omega
      obtain ⟨x, hx⟩ : ∃ x, (dgS v)[j - O.length]? = some x := ⟨_, List.getElem?_eq_getElem hj2⟩
      have := g2 _ x hx
      rw [show O.length + (j - O.length) = j by omega] at this
      rw [this]
      obtain ⟨k, rfl, hk⟩ := dg_byte hv hx
      exact fit_byte hk
    · rw [g1 _ _ _ (by omega)]; exact a6 j hj
  · rw [mI_sI, if_neg (by omega), g1 _ _ _ (by omega)]; exact b1
  · rw [mI_sI, if_pos ⟨rfl, rfl, rfl⟩, List.length_append, hdl]
  · refine ⟨?_, ?_, ?_, ?_, ?_⟩
    · funext f
      rw [mI_sI, if_neg (by omega), g1 _ _ _ (by intro z; have := h2 z.1; omega)]
    · show mL (gcM _ _ _ _) k i = _; rw [e4]
    · show mR (gcM _ _ _ _) k i = _; rw [e3]
    · show mD (gcM _ _ _ _) k i = _; rw [e5]
    · show mN (gcM _ _ _ _) k i = _; rw [e1]
  · show mK (gcM _ _ _ _) + cap ≤ _; rw [e6]; exact Nat.le_refl _
  · show mS (gcM _ _ _ _) + 2 * cap ≤ _; rw [e7]; exact Nat.le_refl _
set_option maxHeartbeats 1000000 in
set_option maxRecDepth 4000 in
theorem t_sbI5 {c0 : Nat} {d : Nat} {cap : Nat} {O : List Int32} {v : Nat} {M : Mem} {Q : Out → Mem → Prop} (h : Sc c0 M cap O) (hv : v < 10000) (hl : O.length + szF v ≤ 300) (hq : ∀ M' cap', Sc c0 M' cap' (O ++ dgS v) → FrT c0 M M' → Gw M M' cap cap' → Q (.inl (some (.ref (rf 12 1)))) M') : WPc (d + 5) mJ5_append_c97b9 [.ref (rf 12 1), .int (nI v)] M Q := by
  refine WPc.of (by decide +kernel) (Nat.le_of_ble_eq_true rfl) rfl ?_
  refine R.aload_n dJ5_append_c97b9_0 rfl (by first | rfl | exact rfv_rf _) ?_
  refine R.getI dJ5_append_c97b9_1 fl_J5_79 (by decide) rfl ?_
  rw [h.2.2.1]
  refine R.istore_n dJ5_append_c97b9_4 (Nat.le_of_ble_eq_true rfl) (by decide) (by first | rfl | simp [lft, rf_cat]) rfl ?_
  refine R.iload_n dJ5_append_c97b9_5 rfl ?_
  refine R.iload_n dJ5_append_c97b9_6 rfl ?_
  refine cl_J5_245 rfl rfl (by first | exact Nat.le_of_ble_eq_true rfl | simp [rf_cat, Value.category]) dJ5_append_c97b9_7 ?_
  refine s_strSz hv ?_
  refine R.iadd dJ5_append_c97b9_10 ?_
  rw [nI_add]
  refine R.istore_n dJ5_append_c97b9_11 (Nat.le_of_ble_eq_true rfl) (by decide) (by first | rfl | simp [lft, rf_cat]) rfl ?_
  refine R.aload_n dJ5_append_c97b9_12 rfl (by first | rfl | exact rfv_rf _) ?_
  refine R.iload_n dJ5_append_c97b9_13 rfl ?_
  refine cl_J5_100 rfl rfl (by first | exact Nat.le_of_ble_eq_true rfl | simp [rf_cat, Value.category]) dJ5_append_c97b9_14 ?_
  refine t_sbEns h (by omega) (fun M1 cap1 h1 hc1 F1 G1 => ?_)
  refine R.aload_n dJ5_append_c97b9_17 rfl (by first | rfl | exact rfv_rf _) ?_
  refine cl_J5_83 rfl rfl (by first | exact Nat.le_of_ble_eq_true rfl | simp [rf_cat, Value.category]) dJ5_append_c97b9_18 ?_
  refine t_sbLat h1 ?_
  obtain ⟨⟨a, a1, a2, a3, a4, a5, a6⟩, b1, b2, b3, b4⟩ := h1
  have h1 : Sc c0 M1 cap1 O := ⟨⟨a, a1, a2, a3, a4, a5, a6⟩, b1, b2, b3, b4⟩
  refine R.if_eq (tgt := 37) dJ5_append_c97b9_21 (by decide) (fun c => absurd c (by decide)) (fun _ => ?_)
  refine R.iload_n dJ5_append_c97b9_24 rfl ?_
  refine R.iload_n dJ5_append_c97b9_25 rfl ?_
  refine R.aload_n dJ5_append_c97b9_26 rfl (by first | rfl | exact rfv_rf _) ?_
  refine R.getS (a1) dJ5_append_c97b9_27 fl_J5_15 (by decide) rfl ?_
  refine cl_J5_248 rfl rfl (by first | exact Nat.le_of_ble_eq_true rfl | simp [rf_cat, Value.category]) dJ5_append_c97b9_30 ?_
  refine s_getCh hv (by omega) (by rw [a4]; omega) (by rw [a4]; omega) (fun r => ?_)
  refine R.pop dJ5_append_c97b9_33 (by first | rfl | exact rf_cat _) ?_
  refine R.goto (tgt := 48) dJ5_append_c97b9_34 (by decide) ?_
  refine R.aload_n dJ5_append_c97b9_48 rfl (by first | rfl | exact rfv_rf _) ?_
  refine R.iload_n dJ5_append_c97b9_49 rfl ?_
  refine R.putI dJ5_append_c97b9_50 fl_J5_79 (fun q hq => by cases hq; exact Or.inl rfl) (by decide) rfl rfl rfl ?_
  refine R.aload_n dJ5_append_c97b9_53 rfl (by first | rfl | exact rfv_rf _) ?_
  obtain ⟨g1, g2, g3⟩ := h1.dig a1 hv hc1
  refine WP.ret (ov := some (.ref _)) dJ5_append_c97b9_54 ⟨rfl, _, rfl, Or.inl ⟨_, rfl⟩⟩ ?_
  exact hq _ _ g1 (F1.tr g2) (G1.tr g3)
set_option maxHeartbeats 1000000 in
set_option maxRecDepth 4000 in
theorem t_sbI {c0 : Nat} {d : Nat} {cap : Nat} {O : List Int32} {v : Nat} {M : Mem} {Q : Out → Mem → Prop} (h : Sc c0 M cap O) (hv : v < 10000) (hl : O.length + szF v ≤ 300) (hq : ∀ M' cap', Sc c0 M' cap' (O ++ dgS v) → FrT c0 M M' → Gw M M' cap cap' → Q (.inl (some (.ref (rf 12 1)))) M') : WPc (d + 6) mJ4_append_bf812 [.ref (rf 12 1), .int (nI v)] M Q := by
  refine WPc.of (by decide +kernel) (Nat.le_of_ble_eq_true rfl) rfl ?_
  refine R.aload_n dJ4_append_bf812_0 rfl (by first | rfl | exact rfv_rf _) ?_
  refine R.iload_n dJ4_append_bf812_1 rfl ?_
  refine cl_J4_53 rfl rfl (by first | exact Nat.le_of_ble_eq_true rfl | simp [rf_cat, Value.category]) dJ4_append_bf812_2 ?_
  refine t_sbI5 h hv hl (fun M1 c1 h1 F1 G1 => ?_)
  refine R.pop dJ4_append_bf812_5 (by first | rfl | exact rf_cat _) ?_
  refine R.aload_n dJ4_append_bf812_6 rfl (by first | rfl | exact rfv_rf _) ?_
  refine WP.ret (ov := some (.ref _)) dJ4_append_bf812_7 ⟨rfl, _, rfl, Or.inl ⟨_, rfl⟩⟩ ?_
  exact hq _ _ h1 F1 G1

