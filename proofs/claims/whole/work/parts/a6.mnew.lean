/-! the model's constructor -/
def faL : List Nat := [0, 1, 2, 3, 4, 8, 19, 20, 21, 23, 24]
def lnL : List Nat := [370, 370, 370, 370, 2960, 600, 4, 31, 62, 16, 400]
theorem lnL_s : ∀ j, j < 11 → (lnL.take (j + 1)).sum = (lnL.take j).sum + lnL.getD j 0 := by decide
/-- j arrays are made -/
def AI (M0 M : Mem) (j : Nat) (q : Int32) : Prop := mC M 14 = j ∧ (∀ k, k ≠ 14 → mC M k = mC M0 k) ∧ (∀ i, i < j → mR M 11 0 (faL.getD i 0) = some (rf 14 i) ∧ mN M 14 i = lnL.getD i 0 ∧ ∀ x, mI M 14 i x = 0) ∧ ((∀ f, f ≠ 11 → mI M 11 0 f = mI M0 11 0 f) ∧ mI M 11 0 11 = q) ∧ FC inM M0 M ∧ mK M = mK M0 + j ∧ mS M = mS M0 + (lnL.take j).sum
theorem AI.rf0 {M : Mem} (h : mC M 14 = 0) : AI M M 0 (mI M 11 0 11) := ⟨h, fun _ _ => rfl, fun i hi => absurd hi (Nat.not_lt_zero i), ⟨fun _ _ => rfl, rfl⟩, FC.rf _ _, rfl, rfl⟩
theorem AI.step {M0 M : Mem} {j N f : Nat} {q : Int32} (h : AI M0 M j q) (hf : faL.getD j 0 = f) (hN : lnL.getD j 0 = N) (hd : ∀ i, i < j → faL.getD i 0 ≠ f) (hj : j < 11) : AI M0 (sR (al M 14 N N) 11 0 f (some (rf 14 j))) (j + 1) q := by
  obtain ⟨a1, a2, a3, ⟨a4, a4'⟩, a5, a6, a7⟩ := h
  refine ⟨?_, fun k hk => ?_, fun i hi => ?_, ⟨fun g hg => ?_, ?_⟩, ?_, ?_, ?_⟩
  · show (if (14 : Nat) = 14 then mC M 14 + 1 else mC M 14) = j + 1
    rw [if_pos rfl, a1]
  · show (if k = 14 then mC M 14 + 1 else mC M k) = _
    rw [if_neg hk]
    exact a2 k hk
  · by_cases z : i = j
    · subst z
      refine ⟨by rw [mR_sR, hf, if_pos ⟨rfl, rfl, rfl⟩], ?_, fun x => ?_⟩
      · rw [mN_sR, mN_al, if_pos ⟨rfl, a1.symm⟩, hN]
      · rw [mI_sR, mI_al, if_pos ⟨rfl, a1.symm⟩]
    · obtain ⟨b1, b2, b3⟩ := a3 i (by omega)
      refine ⟨?_, ?_, fun x => ?_⟩
      · rw [mR_sR, if_neg (fun q => hd i (by omega) q.2.2), mR_al, if_neg (by omega)]; exact b1
      · rw [mN_sR, mN_al, if_neg (by omega)]; exact b2
      · rw [mI_sR, mI_al, if_neg (by omega)]; exact b3 x
  · rw [mI_sR, mI_al, if_neg (by omega)]; exact a4 g hg
  · rw [mI_sR, mI_al, if_neg (by omega)]; exact a4'
  · exact (a5.al (Or.inr rfl)).sR (Or.inl rfl)
  · show mK M + 1 = _
    omega
  · show mS M + N = _
    rw [lnL_s j hj, hN]
    omega
theorem AI.off {M0 M : Mem} {j : Nat} {q : Int32} (h : AI M0 M j q) : AI M0 (sI M 11 0 11 (-1)) j (-1) := by
  obtain ⟨a1, a2, a3, ⟨a4, a4'⟩, a5, a6, a7⟩ := h
  refine ⟨a1, a2, fun i hi => ?_, ⟨fun g hg => ?_, ?_⟩, a5.sI (Or.inl rfl), a6, a7⟩
  · obtain ⟨b1, b2, b3⟩ := a3 i hi
    exact ⟨b1, b2, fun x => by rw [mI_sI, if_neg (by omega)]; exact b3 x⟩
  · rw [mI_sI, if_neg (by omega)]; exact a4 g hg
  · rw [mI_sI, if_pos ⟨rfl, rfl, rfl⟩]
theorem AI.ml {M0 M : Mem} {q : Int32} (h : AI M0 M 11 q) : ML M := by
  have a := h.2.2.1
  exact ⟨⟨(a 0 (by decide)).1, (a 1 (by decide)).1, (a 2 (by decide)).1, (a 3 (by decide)).1, (a 4 (by decide)).1, (a 5 (by decide)).1, (a 6 (by decide)).1, (a 7 (by decide)).1, (a 8 (by decide)).1, (a 9 (by decide)).1, (a 10 (by decide)).1⟩, (a 0 (by decide)).2.1, (a 1 (by decide)).2.1, (a 2 (by decide)).2.1, (a 3 (by decide)).2.1, (a 4 (by decide)).2.1, (a 5 (by decide)).2.1, (a 6 (by decide)).2.1, (a 7 (by decide)).2.1, (a 8 (by decide)).2.1, (a 9 (by decide)).2.1, (a 10 (by decide)).2.1⟩
def kS0 : KS := (zq11, none, [], tx0, 0, 0, -1, [])
theorem AI.st {M0 M : Mem} (h : AI M0 M 11 (-1)) (hI : ∀ f, mI M0 11 0 f = 0) : MSt (sW M wqz) kS0 16 := by
  have a4 := h.2.2.2.1
  have e : ∀ f, f ≠ 11 → mI (sW M wqz) 11 0 f = 0 := fun f hf => by rw [mI_sWn _ _ (by decide), a4.1 f hf, hI]
  refine ⟨h.ml.fr rfl rfl, by rw [mI_sW]; exact yq0, e 6 (by decide), ⟨e 5 (by decide), Nat.zero_le _, fun j Z q => ?_⟩, ⟨e 9 (by decide), Nat.zero_le _, fun i hi => absurd hi (Nat.not_lt_zero i)⟩, ⟨e 10 (by decide), ?_⟩, ⟨e 25 (by decide), fun j x q => ?_⟩, ⟨by decide, fun c hc => ?_⟩⟩
  · have q : ([] : List Yd)[j]? = some Z := q
    simp at q
  · rw [mI_sWn _ _ (by decide)]
    exact a4.2
  · have q : ([] : List Int32)[j]? = some x := q
    simp at q
  · have hc : c ∈ ([] : List Int32) := hc
    simp at hc
set_option maxHeartbeats 4000000 in
set_option maxRecDepth 8000 in
theorem n_init {d : Nat} {M : Mem} {Q : Out → Mem → Prop} (h14 : mC M 14 = 0) (hI : ∀ f, mI M 11 0 f = 0) (hq : ∀ M', MSt M' kS0 16 → FC inM M M' → (∀ k, k ≠ 14 → mC M' k = mC M k) → mK M' ≤ mK M + 11 → mS M' ≤ mS M + 6000 → Q (.inl none) M') : WPc (d + 13) mX13_init [.ref (rf 11 0)] M Q := by
  refine WPc.of (by decide +kernel) (Nat.le_of_ble_eq_true rfl) rfl ?_
  have hA0 := AI.rf0 h14
  refine R.aload_n dX13_init_0 rfl (by first | rfl | exact rfv_rf _) ?_
  refine R.objInit (by decide) oi_X13_1 oi_in oi_co (by omega) (by first | exact Nat.le_of_ble_eq_true rfl | simp [rf_cat, Value.category]) dX13_init_1 ?_
  refine R.aload_n dX13_init_4 rfl (by first | rfl | exact rfv_rf _) ?_
  refine R.sipush (v := 370) dX13_init_5 (by decide) ?_
  refine R.newarr (k := 14) (N := 370) (by decide) (by decide) rfl (by decide +kernel) (by decide) (by decide) (by decide) dX13_init_8 ?_
  rw [hA0.1]
  refine R.putA dX13_init_10 fl_X13_7 (fun q hq => by cases hq; exact Or.inr ⟨rfl, rfl⟩) rfl ?_
  have hA1 := hA0.step (f := 0) (N := 370) rfl rfl (by decide) (by decide)
  generalize sR (al M 14 370 370) 11 0 0 (some (rf 14 0)) = M1 at hA1 ⊢
  refine R.aload_n dX13_init_13 rfl (by first | rfl | exact rfv_rf _) ?_
  refine R.sipush (v := 370) dX13_init_14 (by decide) ?_
  refine R.newarr (k := 14) (N := 370) (by decide) (by decide) rfl (by decide +kernel) (by decide) (by decide) (by decide) dX13_init_17 ?_
  rw [hA1.1]
  refine R.putA dX13_init_19 fl_X13_13 (fun q hq => by cases hq; exact Or.inr ⟨rfl, rfl⟩) rfl ?_
  have hA2 := hA1.step (f := 1) (N := 370) rfl rfl (by decide) (by decide)
  generalize sR (al M1 14 370 370) 11 0 1 (some (rf 14 1)) = M2 at hA2 ⊢
  refine R.aload_n dX13_init_22 rfl (by first | rfl | exact rfv_rf _) ?_
  refine R.sipush (v := 370) dX13_init_23 (by decide) ?_
  refine R.newarr (k := 14) (N := 370) (by decide) (by decide) rfl (by decide +kernel) (by decide) (by decide) (by decide) dX13_init_26 ?_
  rw [hA2.1]
  refine R.putA dX13_init_28 fl_X13_16 (fun q hq => by cases hq; exact Or.inr ⟨rfl, rfl⟩) rfl ?_
  have hA3 := hA2.step (f := 2) (N := 370) rfl rfl (by decide) (by decide)
  generalize sR (al M2 14 370 370) 11 0 2 (some (rf 14 2)) = M3 at hA3 ⊢
  refine R.aload_n dX13_init_31 rfl (by first | rfl | exact rfv_rf _) ?_
  refine R.sipush (v := 370) dX13_init_32 (by decide) ?_
  refine R.newarr (k := 14) (N := 370) (by decide) (by decide) rfl (by decide +kernel) (by decide) (by decide) (by decide) dX13_init_35 ?_
  rw [hA3.1]
  refine R.putA dX13_init_37 fl_X13_19 (fun q hq => by cases hq; exact Or.inr ⟨rfl, rfl⟩) rfl ?_
  have hA4 := hA3.step (f := 3) (N := 370) rfl rfl (by decide) (by decide)
  generalize sR (al M3 14 370 370) 11 0 3 (some (rf 14 3)) = M4 at hA4 ⊢
  refine R.aload_n dX13_init_40 rfl (by first | rfl | exact rfv_rf _) ?_
  refine R.sipush (v := 2960) dX13_init_41 (by decide) ?_
  refine R.newarr (k := 14) (N := 2960) (by decide) (by decide) rfl (by decide +kernel) (by decide) (by decide) (by decide) dX13_init_44 ?_
  rw [hA4.1]
  refine R.putA dX13_init_46 fl_X13_22 (fun q hq => by cases hq; exact Or.inr ⟨rfl, rfl⟩) rfl ?_
  have hA5 := hA4.step (f := 4) (N := 2960) rfl rfl (by decide) (by decide)
  generalize sR (al M4 14 2960 2960) 11 0 4 (some (rf 14 4)) = M5 at hA5 ⊢
  refine R.aload_n dX13_init_49 rfl (by first | rfl | exact rfv_rf _) ?_
  refine R.sipush (v := 600) dX13_init_50 (by decide) ?_
  refine R.newarr (k := 14) (N := 600) (by decide) (by decide) rfl (by decide +kernel) (by decide) (by decide) (by decide) dX13_init_53 ?_
  rw [hA5.1]
  refine R.putA dX13_init_55 fl_X13_25 (fun q hq => by cases hq; exact Or.inr ⟨rfl, rfl⟩) rfl ?_
  have hA6 := hA5.step (f := 8) (N := 600) rfl rfl (by decide) (by decide)
  generalize sR (al M5 14 600 600) 11 0 8 (some (rf 14 5)) = M6 at hA6 ⊢
  refine R.aload_n dX13_init_58 rfl (by first | rfl | exact rfv_rf _) ?_
  refine R.iconst (v := (-1)) dX13_init_59 rfl ?_
  refine R.putI dX13_init_60 fl_X13_28 (fun q hq => by cases hq; exact Or.inl rfl) (by decide) rfl rfl rfl ?_
  have hA6 := hA6.off
  generalize sI M6 11 0 11 (-1) = Mo at hA6 ⊢
  refine R.aload_n dX13_init_63 rfl (by first | rfl | exact rfv_rf _) ?_
  refine R.iconst (v := 4) dX13_init_64 rfl ?_
  refine R.newarr (k := 14) (N := 4) (by decide) (by decide) rfl (by decide +kernel) (by decide) (by decide) (by decide) dX13_init_65 ?_
  rw [hA6.1]
  refine R.putA dX13_init_67 fl_X13_32 (fun q hq => by cases hq; exact Or.inr ⟨rfl, rfl⟩) rfl ?_
  have hA7 := hA6.step (f := 19) (N := 4) rfl rfl (by decide) (by decide)
  generalize sR (al Mo 14 4 4) 11 0 19 (some (rf 14 6)) = M7 at hA7 ⊢
  refine R.aload_n dX13_init_70 rfl (by first | rfl | exact rfv_rf _) ?_
  refine R.bipush (v := 31) dX13_init_71 (by decide) ?_
  refine R.newarr (k := 14) (N := 31) (by decide) (by decide) rfl (by decide +kernel) (by decide) (by decide) (by decide) dX13_init_73 ?_
  rw [hA7.1]
  refine R.putA dX13_init_75 fl_X13_35 (fun q hq => by cases hq; exact Or.inr ⟨rfl, rfl⟩) rfl ?_
  have hA8 := hA7.step (f := 20) (N := 31) rfl rfl (by decide) (by decide)
  generalize sR (al M7 14 31 31) 11 0 20 (some (rf 14 7)) = M8 at hA8 ⊢
  refine R.aload_n dX13_init_78 rfl (by first | rfl | exact rfv_rf _) ?_
  refine R.bipush (v := 62) dX13_init_79 (by decide) ?_
  refine R.newarr (k := 14) (N := 62) (by decide) (by decide) rfl (by decide +kernel) (by decide) (by decide) (by decide) dX13_init_81 ?_
  rw [hA8.1]
  refine R.putA dX13_init_83 fl_X13_38 (fun q hq => by cases hq; exact Or.inr ⟨rfl, rfl⟩) rfl ?_
  have hA9 := hA8.step (f := 21) (N := 62) rfl rfl (by decide) (by decide)
  generalize sR (al M8 14 62 62) 11 0 21 (some (rf 14 8)) = M9 at hA9 ⊢
  refine R.aload_n dX13_init_86 rfl (by first | rfl | exact rfv_rf _) ?_
  refine R.bipush (v := 16) dX13_init_87 (by decide) ?_
  refine R.newarr (k := 14) (N := 16) (by decide) (by decide) rfl (by decide +kernel) (by decide) (by decide) (by decide) dX13_init_89 ?_
  rw [hA9.1]
  refine R.putA dX13_init_91 fl_X13_41 (fun q hq => by cases hq; exact Or.inr ⟨rfl, rfl⟩) rfl ?_
  have hA10 := hA9.step (f := 23) (N := 16) rfl rfl (by decide) (by decide)
  generalize sR (al M9 14 16 16) 11 0 23 (some (rf 14 9)) = M10 at hA10 ⊢
  refine R.aload_n dX13_init_94 rfl (by first | rfl | exact rfv_rf _) ?_
  refine R.sipush (v := 400) dX13_init_95 (by decide) ?_
  refine R.newarr (k := 14) (N := 400) (by decide) (by decide) rfl (by decide +kernel) (by decide) (by decide) (by decide) dX13_init_98 ?_
  rw [hA10.1]
  refine R.putA dX13_init_100 fl_X13_44 (fun q hq => by cases hq; exact Or.inr ⟨rfl, rfl⟩) rfl ?_
  have hA11 := hA10.step (f := 24) (N := 400) rfl rfl (by decide) (by decide)
  generalize sR (al M10 14 400 400) 11 0 24 (some (rf 14 10)) = M11 at hA11 ⊢
  rw [← bW (M := M11) (w := fun _ => 0) (funext fun x => (hA11.2.2.1 0 (by decide)).2.2 x)]
  have hL := hA11.ml
  refine R.aload_n dX13_init_103 rfl (by first | rfl | exact rfv_rf _) ?_
  refine cl_X13_47 rfl rfl (by first | exact Nat.le_of_ble_eq_true rfl | simp [rf_cat, Value.category]) dX13_init_104 ?_
  refine m_begins hL ?_
  refine R.aload_n dX13_init_107 rfl (by first | rfl | exact rfv_rf _) ?_
  refine R.bipush (v := nI 97) dX13_init_108 (by decide) ?_
  refine R.bipush (v := nI 112) dX13_init_110 (by decide) ?_
  refine R.bipush (v := nI 112) dX13_init_112 (by decide) ?_
  refine R.bipush (v := nI 108) dX13_init_114 (by decide) ?_
  refine R.bipush (v := nI 101) dX13_init_116 (by decide) ?_
  refine cl_X13_50 rfl rfl (by first | exact Nat.le_of_ble_eq_true rfl | simp [rf_cat, Value.category]) dX13_init_118 ?_
  refine m_crOf (w := wq0) (c := 0) hL (by decide) (by decide +kernel) ?_
  refine R.aload_n dX13_init_121 rfl (by first | rfl | exact rfv_rf _) ?_
  refine R.iconst (v := nI 5) dX13_init_122 rfl ?_
  refine R.iconst (v := nI 3) dX13_init_123 rfl ?_
  refine R.bipush (v := nI 20) dX13_init_124 (by decide) ?_
  refine R.iconst (v := (-1)) dX13_init_126 rfl ?_
  refine cl_X13_54 rfl rfl (by first | exact Nat.le_of_ble_eq_true rfl | simp [rf_cat, Value.category]) dX13_init_127 ?_
  refine m_addC (c := 0) hL (by decide) (by decide +kernel) ?_
  change WP _ _ _ _ _ (sW M11 wq1) _
  refine R.aload_n dX13_init_130 rfl (by first | rfl | exact rfv_rf _) ?_
  refine R.bipush (v := nI 112) dX13_init_131 (by decide) ?_
  refine R.bipush (v := nI 101) dX13_init_133 (by decide) ?_
  refine R.bipush (v := nI 97) dX13_init_135 (by decide) ?_
  refine R.bipush (v := nI 114) dX13_init_137 (by decide) ?_
  refine R.iconst (v := nI 0) dX13_init_139 rfl ?_
  refine cl_X13_50 rfl rfl (by first | exact Nat.le_of_ble_eq_true rfl | simp [rf_cat, Value.category]) dX13_init_140 ?_
  refine m_crOf (w := wq1) (c := 1) hL (by decide) (by decide +kernel) ?_
  refine R.aload_n dX13_init_143 rfl (by first | rfl | exact rfv_rf _) ?_
  refine R.iconst (v := nI 4) dX13_init_144 rfl ?_
  refine R.iconst (v := nI 2) dX13_init_145 rfl ?_
  refine R.bipush (v := nI 15) dX13_init_146 (by decide) ?_
  refine R.iconst (v := nI 0) dX13_init_148 rfl ?_
  refine cl_X13_54 rfl rfl (by first | exact Nat.le_of_ble_eq_true rfl | simp [rf_cat, Value.category]) dX13_init_149 ?_
  refine m_addC (c := 1) hL (by decide) (by decide +kernel) ?_
  change WP _ _ _ _ _ (sW M11 wq2) _
  refine R.aload_n dX13_init_152 rfl (by first | rfl | exact rfv_rf _) ?_
  refine R.bipush (v := nI 112) dX13_init_153 (by decide) ?_
  refine R.bipush (v := nI 108) dX13_init_155 (by decide) ?_
  refine R.bipush (v := nI 117) dX13_init_157 (by decide) ?_
  refine R.bipush (v := nI 109) dX13_init_159 (by decide) ?_
  refine R.iconst (v := nI 0) dX13_init_161 rfl ?_
  refine cl_X13_50 rfl rfl (by first | exact Nat.le_of_ble_eq_true rfl | simp [rf_cat, Value.category]) dX13_init_162 ?_
  refine m_crOf (w := wq2) (c := 2) hL (by decide) (by decide +kernel) ?_
  refine R.aload_n dX13_init_165 rfl (by first | rfl | exact rfv_rf _) ?_
  refine R.iconst (v := nI 4) dX13_init_166 rfl ?_
  refine R.iconst (v := nI 5) dX13_init_167 rfl ?_
  refine R.iconst (v := nI 0) dX13_init_168 rfl ?_
  refine R.iconst (v := (-1)) dX13_init_169 rfl ?_
  refine cl_X13_54 rfl rfl (by first | exact Nat.le_of_ble_eq_true rfl | simp [rf_cat, Value.category]) dX13_init_170 ?_
  refine m_addC (c := 2) hL (by decide) (by decide +kernel) ?_
  change WP _ _ _ _ _ (sW M11 wq3) _
  refine R.aload_n dX13_init_173 rfl (by first | rfl | exact rfv_rf _) ?_
  refine R.bipush (v := nI 102) dX13_init_174 (by decide) ?_
  refine R.bipush (v := nI 105) dX13_init_176 (by decide) ?_
  refine R.bipush (v := nI 103) dX13_init_178 (by decide) ?_
  refine R.iconst (v := nI 0) dX13_init_180 rfl ?_
  refine R.iconst (v := nI 0) dX13_init_181 rfl ?_
  refine cl_X13_50 rfl rfl (by first | exact Nat.le_of_ble_eq_true rfl | simp [rf_cat, Value.category]) dX13_init_182 ?_
  refine m_crOf (w := wq3) (c := 3) hL (by decide) (by decide +kernel) ?_
  refine R.aload_n dX13_init_185 rfl (by first | rfl | exact rfv_rf _) ?_
  refine R.iconst (v := nI 3) dX13_init_186 rfl ?_
  refine R.iconst (v := nI 1) dX13_init_187 rfl ?_
  refine R.bipush (v := nI 9) dX13_init_188 (by decide) ?_
  refine R.iconst (v := nI 1) dX13_init_190 rfl ?_
  refine cl_X13_54 rfl rfl (by first | exact Nat.le_of_ble_eq_true rfl | simp [rf_cat, Value.category]) dX13_init_191 ?_
  refine m_addC (c := 3) hL (by decide) (by decide +kernel) ?_
  change WP _ _ _ _ _ (sW M11 wq4) _
  refine R.aload_n dX13_init_194 rfl (by first | rfl | exact rfv_rf _) ?_
  refine R.bipush (v := nI 97) dX13_init_195 (by decide) ?_
  refine R.bipush (v := nI 109) dX13_init_197 (by decide) ?_
  refine R.bipush (v := nI 121) dX13_init_199 (by decide) ?_
  refine cl_X13_58 rfl rfl (by first | exact Nat.le_of_ble_eq_true rfl | simp [rf_cat, Value.category]) dX13_init_201 ?_
  refine m_byOf (w := wq4) (c := 0) hL (by decide) (by decide +kernel) ?_
  refine R.aload_n dX13_init_204 rfl (by first | rfl | exact rfv_rf _) ?_
  refine R.iconst (v := nI 3) dX13_init_205 rfl ?_
  refine R.sipush (v := nI 200) dX13_init_206 (by decide) ?_
  refine R.iconst (v := nI 3) dX13_init_209 rfl ?_
  refine R.bipush (v := nI 50) dX13_init_210 (by decide) ?_
  refine cl_X13_62 rfl rfl (by first | exact Nat.le_of_ble_eq_true rfl | simp [rf_cat, Value.category]) dX13_init_212 ?_
  refine m_addB (c := 0) hL (by decide) (by decide +kernel) ?_
  change WP _ _ _ _ _ (sW M11 wq5) _
  refine R.aload_n dX13_init_215 rfl (by first | rfl | exact rfv_rf _) ?_
  refine R.bipush (v := nI 98) dX13_init_216 (by decide) ?_
  refine R.bipush (v := nI 101) dX13_init_218 (by decide) ?_
  refine R.bipush (v := nI 110) dX13_init_220 (by decide) ?_
  refine cl_X13_58 rfl rfl (by first | exact Nat.le_of_ble_eq_true rfl | simp [rf_cat, Value.category]) dX13_init_222 ?_
  refine m_byOf (w := wq5) (c := 1) hL (by decide) (by decide +kernel) ?_
  refine R.aload_n dX13_init_225 rfl (by first | rfl | exact rfv_rf _) ?_
  refine R.iconst (v := nI 3) dX13_init_226 rfl ?_
  refine R.bipush (v := nI 60) dX13_init_227 (by decide) ?_
  refine R.iconst (v := nI 1) dX13_init_229 rfl ?_
  refine R.bipush (v := nI 80) dX13_init_230 (by decide) ?_
  refine cl_X13_62 rfl rfl (by first | exact Nat.le_of_ble_eq_true rfl | simp [rf_cat, Value.category]) dX13_init_232 ?_
  refine m_addB (c := 1) hL (by decide) (by decide +kernel) ?_
  change WP _ _ _ _ _ (sW M11 wq6) _
  refine R.aload_n dX13_init_235 rfl (by first | rfl | exact rfv_rf _) ?_
  refine R.getS (hL.w) dX13_init_236 fl_X13_7 (by decide) rfl ?_
  refine R.iconst (v := nI 2) dX13_init_239 rfl ?_
  refine R.iconst (v := nI 4) dX13_init_240 rfl ?_
  refine R.iastN (k := 2) dX13_init_241 (by omega) (by show _ < mN M11 14 0; rw [hL.n]; omega) ?_
  rw [sI_sW]
  change WP _ _ _ _ _ (sW M11 wq7) _
  refine R.aload_n dX13_init_242 rfl (by first | rfl | exact rfv_rf _) ?_
  refine R.getS (hL.w) dX13_init_243 fl_X13_7 (by decide) rfl ?_
  refine R.iconst (v := nI 3) dX13_init_246 rfl ?_
  refine R.bipush (v := nI 7) dX13_init_247 (by decide) ?_
  refine R.iastN (k := 3) dX13_init_249 (by omega) (by show _ < mN M11 14 0; rw [hL.n]; omega) ?_
  rw [sI_sW]
  change WP _ _ _ _ _ (sW M11 wq8) _
  refine R.aload_n dX13_init_250 rfl (by first | rfl | exact rfv_rf _) ?_
  refine R.getS (hL.w) dX13_init_251 fl_X13_7 (by decide) rfl ?_
  refine R.iconst (v := nI 4) dX13_init_254 rfl ?_
  refine R.bipush (v := nI 10) dX13_init_255 (by decide) ?_
  refine R.iastN (k := 4) dX13_init_257 (by omega) (by show _ < mN M11 14 0; rw [hL.n]; omega) ?_
  rw [sI_sW]
  change WP _ _ _ _ _ (sW M11 wq9) _
  refine R.aload_n dX13_init_258 rfl (by first | rfl | exact rfv_rf _) ?_
  refine R.getS (hL.w) dX13_init_259 fl_X13_7 (by decide) rfl ?_
  refine R.iconst (v := nI 5) dX13_init_262 rfl ?_
  refine R.iconst (v := nI 2) dX13_init_263 rfl ?_
  refine R.iastN (k := 5) dX13_init_264 (by omega) (by show _ < mN M11 14 0; rw [hL.n]; omega) ?_
  rw [sI_sW]
  change WP _ _ _ _ _ (sW M11 wq10) _
  refine R.aload_n dX13_init_265 rfl (by first | rfl | exact rfv_rf _) ?_
  refine R.getS (hL.w) dX13_init_266 fl_X13_7 (by decide) rfl ?_
  refine R.bipush (v := nI 6) dX13_init_269 (by decide) ?_
  refine R.bipush (v := nI 30) dX13_init_271 (by decide) ?_
  refine R.iastN (k := 6) dX13_init_273 (by omega) (by show _ < mN M11 14 0; rw [hL.n]; omega) ?_
  rw [sI_sW]
  change WP _ _ _ _ _ (sW M11 wq11) _
  refine R.aload_n dX13_init_274 rfl (by first | rfl | exact rfv_rf _) ?_
  refine R.getS (hL.w) dX13_init_275 fl_X13_7 (by decide) rfl ?_
  refine R.bipush (v := nI 14) dX13_init_278 (by decide) ?_
  refine R.sipush (v := nI 260) dX13_init_280 (by decide) ?_
  refine R.iastN (k := 14) dX13_init_283 (by omega) (by show _ < mN M11 14 0; rw [hL.n]; omega) ?_
  rw [sI_sW]
  refine WP.ret (ov := none) dX13_init_284 ⟨rfl, rfl⟩ ?_
  exact hq _ (hA11.st hI) (hA11.2.2.2.2.1.tr (FC.fr (Fr_sW9 _ _))) (fun k hk => hA11.2.1 k hk) (by show mK M11 ≤ _; rw [hA11.2.2.2.2.2.1]; omega) (by show mS M11 ≤ _; rw [hA11.2.2.2.2.2.2, show (lnL.take 11).sum = 5553 by decide]; omega)
