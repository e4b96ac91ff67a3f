/-! the class's state through what the law does, the law's yard through what the class does -/
/-- what the law may write: its own kinds, its own builder, byte arrays from c on -/
def inQ (c k i : Nat) : Prop := inK k ∨ (k = 12 ∧ 0 < i) ∨ (k = 13 ∧ c ≤ i)
theorem CSt.fq {c : Nat} {M M' : Mem} {S : KS} {p : Nat} (h : CSt M S p) (F : FC (inQ c) M M') (hc : mC M 13 ≤ c) (h13 : mC M 13 ≤ mC M' 13) : CSt M' S p := by
  obtain ⟨a1, a2, ⟨Z2, a3, a3'⟩, ⟨Z, a4⟩, ⟨b1, b2, b3, b4, b5, b6, b7⟩, a6, a7, a8, cap, ⟨v, g1, g2, g3, g4, g5, g6⟩, g7, g8, g9⟩ := h
  have nY : ∀ y k i, inY y k i → ¬ inQ c k i := fun y k i z z2 => by unfold inY at z; unfold inQ inK at z2; omega
  have e10 := F 10 0 (by unfold inQ inK; omega)
  have e2 := F 2 0 (by unfold inQ inK; omega)
  have e20 := F 20 0 (by unfold inQ inK; omega)
  have e5 := F 5 0 (by unfold inQ inK; omega)
  have e4 := F 4 0 (by unfold inQ inK; omega)
  have e19 := F 19 0 (by unfold inQ inK; omega)
  have e7 := F 7 0 (by unfold inQ inK; omega)
  have e12 := F 12 0 (by unfold inQ inK; omega)
  have e13 := F 13 0 (by unfold inQ inK; omega)
  have e13v := F 13 v (by unfold inQ inK; omega)
  have fY : ∀ {y : Nat} {Y : Yd}, Yv M y Y → Yv M' y Y := fun q => q.fc F (nY _)
  refine ⟨?_, fY a2, ⟨Z2, fY a3, ?_⟩, ⟨Z, fY a4⟩, ⟨?_, ?_, ?_, b4, b5, fun j hj => ?_, fun i Z9 hi => fY (b7 i Z9 hi)⟩, ?_, ?_, ?_, cap, ⟨v, ?_, g2, ?_, ?_, fun i x hx => ?_, fun j hj => ?_⟩, ?_, ?_, g9⟩
  · unfold CLay at a1 ⊢
    rw [e10.2.2.1]
    exact a1
  · rw [e10.1]
    exact a3'
  · unfold HLay at b1 ⊢
    rw [e2.2.2.1, e20.2.2.1, e20.2.2.2.2]
    exact b1
  · rw [e2.1]; exact b2
  · rw [e2.1]; exact b3
  · obtain ⟨Y, hY⟩ := b6 j hj
    exact ⟨Y, fY hY⟩
  · unfold LSe at a6 ⊢
    rw [e5.2.2.1]
    exact a6
  · unfold SLay at a7 ⊢
    rw [e4.2.2.1, e19.2.2.1, e19.2.2.2.2]
    exact a7
  · unfold Tz at a8 ⊢
    rw [e7.2.2.1, e7.1, e13.1, e13.2.2.2.2]
    exact a8
  · rw [e12.2.2.1]; exact g1
  · omega
  · rw [e13v.2.2.2.2]; exact g4
  · rw [e13v.1]; exact g5 i x hx
  · rw [e13v.1]; exact g6 j hj
  · rw [e12.1]; exact g7
  · rw [e12.1]; exact g8

theorem CSt.fx {T : Nat → Nat → Prop} {n s : Nat} {M M' : Mem} {S : KS} {p : Nat} (h : CSt M S p) (F : Fx T n s M M') (hT : ∀ k i, T k i → inK k) : CSt M' S p := by
  refine h.fq (c := mC M 13) (fun k i hk => ?_) (Nat.le_refl _) (F.2.2.1 13)
  have nk : ¬ inK k := fun z => hk (Or.inl z)
  exact F.1 k i (fun z => nk (hT k i z)) (fun z => absurd z (fun z => nk (by unfold inG at z; unfold inK; omega)))
theorem CSt.fz {n s : Nat} {M M' : Mem} {S : KS} {p : Nat} (h : CSt M S p) (F : Fx Sz n s M M') : CSt M' S p := h.fx F fun _ _ z => z.elim
theorem SWl_K {k i : Nat} (h : SWl k i) : inK k := by unfold SWl at h; unfold inK; omega
theorem S11_K {k i : Nat} (h : S11 k i) : inK k := by unfold S11 at h; unfold inK; omega
/-- the cells of the law's kinds are as they were -/
def KSm (M M' : Mem) : Prop := (∀ k i, inK k → Sm M M' k i) ∧ ∀ k, inK k → mC M' k = mC M k
theorem FrK.sm {M M' : Mem} (h : FrK M M') : KSm M M' := ⟨fun k i hk => h.1 k i hk, h.2.1⟩
theorem KSm.rf (M : Mem) : KSm M M := ⟨fun _ _ _ => Sm.rf _ _ _, fun _ _ => rfl⟩
theorem KSm.tr {M M' M'' : Mem} (h : KSm M M') (g : KSm M' M'') : KSm M M'' := ⟨fun k i hk => (h.1 k i hk).tr (g.1 k i hk), fun k hk => (g.2 k hk).trans (h.2 k hk)⟩
section KSMS
variable {M M' : Mem}
theorem Ls.ks {i : Nat} {xs : List Nat} {E : Option Nat} (h : Ls M i xs E) (F : KSm M M') : Ls M' i xs E := by
  obtain ⟨h0, h1, h2⟩ := h
  have k33 : inK 33 := by unfold inK; omega
  have k16 : inK 16 := by unfold inK; omega
  have e33 := F.1 33 i k33
  refine ⟨by rw [F.2 33 k33]; exact h0, by rw [e33.1]; exact h1, ?_⟩
  cases E with
  | none => exact ⟨h2.1, by rw [e33.2.2.1]; exact h2.2⟩
  | some e =>
    obtain ⟨a, b, c, c2, d, f⟩ := h2
    have e16 := F.1 16 e k16
    refine ⟨by rw [e33.2.2.1]; exact a, by rw [F.2 16 k16]; exact b, by rw [e16.2.2.2.2]; exact c, by rw [e16.2.2.2.2]; exact c2, by rw [e16.2.2.2.2]; exact d, fun j x hx => ?_⟩
    rw [e16.2.2.1]
    exact f j x hx
theorem IvA.ks {a : Nat} {v : Int32} (h : IvA M a v) (F : KSm M M') : IvA M' a v := by
  have k35 : inK 35 := by unfold inK; omega
  rcases h with h | ⟨j, h1, h2, h3⟩
  · exact Or.inl h
  · exact Or.inr ⟨j, by rw [F.2 35 k35]; exact h1, h2, by rw [(F.1 35 j k35).1]; exact h3⟩
theorem LC.ks {W : LW} {k : Nat} (c : LC M W k) (F : KSm M M') : LC M' W k := by
  have e11 := F.1 11 k (by unfold inK; omega)
  exact ⟨fun f => by rw [e11.1]; exact c.i, by rw [e11.2.2.1]; exact c.p, by rw [e11.2.2.1]; exact c.r7, by rw [e11.2.2.1]; exact c.r8, c.ch.ks F, c.rd.ks F, fun q hq => (c.iv q hq).ks F, c.cn, c.pn⟩
theorem LM.ks {W : LW} (h : LM M W) (F : KSm M M') : LM M' W := by
  obtain ⟨h1, h2, h3, h4, h5, h6⟩ := h
  have e32 := F.1 32 0 (by unfold inK; omega)
  exact ⟨h1, by rw [e32.2.2.1]; exact h2, fun f hf => by rw [e32.1]; exact h3 f hf, h4.ks F, fun k hk => (h5 k hk).ks F, h6⟩
theorem LM.fk {W : LW} (h : LM M W) (F : FrK M M') : LM M' W := h.ks F.sm
end KSMS
theorem s_cell {d k : Nat} {M : Mem} {Q : Out → Mem → Prop} (hk : k < 100) (hL : mN M 27 0 < 2 ^ 31) (hq : ∀ x : Int32, Q (.inl (some (.int x))) M) : WPc d mL_cell [.ref (rf 27 0), .int (nI k)] M Q := by
  refine WPc.of (by decide +kernel) (Nat.le_of_ble_eq_true rfl) rfl ?_
  refine R.iload_n dL_cell_0 rfl ?_
  refine R.aload_n dL_cell_1 rfl rfl ?_
  refine R.scrAlen dL_cell_2 ?_
  refine R.icmp_ge (tgt := 12) dL_cell_3 (by decide) (fun c => ?_) (fun c => ?_)
  · refine R.bipush (v := 113) dL_cell_12 (by decide) ?_
    refine R.iload_n dL_cell_14 rfl ?_
    refine R.imul dL_cell_15 ?_
    refine R.bipush (v := 67) dL_cell_16 (by decide) ?_
    refine R.iadd dL_cell_18 ?_
    refine WP.ret (ov := some (.int _)) dL_cell_19 ⟨rfl, _, rfl, rfl⟩ ?_
    exact hq _
  · have hlt : k < mN M 27 0 := by
      have c2 := Int32.not_le.mp c
      rw [Int32.lt_iff_toInt_lt, nI_toInt (by omega), nI_toInt hL] at c2
      omega
    refine R.aload_n dL_cell_6 rfl rfl ?_
    refine R.iload_n dL_cell_7 rfl ?_
    refine R.scrIald dL_cell_8 (nI_pos (by omega)) (by rw [nI_clamp (by omega)]; exact hlt) ?_
    refine R.goto (tgt := 19) dL_cell_9 (by decide) ?_
    refine WP.ret (ov := some (.int _)) dL_cell_19 ⟨rfl, _, rfl, rfl⟩ ?_
    exact hq _
theorem R.getIS {m : MRec} {d pc : Nat} {ls st : List Value} {M : Mem} {Q : Out → Mem → Prop} {k i f idx : Nat} {v : Int32} (hx : mI M k i f = v) (hd : decode m.2.1 pc = .ok (.getfield idx, 3)) (hf : FL m.1.cls idx k f) (hk : KO k) (ht : isI (tyk k f) = true) (kn9 : WP m d (pc + 3) ls (.int v :: st) M Q) : WP m d pc ls (.ref (rf k i) :: st) M Q :=
  R.getI hd hf hk ht (by rw [hx]; exact kn9)
/-- the law's weighing: what it leaves of the generator and of the crate -/
def wgE (W : LW) (_k : Nat) : Int32 := rem (rem (75 * wYs W 1 + 74) 65537) (2 * wYs W 2 + 1) - wYs W 2
def wgV (W : LW) (k : Nat) : Int32 := if wI W k 5 = 1 then grF W 5 k + wYs W 4 / wYs W 3 - wI W k 3 else grF W 5 k + wYs W 4 / wYs W 3 + wgE W k
def wg0 (W : LW) (k : Nat) : LW := if wI W k 5 = 1 then W else vI (vY W 1 (rem (75 * wYs W 1 + 74) 65537)) k 3 (wgE W k)
def wg1 (W : LW) (k a : Nat) (x : Int32) (e9 : Option Nat) : LW := vY (vY (vR (vI W k 5 (if wI W k 5 = 1 then 0 else 1)) k (wR W k ++ [(a, x)]) e9) 4 (wYs W 4 + 1)) 5 (wYs W 5 + 1)
def wgW (W : LW) (k : Nat) (a : Nat) (e9 : Option Nat) : LW := wg1 (wg0 W k) k a (wgV W k) e9
theorem LC.eli {M : Mem} {W : LW} {k : Nat} (c : LC M W k) : ∀ x, x ∈ (wR W k).map Prod.fst → ∀ M2, ElOk M2 x := by
  intro x hx M2
  obtain ⟨q, hq, rfl⟩ := List.mem_map.mp hx
  exact (c.iv q hq).el M2
theorem elc_all {l : List Nat} : ∀ x, x ∈ l.map (rf 11) → ∀ M2, ElOk M2 x := by
  intro x hx M2
  obtain ⟨y, -, rfl⟩ := List.mem_map.mp hx
  exact el_cr
set_option maxHeartbeats 1000000 in
set_option maxRecDepth 8000 in
theorem wg_tail {d k : Nat} {V : LW} {x : Int32} {M : Mem} {Q : Out → Mem → Prop} (hV : LM M V) (hk : k < wN V) (h60 : (wR V k).length ≤ 60) (ho : wI V k 5 = 0 ∨ wI V k 5 = 1) (hq : ∀ M' a e9, LM M' (wg1 V k a x e9) → Fx SWl 2 91 M M' → Q (.inl (some (.int x))) M') : WP mX14_weighs (d + 8) 78 [.ref (rf 32 0), .ref (rf 11 k), .int x] [] M Q := by
  have c := hV.c hk
  have key : ∀ b : Int32, b = (if wI V k 5 = 1 then 0 else 1) → narrow .boolean (.int b) = .int b → fits .boolean (.int b) = true → WP mX14_weighs (d + 8) 91 [.ref (rf 32 0), .ref (rf 11 k), .int x] [.int b, .ref (rf 11 k)] M Q := by
    intro b hb nb fb
    refine R.putI dX14_weighs_91 fl_X14_29 (fun q hq => by cases hq; exact Or.inl rfl) (by decide) rfl nb fb ?_
    have hV1 : LM (sI M 11 k 5 b) (vI V k 5 b) := hV.uI
    have F1 : Fx SWl 0 0 M (sI M 11 k 5 b) := (Fx.rf _ 0 0 M).sI (Or.inl (Or.inl rfl))
    have hk1 : k < wN (vI V k 5 b) := hk
    refine R.aload_n dX14_weighs_94 rfl (by first | rfl | exact rfv_rf _) ?_
    refine R.getS ((hV1.c hk1).r8) dX14_weighs_95 fl_X14_43 (by decide) rfl ?_
    refine R.iload_n dX14_weighs_98 rfl ?_
    refine cl_X14_46 rfl rfl (by first | exact Nat.le_of_ble_eq_true rfl | simp [rf_cat, Value.category]) dX14_weighs_99 ?_
    refine s_valOf (fun a M2 hIv F2 hC2 => ?_)
    have hV2 : LM M2 (vI V k 5 b) := hV1.fx F2
    have F2' : Fx SWl 1 1 M M2 := (F1.tr F2 (fun _ _ z => z.elim)).le (by omega) (by omega)
    refine ic_X14_52 rfl (by first | exact Nat.le_of_ble_eq_true rfl | simp [rf_cat, Value.category]) dX14_weighs_102 ?_
    refine s_alAdd (hV2.c hk1).rd (by rw [List.length_map]; exact h60) (hV2.c hk1).eli (fun M9 => hIv.el M9) (fun M3 E3 hA => ?_)
    obtain ⟨a1, a2, a3, a4⟩ := hA
    have hV3 : LM M3 (vR (vI V k 5 b) k (wR V k ++ [(a, x)]) E3) := by
      refine hV2.uR hk1 a2 (by rw [List.map_append]; exact a1) a3 (fun q hq => ?_)
      rcases List.mem_append.mp hq with hq | hq
      · exact ((hV2.c hk1).iv q hq).fx a2 (fun j z => by unfold SL at z; omega)
      · rw [List.mem_singleton.mp hq]
        exact hIv.fx a2 (fun j z => by unfold SL at z; omega)
    have F3 : Fx SWl 2 91 M M3 := (F2'.tr a2 (fun i j z => Or.inl (SL_SWl i j z))).le (by omega) (by omega)
    refine ⟨_, rfl, ?_⟩
    refine R.pop dX14_weighs_107 (by first | rfl | exact rf_cat _) ?_
    skip
    obtain ⟨V3, hV3e⟩ : ∃ V3, V3 = vR (vI V k 5 b) k (wR V k ++ [(a, x)]) E3 := ⟨_, rfl⟩
    rw [← hV3e] at hV3
    refine R.aload_n dX14_weighs_108 rfl (by first | rfl | exact rfv_rf _) ?_
    refine R.dup dX14_weighs_109 (by first | rfl | exact rf_cat _) ?_
    refine R.getIS (hV3.yi (by decide)) dX14_weighs_110 fl_X14_22 (by decide) rfl ?_
    refine R.iconst (v := 1) dX14_weighs_113 rfl ?_
    refine R.iadd dX14_weighs_114 ?_
    refine R.putI dX14_weighs_115 fl_X14_22 (fun q hq => by cases hq; exact Or.inl rfl) (by decide) rfl rfl rfl ?_
    have hV4 : LM (sI M3 32 0 4 (wYs V3 4 + 1)) (vY V3 4 (wYs V3 4 + 1)) := hV3.sY
    refine R.aload_n dX14_weighs_118 rfl (by first | rfl | exact rfv_rf _) ?_
    refine R.dup dX14_weighs_119 (by first | rfl | exact rf_cat _) ?_
    refine R.getIS (hV4.yi (by decide)) dX14_weighs_120 fl_X14_58 (by decide) rfl ?_
    refine R.iconst (v := 1) dX14_weighs_123 rfl ?_
    refine R.iadd dX14_weighs_124 ?_
    refine R.putI dX14_weighs_125 fl_X14_58 (fun q hq => by cases hq; exact Or.inl rfl) (by decide) rfl rfl rfl ?_
    have hV5 := hV4.sY (f := 5) (v := wYs (vY V3 4 (wYs V3 4 + 1)) 5 + 1)
    refine R.iload_n dX14_weighs_128 rfl ?_
    refine WP.ret (ov := some (.int _)) dX14_weighs_129 ⟨rfl, _, rfl, by first | rfl | assumption | exact nar_b01 (by assumption)⟩ ?_
    have F5 : Fx SWl 2 91 M (sI (sI M3 32 0 4 (wYs V3 4 + 1)) 32 0 5 (wYs (vY V3 4 (wYs V3 4 + 1)) 5 + 1)) := (F3.sI (Or.inl (Or.inr (Or.inr (Or.inl rfl))))).sI (Or.inl (Or.inr (Or.inr (Or.inl rfl))))
    refine hq _ a E3 ?_ F5
    rw [hV3e, hb] at hV5
    rw [hV3e, hb]
    exact hV5
  rcases ho with o | o
  · skip
    refine R.aload_n dX14_weighs_78 rfl (by first | rfl | exact rfv_rf _) ?_
    refine R.aload_n dX14_weighs_79 rfl (by first | rfl | exact rfv_rf _) ?_
    refine R.getIS (c.i.trans o) dX14_weighs_80 fl_X14_29 (by decide) rfl ?_
    refine R.if_ne (tgt := 90) dX14_weighs_83 (by decide) (fun c => absurd rfl c) (fun _ => ?_)
    refine R.iconst (v := 1) dX14_weighs_86 rfl ?_
    refine R.goto (tgt := 91) dX14_weighs_87 (by decide) ?_
    skip
    exact key 1 (by rw [o]; rfl) rfl rfl
  · skip
    refine R.aload_n dX14_weighs_78 rfl (by first | rfl | exact rfv_rf _) ?_
    refine R.aload_n dX14_weighs_79 rfl (by first | rfl | exact rfv_rf _) ?_
    refine R.getIS (c.i.trans o) dX14_weighs_80 fl_X14_29 (by decide) rfl ?_
    refine R.if_ne (tgt := 90) dX14_weighs_83 (by decide) (fun _ => ?_) (fun c => absurd c (by decide))
    refine R.iconst (v := 0) dX14_weighs_90 rfl ?_
    skip
    exact key 0 (by rw [o]; rfl) rfl rfl
set_option maxHeartbeats 1000000 in
set_option maxRecDepth 8000 in
theorem s_weighs {d k : Nat} {W : LW} {M : Mem} {Q : Out → Mem → Prop} (hW : LM M W) (hk : k < wN W) (h5 : hgK W 5 k) (hag : ¬ wYs W 3 = 0) (ha9 : ¬ 2 * wYs W 2 + 1 = 0) (h60 : (wR W k).length ≤ 60) (ho : wI W k 5 = 0 ∨ wI W k 5 = 1) (hq : ∀ M' a e9, LM M' (wgW W k a e9) → Fx SWl (nsF W 5 k + 2) (4 * nsF W 5 k + 91) M M' → Q (.inl (some (.int (wgV W k)))) M') : WPc (d + 10) mX14_weighs [.ref (rf 32 0), .ref (rf 11 k)] M Q := by
  refine WPc.of (by decide +kernel) (Nat.le_of_ble_eq_true rfl) rfl ?_
  refine R.aload_n dX14_weighs_0 rfl (by first | rfl | exact rfv_rf _) ?_
  refine cl_X14_16 rfl rfl (by first | exact Nat.le_of_ble_eq_true rfl | simp [rf_cat, Value.category]) dX14_weighs_1 ?_
  refine s_gross 5 k d hk h5 hW (fun M1 hM1 F1 => ?_)
  refine R.aload_n dX14_weighs_4 rfl (by first | rfl | exact rfv_rf _) ?_
  refine R.getIS (hM1.yi (by decide)) dX14_weighs_5 fl_X14_22 (by decide) rfl ?_
  refine R.aload_n dX14_weighs_8 rfl (by first | rfl | exact rfv_rf _) ?_
  refine R.getIS (hM1.yi (by decide)) dX14_weighs_9 fl_X14_26 (by decide) rfl ?_
  refine R.idiv dX14_weighs_12 hag ?_
  refine R.iadd dX14_weighs_13 ?_
  refine R.istore_n dX14_weighs_14 (Nat.le_of_ble_eq_true rfl) (by decide) (by first | rfl | simp [lft, rf_cat]) rfl ?_
  skip
  have c := hM1.c hk
  rcases ho with o | o
  · skip
    refine R.aload_n dX14_weighs_15 rfl (by first | rfl | exact rfv_rf _) ?_
    refine R.getIS (c.i.trans o) dX14_weighs_16 fl_X14_29 (by decide) rfl ?_
    refine R.if_eq (tgt := 32) dX14_weighs_19 (by decide) (fun _ => ?_) (fun c => absurd rfl c)
    refine R.aload_n dX14_weighs_32 rfl (by first | rfl | exact rfv_rf _) ?_
    refine R.bipush (v := 75) dX14_weighs_33 (by decide) ?_
    refine R.aload_n dX14_weighs_35 rfl (by first | rfl | exact rfv_rf _) ?_
    refine R.getIS (hM1.yi (by decide)) dX14_weighs_36 fl_X14_36 (by decide) rfl ?_
    refine R.imul dX14_weighs_39 ?_
    refine R.bipush (v := 74) dX14_weighs_40 (by decide) ?_
    refine R.iadd dX14_weighs_42 ?_
    refine R.ldc dX14_weighs_43 ki_X14_39 ?_
    refine R.irem dX14_weighs_45 (by decide) ?_
    refine R.putI dX14_weighs_46 fl_X14_36 (fun q hq => by cases hq; exact Or.inl rfl) (by decide) rfl rfl rfl ?_
    have hM2 := hM1.sY (f := 1) (v := rem (75 * wYs W 1 + 74) 65537)
    refine R.aload_n dX14_weighs_49 rfl (by first | rfl | exact rfv_rf _) ?_
    refine R.aload_n dX14_weighs_50 rfl (by first | rfl | exact rfv_rf _) ?_
    refine R.getIS ((hM2.yi (by decide)).trans (vY_s _ _ _)) dX14_weighs_51 fl_X14_36 (by decide) rfl ?_
    refine R.iconst (v := 2) dX14_weighs_54 rfl ?_
    refine R.aload_n dX14_weighs_55 rfl (by first | rfl | exact rfv_rf _) ?_
    refine R.getIS ((hM2.yi (by decide)).trans (vY_n (by decide))) dX14_weighs_56 fl_X14_40 (by decide) rfl ?_
    refine R.imul dX14_weighs_59 ?_
    refine R.iconst (v := 1) dX14_weighs_60 rfl ?_
    refine R.iadd dX14_weighs_61 ?_
    refine R.irem dX14_weighs_62 ha9 ?_
    refine R.aload_n dX14_weighs_63 rfl (by first | rfl | exact rfv_rf _) ?_
    refine R.getIS ((hM2.yi (by decide)).trans (vY_n (by decide))) dX14_weighs_64 fl_X14_40 (by decide) rfl ?_
    refine R.isub dX14_weighs_67 ?_
    refine R.putI dX14_weighs_68 fl_X14_33 (fun q hq => by cases hq; exact Or.inl rfl) (by decide) rfl rfl rfl ?_
    have hM3 := hM2.uI (k := k) (f := 3) (v := wgE W k)
    refine R.iload_n dX14_weighs_71 rfl ?_
    refine R.aload_n dX14_weighs_72 rfl (by first | rfl | exact rfv_rf _) ?_
    refine R.getIS ((hM3.c hk).i.trans (if_pos ⟨rfl, rfl⟩)) dX14_weighs_73 fl_X14_33 (by decide) rfl ?_
    refine R.iadd dX14_weighs_76 ?_
    refine R.istore_n dX14_weighs_77 (Nat.le_of_ble_eq_true rfl) (by decide) (by first | rfl | simp [lft, rf_cat]) rfl ?_
    have e5 : wI (vI (vY W 1 (rem (75 * wYs W 1 + 74) 65537)) k 3 (wgE W k)) k 5 = 0 := (if_neg (fun z => by omega)).trans o
    have n1 : ¬ wI W k 5 = 1 := by rw [o]; decide
    have e0 : wg0 W k = vI (vY W 1 (rem (75 * wYs W 1 + 74) 65537)) k 3 (wgE W k) := if_neg n1
    have ev : wgV W k = grF W 5 k + wYs W 4 / wYs W 3 + wgE W k := if_neg n1
    refine wg_tail (d := d + 2) hM3 hk h60 (Or.inl e5) (fun M' a e9 hM' F' => ?_)
    have F2 : Fx SWl (nsF W 5 k) (4 * nsF W 5 k) M (sI (sI M1 32 0 1 (rem (75 * wYs W 1 + 74) 65537)) 11 k 3 (wgE W k)) := ((F1.mono (fun _ _ z => z.elim) (Nat.le_refl _) (Nat.le_refl _)).sI (Or.inl (Or.inr (Or.inr (Or.inl rfl))))).sI (Or.inl (Or.inl rfl))
    rw [← ev] at hM' ⊢
    refine hq M' a e9 ?_ (F2.tr F' (fun _ _ z => Or.inl z))
    unfold wgW
    rw [e0]
    exact hM'
  · skip
    refine R.aload_n dX14_weighs_15 rfl (by first | rfl | exact rfv_rf _) ?_
    refine R.getIS (c.i.trans o) dX14_weighs_16 fl_X14_29 (by decide) rfl ?_
    refine R.if_eq (tgt := 32) dX14_weighs_19 (by decide) (fun c => absurd c (by decide)) (fun _ => ?_)
    refine R.iload_n dX14_weighs_22 rfl ?_
    refine R.aload_n dX14_weighs_23 rfl (by first | rfl | exact rfv_rf _) ?_
    refine R.getIS (c.i) dX14_weighs_24 fl_X14_33 (by decide) rfl ?_
    refine R.isub dX14_weighs_27 ?_
    refine R.istore_n dX14_weighs_28 (Nat.le_of_ble_eq_true rfl) (by decide) (by first | rfl | simp [lft, rf_cat]) rfl ?_
    refine R.goto (tgt := 78) dX14_weighs_29 (by decide) ?_
    have e0 : wg0 W k = W := if_pos o
    have ev : wgV W k = grF W 5 k + wYs W 4 / wYs W 3 - wI W k 3 := if_pos o
    refine wg_tail (d := d + 2) hM1 hk h60 (Or.inr o) (fun M' a e9 hM' F' => ?_)
    have F2 : Fx SWl (nsF W 5 k) (4 * nsF W 5 k) M M1 := F1.mono (fun _ _ z => z.elim) (Nat.le_refl _) (Nat.le_refl _)
    rw [← ev] at hM' ⊢
    refine hq M' a e9 ?_ (F2.tr F' (fun _ _ z => Or.inl z))
    unfold wgW
    rw [e0]
    exact hM'
