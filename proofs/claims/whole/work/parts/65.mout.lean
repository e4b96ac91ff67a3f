/-! the model's output -/
def OU (M : Mem) (O : List Int32) : Prop := mI M 11 0 25 = nI O.length ∧ ∀ j x, O[j]? = some x → mI M 14 10 j = x
/-- nothing but what is written is changed -/
def FO (M M' : Mem) : Prop := (mC M' = mC M ∧ mN M' = mN M ∧ mK M' = mK M ∧ mS M' = mS M ∧ mR M' = mR M ∧ mL M' = mL M ∧ mD M' = mD M) ∧ ∀ k i f, ¬ (k = 14 ∧ i = 10) → ¬ (k = 11 ∧ i = 0 ∧ f = 25) → mI M' k i f = mI M k i f
theorem FO.rf (M : Mem) : FO M M := ⟨⟨rfl, rfl, rfl, rfl, rfl, rfl, rfl⟩, fun _ _ _ _ _ => rfl⟩
theorem FO.tr {M M' M'' : Mem} (h : FO M M') (g : FO M' M'') : FO M M'' := by
  obtain ⟨⟨a1, a2, a3, a4, a5, a6, a7⟩, a8⟩ := h
  obtain ⟨⟨b1, b2, b3, b4, b5, b6, b7⟩, b8⟩ := g
  exact ⟨⟨b1.trans a1, b2.trans a2, b3.trans a3, b4.trans a4, b5.trans a5, b6.trans a6, b7.trans a7⟩, fun k i f h1 h2 => (b8 k i f h1 h2).trans (a8 k i f h1 h2)⟩
theorem ML.fo {M M' : Mem} (h : ML M) (F : FO M M') : ML M' := by
  unfold ML at h ⊢
  rw [F.1.2.2.2.2.1, F.1.2.1]
  exact h
theorem FO.w {M M' : Mem} (F : FO M M') : mI M' 14 0 = mI M 14 0 := by
  funext f
  exact F.2 14 0 f (by omega) (by omega)
theorem FO.sW {M M' : Mem} (F : FO M M') : M' = sW M' (mI M 14 0) := by rw [← F.w]; exact (sW_id M').symm
theorem ou_app {M : Mem} {O : List Int32} {x : Int32} (hO : OU M O) (v : Int32) (hv : v = nI (O ++ [x]).length) : OU (sI (sI M 14 10 O.length x) 11 0 25 v) (O ++ [x]) := by
  refine ⟨by rw [mI_sI, if_pos ⟨rfl, rfl, rfl⟩]; exact hv, fun j y hy => ?_⟩
  rw [mI_sI, if_neg (by omega), mI_sI]
  by_cases z : j = O.length
  · rw [if_pos ⟨rfl, rfl, z⟩]
    rw [z, List.getElem?_append_right (Nat.le_refl _), Nat.sub_self] at hy
    cases hy; rfl
  · rw [if_neg (fun q => z q.2.2)]
    have hj : j < O.length := by
      have := List.getElem?_eq_some_iff.mp hy
      obtain ⟨h1, _⟩ := this
      rw [List.length_append, List.length_cons, List.length_nil] at h1
      omega
    rw [List.getElem?_append_left hj] at hy
    exact hO.2 j y hy
theorem fo_app (M : Mem) (k : Nat) (x v : Int32) : FO M (sI (sI M 14 10 k x) 11 0 25 v) := ⟨⟨rfl, rfl, rfl, rfl, rfl, rfl, rfl⟩, fun k' i f h1 h2 => by
  rw [mI_sI, if_neg h2, mI_sI, if_neg (fun q => h1 ⟨q.1, q.2.1⟩)]⟩
set_option maxHeartbeats 1000000 in
set_option maxRecDepth 4000 in
theorem m_write {d : Nat} {x : Int32} {O : List Int32} {M : Mem} {Q : Out → Mem → Prop} (hL : ML M) (hO : OU M O) (hl : O.length < 400) (hq : ∀ M', OU M' (O ++ [x]) → FO M M' → Q (.inl none) M') : WPc d mX13_write [.ref (rf 11 0), .int x] M Q := by
  refine WPc.of (by decide +kernel) (Nat.le_of_ble_eq_true rfl) rfl ?_
  have e25 : mI (sI M 14 10 O.length x) 11 0 25 = nI O.length := by rw [mI_sI, if_neg (by omega)]; exact hO.1
  refine R.aload_n dX13_write_0 rfl (by first | rfl | exact rfv_rf _) ?_
  refine R.getS (hL.1.2.2.2.2.2.2.2.2.2.2) dX13_write_1 fl_X13_44 (by decide) rfl ?_
  refine R.aload_n dX13_write_4 rfl (by first | rfl | exact rfv_rf _) ?_
  refine R.getI dX13_write_5 fl_X13_435 (by decide) rfl ?_
  rw [hO.1]
  refine R.iload_n dX13_write_8 rfl ?_
  refine R.iastN (k := O.length) dX13_write_9 (by omega) (by rw [hL.2.2.2.2.2.2.2.2.2.2.2]; omega) ?_
  refine R.aload_n dX13_write_10 rfl (by first | rfl | exact rfv_rf _) ?_
  refine R.dup dX13_write_11 (by first | rfl | exact rf_cat _) ?_
  refine R.getI dX13_write_12 fl_X13_435 (by decide) rfl ?_
  rw [e25]
  refine R.iconst (v := 1) dX13_write_15 rfl ?_
  refine R.iadd dX13_write_16 ?_
  refine R.putI dX13_write_17 fl_X13_435 (fun q hq => by cases hq; exact Or.inl rfl) (by decide) rfl rfl rfl ?_
  refine WP.ret (ov := none) dX13_write_20 ⟨rfl, rfl⟩ ?_
  exact hq _ (ou_app hO _ (by rw [List.length_append, List.length_cons, List.length_nil, nI_s1])) (fo_app M _ x _)
theorem dgs_len : ∀ f v, (dgs f v).length ≤ f := by
  intro f
  induction f with
  | zero => intro v; exact Nat.le_refl _
  | succ f ih =>
    intro v
    rw [dgs]
    split
    · exact Nat.succ_le_succ (Nat.zero_le _)
    · rw [List.length_append, List.length_cons, List.length_nil]
      have := ih (v / 10)
      omega
set_option maxHeartbeats 1000000 in
set_option maxRecDepth 4000 in
theorem m_wNum {d : Nat} : ∀ (f v : Nat) (O : List Int32) (M : Mem), ML M → OU M O → v < 10 ^ (f + 1) → v < 2 ^ 31 → O.length + (f + 1) ≤ 400 → ∀ {Q : Out → Mem → Prop}, (∀ M', OU M' (O ++ dgs (f + 1) v) → FO M M' → Q (.inl none) M') → WPc (d + f + 1) mX13_writeNumber [.ref (rf 11 0), .int (nI v)] M Q := by
  have small : ∀ (f v : Nat) (O : List Int32) (M : Mem), v < 10 → ML M → OU M O → O.length + (f + 1) ≤ 400 → ∀ {Q : Out → Mem → Prop}, (∀ M', OU M' (O ++ [nI (48 + v)]) → FO M M' → Q (.inl none) M') → WPc (d + f + 1) mX13_writeNumber [.ref (rf 11 0), .int (nI v)] M Q := by
    intro f v O M z hL hO hl Q hq
    refine WPc.of (by decide +kernel) (Nat.le_of_ble_eq_true rfl) rfl ?_
    refine R.iload_n dX13_writeNumber_0 rfl ?_
    refine R.bipush (v := nI 9) dX13_writeNumber_1 (by decide) ?_
    refine R.icmp_le (tgt := 14) dX13_writeNumber_3 (by decide) (fun _ => ?_) (fun c9 => absurd (nI_le (by omega) (by omega)) c9)
    refine R.aload_n dX13_writeNumber_14 rfl (by first | rfl | exact rfv_rf _) ?_
    refine R.bipush (v := nI 48) dX13_writeNumber_15 (by decide) ?_
    refine R.iload_n dX13_writeNumber_17 rfl ?_
    refine R.bipush (v := nI 10) dX13_writeNumber_18 (by decide) ?_
    refine R.irem dX13_writeNumber_20 (by decide) ?_
    rw [pk_rem (by omega) (by omega) (by omega)]
    refine R.iadd dX13_writeNumber_21 ?_
    rw [nI_add9]
    refine cl_X13_441 rfl rfl (by first | exact Nat.le_of_ble_eq_true rfl | simp [rf_cat, Value.category]) dX13_writeNumber_22 ?_
    refine m_write hL hO (by omega) (fun M1 O1 F1 => ?_)
    refine WP.ret (ov := none) dX13_writeNumber_25 ⟨rfl, rfl⟩ ?_
    rw [show v % 10 = v by omega] at O1
    exact hq M1 O1 F1
  intro f
  induction f with
  | zero =>
    intro v O M hL hO hv hv2 hl Q hq
    rw [show dgs (0 + 1) v = [nI (48 + v)] from if_pos (by omega)] at hq
    exact small 0 v O M (by omega) hL hO hl hq
  | succ f ih =>
    intro v O M hL hO hv hv2 hl Q hq
    by_cases z : v < 10
    · rw [show dgs (f + 1 + 1) v = [nI (48 + v)] from if_pos z] at hq
      exact small (f + 1) v O M z hL hO hl hq
    · rw [show dgs (f + 1 + 1) v = dgs (f + 1) (v / 10) ++ [nI (48 + v % 10)] from if_neg z] at hq
      refine WPc.of (by decide +kernel) (Nat.le_of_ble_eq_true rfl) rfl ?_
      refine R.iload_n dX13_writeNumber_0 rfl ?_
      refine R.bipush (v := nI 9) dX13_writeNumber_1 (by decide) ?_
      refine R.icmp_le (tgt := 14) dX13_writeNumber_3 (by decide) (fun c9 => absurd c9 (fun q => z (by have := (nI_leI (b := 9) (by omega) (by decide)).mp q; omega))) (fun _ => ?_)
      refine R.aload_n dX13_writeNumber_6 rfl (by first | rfl | exact rfv_rf _) ?_
      refine R.iload_n dX13_writeNumber_7 rfl ?_
      refine R.bipush (v := nI 10) dX13_writeNumber_8 (by decide) ?_
      refine R.idiv dX13_writeNumber_10 (by decide) ?_
      rw [pk_div (by omega) (by omega) (by omega)]
      refine cl_X13_438 rfl rfl (by first | exact Nat.le_of_ble_eq_true rfl | simp [rf_cat, Value.category]) dX13_writeNumber_11 ?_
      refine ih (v / 10) O M hL hO (by rw [Nat.pow_succ] at hv; omega) (by omega) (by omega) (fun M1 O1 F1 => ?_)
      refine R.aload_n dX13_writeNumber_14 rfl (by first | rfl | exact rfv_rf _) ?_
      refine R.bipush (v := nI 48) dX13_writeNumber_15 (by decide) ?_
      refine R.iload_n dX13_writeNumber_17 rfl ?_
      refine R.bipush (v := nI 10) dX13_writeNumber_18 (by decide) ?_
      refine R.irem dX13_writeNumber_20 (by decide) ?_
      rw [pk_rem (by omega) (by omega) (by omega)]
      refine R.iadd dX13_writeNumber_21 ?_
      rw [nI_add9]
      refine cl_X13_441 rfl rfl (by first | exact Nat.le_of_ble_eq_true rfl | simp [rf_cat, Value.category]) dX13_writeNumber_22 ?_
      refine m_write (hL.fo F1) O1 (by rw [List.length_append]; have := dgs_len (f + 1) (v / 10); omega) (fun M2 O2 F2 => ?_)
      refine WP.ret (ov := none) dX13_writeNumber_25 ⟨rfl, rfl⟩ ?_
      rw [List.append_assoc] at O2
      exact hq M2 O2 (F1.tr F2)
