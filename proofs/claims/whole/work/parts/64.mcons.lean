/-! the model's own check -/
theorem sI_sWf (M : Mem) (w : Nat → Int32) {k : Nat} (i f : Nat) (v : Int32) (hk : ¬ k = 14) : sI (sW M w) k i f v = sW (sI M k i f v) w := by
  refine Prod.ext ?_ rfl
  funext k' i' f'
  show up3 (sW M w).1 k i f v k' i' f' = (if k' = 14 ∧ i' = 0 then w else (sI M k i f v).1 k' i') f'
  by_cases z : k' = 14 ∧ i' = 0
  · rw [if_pos z]
    unfold up3
    rw [if_neg (fun q => hk (q.1.symm.trans z.1))]
    exact congrFun (if_pos z) f'
  · rw [if_neg z]
    show up3 (sW M w).1 k i f v k' i' f' = up3 M.1 k i f v k' i' f'
    unfold up3
    have e : (sW M w).1 k' i' = M.1 k' i' := if_neg z
    rw [e]
/-- the sum that is stored of a crate -/
def SQ (Y : Yd) (c : Nat) : Prop := (∃ r, yC Y c 8 = nI r ∧ r < 2 ^ 31 - 1) ∧ yL Y c 9 = (yC Y c 8).toInt64 * (yC Y c 4).toInt64 + yL Y c 10 + (if rem (yC Y c 8) 2 = 0 then 0 else (yC Y c 12).toInt64)
theorem t32m (x y : Int64) : (x * y).toInt32 = x.toInt32 * y.toInt32 := Int64.toInt32_mul x y
set_option maxHeartbeats 1000000 in
set_option maxRecDepth 4000 in
theorem m_sumR {d : Nat} {w : Nat → Int32} {M : Mem} {Q : Out → Mem → Prop} {c b K m : Nat} {Y : Yd} (hL : ML M) (h : RW Y m b K w) (hc : c < m) (hG : LG Y) (hA : Acy Y) (hS : SQ Y c) (hq : Q (.inl (some (.int (1)))) (sW M w)) : WPc (d + 9) mX13_isSumRight [.ref (rf 11 0), .int (nI c)] (sW M w) Q := by
  refine WPc.of (by decide +kernel) (Nat.le_of_ble_eq_true rfl) rfl ?_
  obtain ⟨⟨r, hr, hr2⟩, e9⟩ := hS
  have ez : rem (yC Y c 8) 2 = nI (r % 2) := by rw [hr, rem2 (by omega)]
  have e0 := congrArg Int64.toInt32 e9
  rw [t32a, t32a, t32m, t32b, t32b] at e0
  by_cases zz : r % 2 = 0
  · have zo : ¬ rem (yC Y c 8) 2 = nI 1 := by rw [ez, zz]; decide
    have e53 : (yL Y c 9).toInt32 = yC Y c 8 * yC Y c 4 + (yL Y c 10).toInt32 + 0 := by
      rw [e0, if_pos (by rw [ez, zz]; rfl)]; rfl
    refine R.aload_n dX13_isSumRight_0 rfl (by first | rfl | exact rfv_rf _) ?_
    refine R.iload_n dX13_isSumRight_1 rfl ?_
    refine R.bipush (v := nI 16) dX13_isSumRight_2 (by decide) ?_
    refine cl_X13_68 rfl rfl (by first | exact Nat.le_of_ble_eq_true rfl | simp [rf_cat, Value.category]) dX13_isSumRight_4 ?_
    refine m_of hL (by have := h.t.le; omega) (by omega) ?_
    rw [(h.d (by have := h.t.le; omega : c < 16)).2.2.2.2.1]
    refine R.iconst (v := nI 1) dX13_isSumRight_7 rfl ?_
    refine R.icmp_ne (tgt := 21) dX13_isSumRight_8 (by decide) (fun _ => ?_) (fun c9 => absurd c9 (zo))
    refine R.iconst (v := 0) dX13_isSumRight_21 rfl ?_
    refine R.istore_n dX13_isSumRight_22 (Nat.le_of_ble_eq_true rfl) (by decide) (by first | rfl | simp [lft, rf_cat]) rfl ?_
    refine R.aload_n dX13_isSumRight_23 rfl (by first | rfl | exact rfv_rf _) ?_
    refine R.iload_n dX13_isSumRight_24 rfl ?_
    refine R.bipush (v := nI 13) dX13_isSumRight_25 (by decide) ?_
    refine cl_X13_68 rfl rfl (by first | exact Nat.le_of_ble_eq_true rfl | simp [rf_cat, Value.category]) dX13_isSumRight_27 ?_
    refine m_of hL (by have := h.t.le; omega) (by omega) ?_
    rw [(h.d (by have := h.t.le; omega : c < 16)).2.1]
    refine R.aload_n dX13_isSumRight_30 rfl (by first | rfl | exact rfv_rf _) ?_
    refine R.iload_n dX13_isSumRight_31 rfl ?_
    refine R.bipush (v := nI 12) dX13_isSumRight_32 (by decide) ?_
    refine cl_X13_68 rfl rfl (by first | exact Nat.le_of_ble_eq_true rfl | simp [rf_cat, Value.category]) dX13_isSumRight_34 ?_
    refine m_of hL (by have := h.t.le; omega) (by omega) ?_
    rw [(h.d (by have := h.t.le; omega : c < 16)).1]
    refine R.aload_n dX13_isSumRight_37 rfl (by first | rfl | exact rfv_rf _) ?_
    refine R.iload_n dX13_isSumRight_38 rfl ?_
    refine cl_X13_82 rfl rfl (by first | exact Nat.le_of_ble_eq_true rfl | simp [rf_cat, Value.category]) dX13_isSumRight_39 ?_
    refine m_gr (d := d) hL h hG hA (by have := h.t.le; omega) ?_
    refine R.imul dX13_isSumRight_42 ?_
    refine R.aload_n dX13_isSumRight_43 rfl (by first | rfl | exact rfv_rf _) ?_
    refine R.iload_n dX13_isSumRight_44 rfl ?_
    refine R.bipush (v := nI 15) dX13_isSumRight_45 (by decide) ?_
    refine cl_X13_68 rfl rfl (by first | exact Nat.le_of_ble_eq_true rfl | simp [rf_cat, Value.category]) dX13_isSumRight_47 ?_
    refine m_of hL (by have := h.t.le; omega) (by omega) ?_
    rw [(h.d (by have := h.t.le; omega : c < 16)).2.2.2.1]
    refine R.iadd dX13_isSumRight_50 ?_
    refine R.iload_n dX13_isSumRight_51 rfl ?_
    refine R.iadd dX13_isSumRight_52 ?_
    refine R.icmp_ne (tgt := 60) dX13_isSumRight_53 (by decide) (fun c9 => absurd (e53) c9) (fun _ => ?_)
    refine R.iconst (v := 1) dX13_isSumRight_56 rfl ?_
    refine R.goto (tgt := 61) dX13_isSumRight_57 (by decide) ?_
    refine WP.ret (ov := some (.int _)) dX13_isSumRight_61 ⟨rfl, _, rfl, by first | rfl | assumption | exact nar_b01 (by assumption)⟩ ?_
    exact hq
  · have zo : rem (yC Y c 8) 2 = nI 1 := by rw [ez, show r % 2 = 1 by omega]
    have e53 : (yL Y c 9).toInt32 = yC Y c 8 * yC Y c 4 + (yL Y c 10).toInt32 + yC Y c 12 := by
      rw [e0, if_neg (by rw [zo]; decide), t32b]
    refine R.aload_n dX13_isSumRight_0 rfl (by first | rfl | exact rfv_rf _) ?_
    refine R.iload_n dX13_isSumRight_1 rfl ?_
    refine R.bipush (v := nI 16) dX13_isSumRight_2 (by decide) ?_
    refine cl_X13_68 rfl rfl (by first | exact Nat.le_of_ble_eq_true rfl | simp [rf_cat, Value.category]) dX13_isSumRight_4 ?_
    refine m_of hL (by have := h.t.le; omega) (by omega) ?_
    rw [(h.d (by have := h.t.le; omega : c < 16)).2.2.2.2.1]
    refine R.iconst (v := nI 1) dX13_isSumRight_7 rfl ?_
    refine R.icmp_ne (tgt := 21) dX13_isSumRight_8 (by decide) (fun c9 => absurd (zo) c9) (fun _ => ?_)
    refine R.aload_n dX13_isSumRight_11 rfl (by first | rfl | exact rfv_rf _) ?_
    refine R.iload_n dX13_isSumRight_12 rfl ?_
    refine R.bipush (v := nI 17) dX13_isSumRight_13 (by decide) ?_
    refine cl_X13_68 rfl rfl (by first | exact Nat.le_of_ble_eq_true rfl | simp [rf_cat, Value.category]) dX13_isSumRight_15 ?_
    refine m_of hL (by have := h.t.le; omega) (by omega) ?_
    rw [(h.d (by have := h.t.le; omega : c < 16)).2.2.2.2.2]
    refine R.goto (tgt := 22) dX13_isSumRight_18 (by decide) ?_
    refine R.istore_n dX13_isSumRight_22 (Nat.le_of_ble_eq_true rfl) (by decide) (by first | rfl | simp [lft, rf_cat]) rfl ?_
    refine R.aload_n dX13_isSumRight_23 rfl (by first | rfl | exact rfv_rf _) ?_
    refine R.iload_n dX13_isSumRight_24 rfl ?_
    refine R.bipush (v := nI 13) dX13_isSumRight_25 (by decide) ?_
    refine cl_X13_68 rfl rfl (by first | exact Nat.le_of_ble_eq_true rfl | simp [rf_cat, Value.category]) dX13_isSumRight_27 ?_
    refine m_of hL (by have := h.t.le; omega) (by omega) ?_
    rw [(h.d (by have := h.t.le; omega : c < 16)).2.1]
    refine R.aload_n dX13_isSumRight_30 rfl (by first | rfl | exact rfv_rf _) ?_
    refine R.iload_n dX13_isSumRight_31 rfl ?_
    refine R.bipush (v := nI 12) dX13_isSumRight_32 (by decide) ?_
    refine cl_X13_68 rfl rfl (by first | exact Nat.le_of_ble_eq_true rfl | simp [rf_cat, Value.category]) dX13_isSumRight_34 ?_
    refine m_of hL (by have := h.t.le; omega) (by omega) ?_
    rw [(h.d (by have := h.t.le; omega : c < 16)).1]
    refine R.aload_n dX13_isSumRight_37 rfl (by first | rfl | exact rfv_rf _) ?_
    refine R.iload_n dX13_isSumRight_38 rfl ?_
    refine cl_X13_82 rfl rfl (by first | exact Nat.le_of_ble_eq_true rfl | simp [rf_cat, Value.category]) dX13_isSumRight_39 ?_
    refine m_gr (d := d) hL h hG hA (by have := h.t.le; omega) ?_
    refine R.imul dX13_isSumRight_42 ?_
    refine R.aload_n dX13_isSumRight_43 rfl (by first | rfl | exact rfv_rf _) ?_
    refine R.iload_n dX13_isSumRight_44 rfl ?_
    refine R.bipush (v := nI 15) dX13_isSumRight_45 (by decide) ?_
    refine cl_X13_68 rfl rfl (by first | exact Nat.le_of_ble_eq_true rfl | simp [rf_cat, Value.category]) dX13_isSumRight_47 ?_
    refine m_of hL (by have := h.t.le; omega) (by omega) ?_
    rw [(h.d (by have := h.t.le; omega : c < 16)).2.2.2.1]
    refine R.iadd dX13_isSumRight_50 ?_
    refine R.iload_n dX13_isSumRight_51 rfl ?_
    refine R.iadd dX13_isSumRight_52 ?_
    refine R.icmp_ne (tgt := 60) dX13_isSumRight_53 (by decide) (fun c9 => absurd (e53) c9) (fun _ => ?_)
    refine R.iconst (v := 1) dX13_isSumRight_56 rfl ?_
    refine R.goto (tgt := 61) dX13_isSumRight_57 (by decide) ?_
    refine WP.ret (ov := some (.int _)) dX13_isSumRight_61 ⟨rfl, _, rfl, by first | rfl | assumption | exact nar_b01 (by assumption)⟩ ?_
    exact hq
set_option maxHeartbeats 2000000 in
set_option maxRecDepth 4000 in
theorem m_cons {d m b K : Nat} {Y : Yd} {w : Nat → Int32} {M : Mem} {Q : Out → Mem → Prop} (hL : ML M) (h : RW Y m b K w) (hG : LG Y) (hA : Acy Y) (hS : ∀ c, c < m → SQ Y c) (hb5 : yF Y 5 = nI b) (hz : BZ Y m b) (hq : ∀ g, Q (.inl (some (.int (if moF Y 6 0 0 + yT Y 4 - yT Y 5 = yT Y 6 ∧ yT Y 0 = stF Y 16 0 0 + yT Y 1 then 1 else 0)))) (sA (sW (sI M 11 0 7 0) w) 9 g)) : WPc (d + 10) mX13_isConsistent [.ref (rf 11 0)] (sW M w) Q := by
  refine WPc.of (by decide +kernel) (Nat.le_of_ble_eq_true rfl) rfl ?_
  have hm16 := h.t.le
  refine R.aload_n dX13_isConsistent_0 rfl (by first | rfl | exact rfv_rf _) ?_
  refine R.iconst (v := 0) dX13_isConsistent_1 rfl ?_
  refine R.putI dX13_isConsistent_2 fl_X13_65 (fun q hq => by cases hq; exact Or.inl rfl) (by decide) rfl rfl rfl ?_
  refine R.iconst (v := nI 0) dX13_isConsistent_5 rfl ?_
  refine R.istore_n dX13_isConsistent_6 (Nat.le_of_ble_eq_true rfl) (by decide) (by first | rfl | simp [lft, rf_cat]) rfl ?_
  rw [sI_sWf M w 0 7 0 (by decide)]
  have hL : ML (sI M 11 0 7 0) := hL
  generalize sI M 11 0 7 0 = M at hL hq ⊢
  have key : ∀ (f k : Nat), k + f = m → WP mX13_isConsistent (d + 10) 7 [.ref (rf 11 0), .int (nI k)] [] (sW M w) Q := by
    intro f
    induction f with
    | zero =>
      intro k hk
      have ek : k = m := by omega
      subst ek
      by_cases z1 : moF Y 6 0 0 + yT Y 4 - yT Y 5 = yT Y 6
      · by_cases z2 : yT Y 0 = stF Y 16 0 0 + yT Y 1
        · rw [if_pos ⟨z1, z2⟩] at hq
          refine R.iload_n dX13_isConsistent_7 rfl ?_
          refine R.aload_n dX13_isConsistent_8 rfl (by first | rfl | exact rfv_rf _) ?_
          refine R.getS (hL.w) dX13_isConsistent_9 fl_X13_7 (by decide) rfl ?_
          refine R.iconst (v := nI 0) dX13_isConsistent_12 rfl ?_
          refine R.ialdN (k := 0) dX13_isConsistent_13 (by omega) (by show _ < mN M 14 0; rw [hL.n]; omega) ?_
          rw [mI_sWc]
          rw [h.t.z]
          refine R.geT (tgt := 33) (Int32.le_refl _) dX13_isConsistent_14 (by decide) ?_
          refine R.aload_n dX13_isConsistent_33 rfl (by first | rfl | exact rfv_rf _) ?_
          refine cl_X13_425 rfl rfl (by first | exact Nat.le_of_ble_eq_true rfl | simp [rf_cat, Value.category]) dX13_isConsistent_34 ?_
          refine m_wRight (d := d) hL h hG hA (fun g => ?_)
          rw [sA_sW (by omega)]
          have hq := hq g
          rw [sA_sW (by omega)] at hq
          refine R.if_eq (tgt := 96) dX13_isConsistent_37 (by decide) (fun c9 => absurd c9 (by decide)) (fun _ => ?_)
          refine R.aload_n dX13_isConsistent_40 rfl (by first | rfl | exact rfv_rf _) ?_
          refine cl_X13_311 rfl rfl (by first | exact Nat.le_of_ble_eq_true rfl | simp [rf_cat, Value.category]) dX13_isConsistent_41 ?_
          refine m_money (d := d + 8) (M := sA M 9 g) hL h hb5 hz ?_
          refine R.aload_n dX13_isConsistent_44 rfl (by first | rfl | exact rfv_rf _) ?_
          refine R.getS (hL.w) dX13_isConsistent_45 fl_X13_7 (by decide) rfl ?_
          refine R.bipush (v := nI 12) dX13_isConsistent_48 (by decide) ?_
          refine R.ialdN (k := 12) dX13_isConsistent_50 (by omega) (by show _ < mN M 14 0; rw [hL.n]; omega) ?_
          rw [mI_sWc]
          rw [h.h.2.2.2.2.2.2.2.2.2.2.2.1]
          refine R.iadd dX13_isConsistent_51 ?_
          refine R.aload_n dX13_isConsistent_52 rfl (by first | rfl | exact rfv_rf _) ?_
          refine R.getS (hL.w) dX13_isConsistent_53 fl_X13_7 (by decide) rfl ?_
          refine R.bipush (v := nI 13) dX13_isConsistent_56 (by decide) ?_
          refine R.ialdN (k := 13) dX13_isConsistent_58 (by omega) (by show _ < mN M 14 0; rw [hL.n]; omega) ?_
          rw [mI_sWc]
          rw [h.h.2.2.2.2.2.2.2.2.2.2.2.2.1]
          refine R.isub dX13_isConsistent_59 ?_
          refine R.aload_n dX13_isConsistent_60 rfl (by first | rfl | exact rfv_rf _) ?_
          refine R.getS (hL.w) dX13_isConsistent_61 fl_X13_7 (by decide) rfl ?_
          refine R.bipush (v := nI 14) dX13_isConsistent_64 (by decide) ?_
          refine R.ialdN (k := 14) dX13_isConsistent_66 (by omega) (by show _ < mN M 14 0; rw [hL.n]; omega) ?_
          rw [mI_sWc]
          rw [h.h.2.2.2.2.2.2.2.2.2.2.2.2.2]
          refine R.icmp_ne (tgt := 96) dX13_isConsistent_67 (by decide) (fun c9 => absurd (z1) c9) (fun _ => ?_)
          refine R.aload_n dX13_isConsistent_70 rfl (by first | rfl | exact rfv_rf _) ?_
          refine R.getS (hL.w) dX13_isConsistent_71 fl_X13_7 (by decide) rfl ?_
          refine R.bipush (v := nI 8) dX13_isConsistent_74 (by decide) ?_
          refine R.ialdN (k := 8) dX13_isConsistent_76 (by omega) (by show _ < mN M 14 0; rw [hL.n]; omega) ?_
          rw [mI_sWc]
          rw [h.h.2.2.2.2.2.2.2.1]
          refine R.aload_n dX13_isConsistent_77 rfl (by first | rfl | exact rfv_rf _) ?_
          refine cl_X13_428 rfl rfl (by first | exact Nat.le_of_ble_eq_true rfl | simp [rf_cat, Value.category]) dX13_isConsistent_78 ?_
          refine m_stored (d := d + 8) (M := sA M 9 g) hL h hb5 hz ?_
          refine R.aload_n dX13_isConsistent_81 rfl (by first | rfl | exact rfv_rf _) ?_
          refine R.getS (hL.w) dX13_isConsistent_82 fl_X13_7 (by decide) rfl ?_
          refine R.bipush (v := nI 9) dX13_isConsistent_85 (by decide) ?_
          refine R.ialdN (k := 9) dX13_isConsistent_87 (by omega) (by show _ < mN M 14 0; rw [hL.n]; omega) ?_
          rw [mI_sWc]
          rw [h.h.2.2.2.2.2.2.2.2.1]
          refine R.iadd dX13_isConsistent_88 ?_
          refine R.icmp_ne (tgt := 96) dX13_isConsistent_89 (by decide) (fun c9 => absurd (z2) c9) (fun _ => ?_)
          refine R.iconst (v := 1) dX13_isConsistent_92 rfl ?_
          refine R.goto (tgt := 97) dX13_isConsistent_93 (by decide) ?_
          refine WP.ret (ov := some (.int _)) dX13_isConsistent_97 ⟨rfl, _, rfl, by first | rfl | assumption | exact nar_b01 (by assumption)⟩ ?_
          exact hq
        · rw [if_neg (fun q => z2 q.2)] at hq
          refine R.iload_n dX13_isConsistent_7 rfl ?_
          refine R.aload_n dX13_isConsistent_8 rfl (by first | rfl | exact rfv_rf _) ?_
          refine R.getS (hL.w) dX13_isConsistent_9 fl_X13_7 (by decide) rfl ?_
          refine R.iconst (v := nI 0) dX13_isConsistent_12 rfl ?_
          refine R.ialdN (k := 0) dX13_isConsistent_13 (by omega) (by show _ < mN M 14 0; rw [hL.n]; omega) ?_
          rw [mI_sWc]
          rw [h.t.z]
          refine R.geT (tgt := 33) (Int32.le_refl _) dX13_isConsistent_14 (by decide) ?_
          refine R.aload_n dX13_isConsistent_33 rfl (by first | rfl | exact rfv_rf _) ?_
          refine cl_X13_425 rfl rfl (by first | exact Nat.le_of_ble_eq_true rfl | simp [rf_cat, Value.category]) dX13_isConsistent_34 ?_
          refine m_wRight (d := d) hL h hG hA (fun g => ?_)
          rw [sA_sW (by omega)]
          have hq := hq g
          rw [sA_sW (by omega)] at hq
          refine R.if_eq (tgt := 96) dX13_isConsistent_37 (by decide) (fun c9 => absurd c9 (by decide)) (fun _ => ?_)
          refine R.aload_n dX13_isConsistent_40 rfl (by first | rfl | exact rfv_rf _) ?_
          refine cl_X13_311 rfl rfl (by first | exact Nat.le_of_ble_eq_true rfl | simp [rf_cat, Value.category]) dX13_isConsistent_41 ?_
          refine m_money (d := d + 8) (M := sA M 9 g) hL h hb5 hz ?_
          refine R.aload_n dX13_isConsistent_44 rfl (by first | rfl | exact rfv_rf _) ?_
          refine R.getS (hL.w) dX13_isConsistent_45 fl_X13_7 (by decide) rfl ?_
          refine R.bipush (v := nI 12) dX13_isConsistent_48 (by decide) ?_
          refine R.ialdN (k := 12) dX13_isConsistent_50 (by omega) (by show _ < mN M 14 0; rw [hL.n]; omega) ?_
          rw [mI_sWc]
          rw [h.h.2.2.2.2.2.2.2.2.2.2.2.1]
          refine R.iadd dX13_isConsistent_51 ?_
          refine R.aload_n dX13_isConsistent_52 rfl (by first | rfl | exact rfv_rf _) ?_
          refine R.getS (hL.w) dX13_isConsistent_53 fl_X13_7 (by decide) rfl ?_
          refine R.bipush (v := nI 13) dX13_isConsistent_56 (by decide) ?_
          refine R.ialdN (k := 13) dX13_isConsistent_58 (by omega) (by show _ < mN M 14 0; rw [hL.n]; omega) ?_
          rw [mI_sWc]
          rw [h.h.2.2.2.2.2.2.2.2.2.2.2.2.1]
          refine R.isub dX13_isConsistent_59 ?_
          refine R.aload_n dX13_isConsistent_60 rfl (by first | rfl | exact rfv_rf _) ?_
          refine R.getS (hL.w) dX13_isConsistent_61 fl_X13_7 (by decide) rfl ?_
          refine R.bipush (v := nI 14) dX13_isConsistent_64 (by decide) ?_
          refine R.ialdN (k := 14) dX13_isConsistent_66 (by omega) (by show _ < mN M 14 0; rw [hL.n]; omega) ?_
          rw [mI_sWc]
          rw [h.h.2.2.2.2.2.2.2.2.2.2.2.2.2]
          refine R.icmp_ne (tgt := 96) dX13_isConsistent_67 (by decide) (fun c9 => absurd (z1) c9) (fun _ => ?_)
          refine R.aload_n dX13_isConsistent_70 rfl (by first | rfl | exact rfv_rf _) ?_
          refine R.getS (hL.w) dX13_isConsistent_71 fl_X13_7 (by decide) rfl ?_
          refine R.bipush (v := nI 8) dX13_isConsistent_74 (by decide) ?_
          refine R.ialdN (k := 8) dX13_isConsistent_76 (by omega) (by show _ < mN M 14 0; rw [hL.n]; omega) ?_
          rw [mI_sWc]
          rw [h.h.2.2.2.2.2.2.2.1]
          refine R.aload_n dX13_isConsistent_77 rfl (by first | rfl | exact rfv_rf _) ?_
          refine cl_X13_428 rfl rfl (by first | exact Nat.le_of_ble_eq_true rfl | simp [rf_cat, Value.category]) dX13_isConsistent_78 ?_
          refine m_stored (d := d + 8) (M := sA M 9 g) hL h hb5 hz ?_
          refine R.aload_n dX13_isConsistent_81 rfl (by first | rfl | exact rfv_rf _) ?_
          refine R.getS (hL.w) dX13_isConsistent_82 fl_X13_7 (by decide) rfl ?_
          refine R.bipush (v := nI 9) dX13_isConsistent_85 (by decide) ?_
          refine R.ialdN (k := 9) dX13_isConsistent_87 (by omega) (by show _ < mN M 14 0; rw [hL.n]; omega) ?_
          rw [mI_sWc]
          rw [h.h.2.2.2.2.2.2.2.2.1]
          refine R.iadd dX13_isConsistent_88 ?_
          refine R.icmp_ne (tgt := 96) dX13_isConsistent_89 (by decide) (fun _ => ?_) (fun c9 => absurd c9 (z2))
          refine R.iconst (v := 0) dX13_isConsistent_96 rfl ?_
          refine WP.ret (ov := some (.int _)) dX13_isConsistent_97 ⟨rfl, _, rfl, by first | rfl | assumption | exact nar_b01 (by assumption)⟩ ?_
          exact hq
      · rw [if_neg (fun q => z1 q.1)] at hq
        refine R.iload_n dX13_isConsistent_7 rfl ?_
        refine R.aload_n dX13_isConsistent_8 rfl (by first | rfl | exact rfv_rf _) ?_
        refine R.getS (hL.w) dX13_isConsistent_9 fl_X13_7 (by decide) rfl ?_
        refine R.iconst (v := nI 0) dX13_isConsistent_12 rfl ?_
        refine R.ialdN (k := 0) dX13_isConsistent_13 (by omega) (by show _ < mN M 14 0; rw [hL.n]; omega) ?_
        rw [mI_sWc]
        rw [h.t.z]
        refine R.geT (tgt := 33) (Int32.le_refl _) dX13_isConsistent_14 (by decide) ?_
        refine R.aload_n dX13_isConsistent_33 rfl (by first | rfl | exact rfv_rf _) ?_
        refine cl_X13_425 rfl rfl (by first | exact Nat.le_of_ble_eq_true rfl | simp [rf_cat, Value.category]) dX13_isConsistent_34 ?_
        refine m_wRight (d := d) hL h hG hA (fun g => ?_)
        rw [sA_sW (by omega)]
        have hq := hq g
        rw [sA_sW (by omega)] at hq
        refine R.if_eq (tgt := 96) dX13_isConsistent_37 (by decide) (fun c9 => absurd c9 (by decide)) (fun _ => ?_)
        refine R.aload_n dX13_isConsistent_40 rfl (by first | rfl | exact rfv_rf _) ?_
        refine cl_X13_311 rfl rfl (by first | exact Nat.le_of_ble_eq_true rfl | simp [rf_cat, Value.category]) dX13_isConsistent_41 ?_
        refine m_money (d := d + 8) (M := sA M 9 g) hL h hb5 hz ?_
        refine R.aload_n dX13_isConsistent_44 rfl (by first | rfl | exact rfv_rf _) ?_
        refine R.getS (hL.w) dX13_isConsistent_45 fl_X13_7 (by decide) rfl ?_
        refine R.bipush (v := nI 12) dX13_isConsistent_48 (by decide) ?_
        refine R.ialdN (k := 12) dX13_isConsistent_50 (by omega) (by show _ < mN M 14 0; rw [hL.n]; omega) ?_
        rw [mI_sWc]
        rw [h.h.2.2.2.2.2.2.2.2.2.2.2.1]
        refine R.iadd dX13_isConsistent_51 ?_
        refine R.aload_n dX13_isConsistent_52 rfl (by first | rfl | exact rfv_rf _) ?_
        refine R.getS (hL.w) dX13_isConsistent_53 fl_X13_7 (by decide) rfl ?_
        refine R.bipush (v := nI 13) dX13_isConsistent_56 (by decide) ?_
        refine R.ialdN (k := 13) dX13_isConsistent_58 (by omega) (by show _ < mN M 14 0; rw [hL.n]; omega) ?_
        rw [mI_sWc]
        rw [h.h.2.2.2.2.2.2.2.2.2.2.2.2.1]
        refine R.isub dX13_isConsistent_59 ?_
        refine R.aload_n dX13_isConsistent_60 rfl (by first | rfl | exact rfv_rf _) ?_
        refine R.getS (hL.w) dX13_isConsistent_61 fl_X13_7 (by decide) rfl ?_
        refine R.bipush (v := nI 14) dX13_isConsistent_64 (by decide) ?_
        refine R.ialdN (k := 14) dX13_isConsistent_66 (by omega) (by show _ < mN M 14 0; rw [hL.n]; omega) ?_
        rw [mI_sWc]
        rw [h.h.2.2.2.2.2.2.2.2.2.2.2.2.2]
        refine R.icmp_ne (tgt := 96) dX13_isConsistent_67 (by decide) (fun _ => ?_) (fun c9 => absurd c9 (z1))
        refine R.iconst (v := 0) dX13_isConsistent_96 rfl ?_
        refine WP.ret (ov := some (.int _)) dX13_isConsistent_97 ⟨rfl, _, rfl, by first | rfl | assumption | exact nar_b01 (by assumption)⟩ ?_
        exact hq
    | succ f ih =>
      intro k hf
      have hk : k < m := by omega
      refine R.iload_n dX13_isConsistent_7 rfl ?_
      refine R.aload_n dX13_isConsistent_8 rfl (by first | rfl | exact rfv_rf _) ?_
      refine R.getS (hL.w) dX13_isConsistent_9 fl_X13_7 (by decide) rfl ?_
      refine R.iconst (v := nI 0) dX13_isConsistent_12 rfl ?_
      refine R.ialdN (k := 0) dX13_isConsistent_13 (by omega) (by show _ < mN M 14 0; rw [hL.n]; omega) ?_
      rw [mI_sWc]
      rw [h.t.z]
      refine R.geF (tgt := 33) (nI_ge (show k < m by omega) (by omega)) dX13_isConsistent_14 (by decide) ?_
      refine R.aload_n dX13_isConsistent_17 rfl (by first | rfl | exact rfv_rf _) ?_
      refine R.iload_n dX13_isConsistent_18 rfl ?_
      refine cl_X13_422 rfl rfl (by first | exact Nat.le_of_ble_eq_true rfl | simp [rf_cat, Value.category]) dX13_isConsistent_19 ?_
      refine m_sumR (d := d) hL h hk hG hA (hS k hk) ?_
      refine R.if_ne (tgt := 27) dX13_isConsistent_22 (by decide) (fun _ => ?_) (fun c9 => absurd c9 (by decide))
      refine R.iinc dX13_isConsistent_27 (Nat.le_of_ble_eq_true rfl) (by decide) (by first | rfl | simp [lft, rf_cat]) rfl (inc_nI _) rfl ?_
      refine R.goto (tgt := 7) dX13_isConsistent_30 (by decide) ?_
      exact ih (k + 1) (by omega)
  exact key m 0 (by omega)
