/-! the law's beginning: the two objects, the two arrays -/
def inW (k _i : Nat) : Prop := k = 11 ∨ k = 14 ∨ k = 15 ∨ k = 16
theorem CSt.fw {M M' : Mem} {S : KS} {p : Nat} (h : CSt M S p) (F : FC inW M M') (h13 : mC M' 13 = mC M 13) : CSt M' S p := by
  obtain ⟨a1, a2, ⟨Z2, a3, a3'⟩, ⟨Z, a4⟩, ⟨b1, b2, b3, b4, b5, b6, b7⟩, a6, a7, a8, cap, ⟨v, g1, g2, g3, g4, g5, g6⟩, g7, g8, g9⟩ := h
  have nY : ∀ y k i, inY y k i → ¬ inW k i := fun y k i z z2 => by unfold inY at z; unfold inW at z2; omega
  have e10 := F 10 0 (by unfold inW; omega)
  have e2 := F 2 0 (by unfold inW; omega)
  have e20 := F 20 0 (by unfold inW; omega)
  have e5 := F 5 0 (by unfold inW; omega)
  have e4 := F 4 0 (by unfold inW; omega)
  have e19 := F 19 0 (by unfold inW; omega)
  have e7 := F 7 0 (by unfold inW; omega)
  have e12 := F 12 0 (by unfold inW; omega)
  have e13 := F 13 0 (by unfold inW; omega)
  have e13v := F 13 v (by unfold inW; omega)
  have fY : ∀ {y : Nat} {Y : Yd}, Yv M y Y → Yv M' y Y := fun q => q.fc F (nY _)
  refine ⟨?_, fY a2, ⟨Z2, fY a3, ?_⟩, ⟨Z, fY a4⟩, ⟨?_, ?_, ?_, b4, b5, fun j hj => ?_, fun i Z9 hi => fY (b7 i Z9 hi)⟩, ?_, ?_, ?_, cap, ⟨v, ?_, g2, ?_, ?_, fun i x hx => ?_, fun j hj => ?_⟩, ?_, ?_, g9⟩
  · unfold CLay at a1 ⊢
    rw [e10.2.2.1]
    exact a1
  · rw [e10.1]
    exact a3'
  · unfold HLay at b1 ⊢
    rw [e2.2.2.1, e20.2.2.1, e20.2.2.2.2]
    exact b1
  · rw [e2.1]; exact b2
  · rw [e2.1]; exact b3
  · obtain ⟨Y, hY⟩ := b6 j hj
    exact ⟨Y, fY hY⟩
  · unfold LSe at a6 ⊢
    rw [e5.2.2.1]
    exact a6
  · unfold SLay at a7 ⊢
    rw [e4.2.2.1, e19.2.2.1, e19.2.2.2.2]
    exact a7
  · unfold Tz at a8 ⊢
    rw [e7.2.2.1, e7.1, e13.1, e13.2.2.2.2]
    exact a8
  · rw [e12.2.2.1]; exact g1
  · rw [h13]; exact g3
  · rw [e13v.2.2.2.2]; exact g4
  · rw [e13v.1]; exact g5 i x hx
  · rw [e13v.1]; exact g6 j hj
  · rw [e12.1]; exact g7
  · rw [e12.1]; exact g8
theorem MSt.al9 {M : Mem} {S : KS} {T k n s : Nat} (h : MSt M S T) (hk : k = 15 ∨ k = 16) : MSt (al M k n s) S T := by
  refine h.fr ?_ ?_ (fun i _ => ?_) (fun f _ => ?_)
  · funext f
    rw [mR_al, if_neg (by omega)]
  · funext i
    rw [mN_al, if_neg (by omega)]
  · funext x
    rw [mI_al, if_neg (by omega)]
  · rw [mI_al, if_neg (by omega)]
def Mz (L : Nat) (xs : Nat → Int32) : Mem := (fun k _ f => if k = 27 then xs f else 0, fun _ _ _ => 0, fun _ _ _ => none, fun _ _ _ => 0, fun k _ => if k = 27 then L else 0, fun _ => 0, 0, 0)
set_option maxHeartbeats 4000000 in
set_option maxRecDepth 8000 in
theorem law_start {d L : Nat} {xs : Nat → Int32} {Q : Out → Mem → Prop} (hL : L ≤ 3072) (hq : ∀ M', mK M' ≤ 601024 → mS M' ≤ 7293034 → Q (.inl (some (.int 1))) M') : WP mL_law (d + 22) 0 [.ref (rf 27 0), UN, UN, UN, UN, UN, UN, UN, UN, UN] [] (Mz L xs) Q := by
  refine R.new (k := 10) rfl (gt_i 37 (by decide +kernel) rfl) mk_10 iz_10 dL_law_0 ?_
  rw [show mC (Mz L xs) 10 = 0 from rfl]
  refine R.dup dL_law_3 (by first | rfl | exact rf_cat _) ?_
  refine cl_L_136 rfl rfl (by first | exact Nat.le_of_ble_eq_true rfl | simp [rf_cat, Value.category]) dL_law_4 ?_
  refine WPc.mono (c_init (Q := fun o M1 => o = .inl none ∧ CSt M1 (zq11, none, [], tx0, 0, 0, -1, []) 0 ∧ (∀ k, inK k → mC M1 k = 0) ∧ mK M1 ≤ 1001 ∧ mS M1 ≤ 6011) ⟨rfl, rfl, rfl, rfl, rfl, rfl, rfl⟩ rfl rfl rfl rfl rfl rfl rfl rfl rfl rfl eq0 (fun M1 c1 k1 b1 z1 => ⟨rfl, c1, fun k hk => ?_, b1, z1⟩)) (fun o9 M1 hm ho => ?_)
  · rw [k1 k hk]
    unfold inK at hk
    rw [mC_al, if_neg (by omega)]
    rfl
  · obtain ⟨rfl, c1, k1, b1, z1⟩ := ho
    show WP _ _ _ _ _ _ _
    have n1 : mN M1 27 0 = L := hm.2.2.2.1
    have k11 : mC M1 11 = 0 := k1 11 (Or.inl rfl)
    have k14 : mC M1 14 = 0 := k1 14 (Or.inr (Or.inl rfl))
    have k15 : mC M1 15 = 0 := k1 15 (Or.inr (Or.inr (Or.inl rfl)))
    have k16 : mC M1 16 = 0 := k1 16 (Or.inr (Or.inr (Or.inr rfl)))
    refine R.astore_n dL_law_7 (by first | rfl | exact rfv_rf _) (Nat.le_of_ble_eq_true rfl) (by decide) (by first | rfl | simp [lft, rf_cat]) rfl ?_
    refine R.new (k := 11) rfl (gt_i 1777 (by decide +kernel) rfl) mk_11 iz_11 dL_law_8 ?_
    rw [k11]
    refine R.dup dL_law_11 (by first | rfl | exact rf_cat _) ?_
    refine cl_L_139 rfl rfl (by first | exact Nat.le_of_ble_eq_true rfl | simp [rf_cat, Value.category]) dL_law_12 ?_
    have F1 : FC inW M1 (al M1 11 0 26) := (FC.rf inW M1).al (Or.inl rfl)
    refine WPc.mono (n_init (Q := fun o M2 => o = .inl none ∧ MSt M2 kS0 16 ∧ FC inM (al M1 11 0 26) M2 ∧ (∀ k, k ≠ 14 → mC M2 k = mC (al M1 11 0 26) k) ∧ mK M2 ≤ mK (al M1 11 0 26) + 11 ∧ mS M2 ≤ mS (al M1 11 0 26) + 6000) ?_ ?_ (fun M2 s2 f2 k2 b2 z2 => ⟨rfl, s2, f2, k2, b2, z2⟩)) (fun o9 M2 hm2 ho => ?_)
    · rw [mC_al, if_neg (by decide)]
      exact k14
    · intro f
      rw [mI_al, if_pos ⟨rfl, k11.symm⟩]
    · obtain ⟨rfl, s2, f2, k2, b2, z2⟩ := ho
      show WP _ _ _ _ _ _ _
      have c2 : CSt M2 (zq11, none, [], tx0, 0, 0, -1, []) 0 := c1.fw (F1.tr (f2.mo (fun k i z => by unfold inM at z; unfold inW; omega))) (by rw [k2 13 (by decide), mC_al, if_neg (by decide)])
      have c15 : mC M2 15 = 0 := by rw [k2 15 (by decide), mC_al, if_neg (by decide)]; exact k15
      have c16 : mC M2 16 = 0 := by rw [k2 16 (by decide), mC_al, if_neg (by decide)]; exact k16
      have n2 : mN M2 27 0 = L := hm2.2.2.2.1.trans n1
      rw [mK_al] at b2
      rw [mS_al] at z2
      refine R.astore_n dL_law_15 (by first | rfl | exact rfv_rf _) (Nat.le_of_ble_eq_true rfl) (by decide) (by first | rfl | simp [lft, rf_cat]) rfl ?_
      refine R.iconst (v := 1) dL_law_16 rfl ?_
      refine R.newarr (k := 15) (N := 1) (by decide) (by decide) rfl (gt_i 2513 (by decide +kernel) rfl) (by decide) (by decide) (by decide) dL_law_17 ?_
      rw [c15]
      refine R.astore_n dL_law_19 (by first | rfl | exact rfv_rf _) (Nat.le_of_ble_eq_true rfl) (by decide) (by first | rfl | simp [lft, rf_cat]) rfl ?_
      refine R.iconst (v := 1) dL_law_20 rfl ?_
      refine R.newarr (k := 16) (N := 1) (by decide) (by decide) rfl (gt_i 2514 (by decide +kernel) rfl) (by decide) (by decide) (by decide) dL_law_21 ?_
      rw [show mC (al M2 15 1 1) 16 = 0 by rw [mC_al, if_neg (by decide)]; exact c16]
      refine R.astore dL_law_23 (by first | rfl | exact rfv_rf _) (Nat.le_of_ble_eq_true rfl) (by decide) (by first | rfl | simp [lft, rf_cat]) rfl ?_
      refine R.iconst (v := nI (6 * 0)) dL_law_25 rfl ?_
      refine R.istore dL_law_26 (Nat.le_of_ble_eq_true rfl) (by decide) (by first | rfl | simp [lft, rf_cat]) rfl ?_
      have F3 : FC inW M2 (al (al M2 15 1 1) 16 1 1) := ((FC.rf inW M2).al (Or.inr (Or.inr (Or.inl rfl)))).al (Or.inr (Or.inr (Or.inr rfl)))
      have n3 : mN (al (al M2 15 1 1) 16 1 1) 27 0 = L := by rw [mN_al, if_neg (by omega), mN_al, if_neg (by omega)]; exact n2
      refine law_loop (M0 := al (al M2 15 1 1) 16 1 1) n3 hL (fun M' S p T n hn h => hq M' ?_ ?_) 513 0 _ kS0 0 16 _ _ _ _ ⟨c2.fw F3 ?_, (s2.al9 (Or.inl rfl)).al9 (Or.inr rfl), ⟨?_, ?_⟩, ⟨rfl, rfl⟩, ⟨Nat.le_refl _, by decide, Nat.le_refl _⟩, Nat.le_refl _, Nat.le_refl _⟩ (Nat.zero_le _) (by omega)
      · have h6 := h.2.2.2.2.2.1
        rw [mK_al, mK_al] at h6
        have h7 : 601 * n ≤ 601 * 512 := Nat.mul_le_mul_left _ hn
        have h8 : 601 * 512 = 307712 := by decide
        omega
      · have h6 := h.2.2.2.2.2.2
        rw [mS_al, mS_al] at h6
        have h7 : 1206 * n ≤ 1206 * 512 := Nat.mul_le_mul_left _ hn
        have h8 : 1206 * 512 = 617472 := by decide
        omega
      · rw [mC_al, if_neg (by decide), mC_al, if_neg (by decide)]
      · rw [mN_al, if_neg (by omega), mN_al, if_pos ⟨rfl, c15.symm⟩]
      · rw [mN_al, if_pos ⟨rfl, by rw [mC_al, if_neg (by decide)]; exact c16.symm⟩]
