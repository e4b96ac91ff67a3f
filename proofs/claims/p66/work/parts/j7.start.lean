/-! the law's beginning -/
theorem eq0s : suP (kB S00) (kN S00) 600 0 blY = .inr (160, zq11) := by
  show suP tx0 nx0 600 0 blY = .inr (160, zq11)
  show suP tx0 nx0 600 0 zq0 = _
  rw [show suP tx0 nx0 (600) 0 zq0 = suP tx0 nx0 (599 + 1) 0 zq0 from rfl, su_s (by decide +kernel) sq0]
  rw [show suP tx0 nx0 (599) 17 zq1 = suP tx0 nx0 (598 + 1) 17 zq1 from rfl, su_s (by decide +kernel) sq1]
  rw [show suP tx0 nx0 (598) 42 zq2 = suP tx0 nx0 (597 + 1) 42 zq2 from rfl, su_s (by decide +kernel) sq2]
  rw [show suP tx0 nx0 (597) 57 zq3 = suP tx0 nx0 (596 + 1) 57 zq3 from rfl, su_s (by decide +kernel) sq3]
  rw [show suP tx0 nx0 (596) 79 zq4 = suP tx0 nx0 (595 + 1) 79 zq4 from rfl, su_s (by decide +kernel) sq4]
  rw [show suP tx0 nx0 (595) 98 zq5 = suP tx0 nx0 (594 + 1) 98 zq5 from rfl, su_s (by decide +kernel) sq5]
  rw [show suP tx0 nx0 (594) 116 zq6 = suP tx0 nx0 (593 + 1) 116 zq6 from rfl, su_s (by decide +kernel) sq6]
  rw [show suP tx0 nx0 (593) 124 zq7 = suP tx0 nx0 (592 + 1) 124 zq7 from rfl, su_s (by decide +kernel) sq7]
  rw [show suP tx0 nx0 (592) 131 zq8 = suP tx0 nx0 (591 + 1) 131 zq8 from rfl, su_s (by decide +kernel) sq8]
  rw [show suP tx0 nx0 (591) 140 zq9 = suP tx0 nx0 (590 + 1) 140 zq9 from rfl, su_s (by decide +kernel) sq9]
  rw [show suP tx0 nx0 (590) 151 zq10 = suP tx0 nx0 (589 + 1) 151 zq10 from rfl, su_s (by decide +kernel) sq10]
  rw [show suP tx0 nx0 589 160 zq11 = suP tx0 nx0 (588 + 1) 160 zq11 from rfl, suP, if_pos (by decide +kernel)]
  unfold finS
  rw [if_pos (by decide +kernel)]
  rw [show tS tx0 nx0 160 = 160 by decide +kernel]
set_option maxHeartbeats 1000000 in
set_option maxRecDepth 8000 in
theorem t_sbInit5 {d : Nat} {M : Mem} {Q : Out → Mem → Prop} (hq : Q (.inl none) (sI (sR (al M 13 16 16) 12 1 0 (some (rf 13 (mC M 13)))) 12 1 1 0)) : WPc (d + 2) mJ5_init_d00df [.ref (rf 12 1), .int 16] M Q := by
  refine WPc.of (by decide +kernel) (Nat.le_of_ble_eq_true rfl) rfl ?_
  refine R.aload_n dJ5_init_d00df_0 rfl (by first | rfl | exact rfv_rf _) ?_
  refine R.objInit (by decide) oi_J5_3 oi_in oi_co (by omega) (by first | exact Nat.le_of_ble_eq_true rfl | simp [rf_cat, Value.category]) dJ5_init_d00df_1 ?_
  refine R.gsCompact (gt_i 391 (by decide +kernel) rfl) dJ5_init_d00df_4 ?_
  refine R.if_eq (tgt := 25) dJ5_init_d00df_7 (by decide) (fun c => absurd c (by decide)) (fun _ => ?_)
  refine R.aload_n dJ5_init_d00df_10 rfl (by first | rfl | exact rfv_rf _) ?_
  refine R.iload_n dJ5_init_d00df_11 rfl ?_
  refine R.newarr (k := 13) (N := 16) (by decide) (by decide) rfl (by decide +kernel) (by decide) (by decide) (by decide) dJ5_init_d00df_12 ?_
  refine R.putA dJ5_init_d00df_14 fl_J5_15 (fun q hq => by cases hq; exact Or.inl rfl) rfl ?_
  refine R.aload_n dJ5_init_d00df_17 rfl (by first | rfl | exact rfv_rf _) ?_
  refine R.iconst (v := 0) dJ5_init_d00df_18 rfl ?_
  refine R.putI dJ5_init_d00df_19 fl_J5_22 (fun q hq => by cases hq; exact Or.inl rfl) (by decide) rfl (by first | rfl | assumption) (by first | rfl | assumption) ?_
  refine R.goto (tgt := 38) dJ5_init_d00df_22 (by decide) ?_
  refine WP.ret (ov := none) dJ5_init_d00df_38 ⟨rfl, rfl⟩ ?_
  exact hq
set_option maxHeartbeats 1000000 in
set_option maxRecDepth 8000 in
theorem t_sbInit {d : Nat} {M : Mem} {Q : Out → Mem → Prop} (hq : Q (.inl none) (sI (sR (al M 13 16 16) 12 1 0 (some (rf 13 (mC M 13)))) 12 1 1 0)) : WPc (d + 3) mJ4_init_da8c8 [.ref (rf 12 1)] M Q := by
  refine WPc.of (by decide +kernel) (Nat.le_of_ble_eq_true rfl) rfl ?_
  refine R.aload_n dJ4_init_da8c8_0 rfl (by first | rfl | exact rfv_rf _) ?_
  refine R.bipush (v := 16) dJ4_init_da8c8_1 (by decide) ?_
  refine cl_J4_1 rfl rfl (by first | exact Nat.le_of_ble_eq_true rfl | simp [rf_cat, Value.category]) dJ4_init_da8c8_3 ?_
  refine t_sbInit5 ?_
  refine WP.ret (ov := none) dJ4_init_da8c8_6 ⟨rfl, rfl⟩ ?_
  exact hq
set_option maxHeartbeats 4000000 in
set_option maxRecDepth 8000 in
theorem lw_body {d c0 n : Nat} {x3 : Int32} {v7 v8 v9 : Value} {M0 M : Mem} {S0 : KS} {Q : Out → Mem → Prop} (n2 : 2 ≤ n) (n9 : n ≤ 9) (hm : mN M0 27 0 < 2 ^ 31) (h0 : mC M0 13 = c0) (hC : CSt M0 S0 0) (hN : kN S0 = 0) (hR : RI c0 M0 0 M 16 [] blY emW) (hq : ∀ M', mK M' ≤ mK M0 + 65000 → mS M' ≤ mS M0 + 180000 → Q (.inl (some (.int 1))) M') : WP mL_law (d + 23) 44 [.ref (rf 27 0), .ref (rf 10 0), .ref (rf 32 0), .int x3, .ref (rf 12 1), .int (nI n), .int (nI 0), v7, v8, v9] [] M Q := by
  refine lw_crates n9 hm (fun M1 cap O Y W w7 w8 w9 h => ?_) n 0 16 M [] blY emW _ _ _ (Nat.zero_add _) hR
  obtain ⟨hW, hk, h11, h33, hS, hF, h13, h36, hX, hP, hPl, hl, hz, bK, bS⟩ := h
  have m1 : mN M1 27 0 < 2 ^ 31 := by rw [(hF 27 0 (by unfold inQ inK; omega)).2.2.2.2]; exact hm
  rw [← hk] at hP bK bS hl n2 ⊢
  refine lw_num hW m1 hS (fun M5 mo tol tr am ag sd l1 l2 l3 l4 l5 l6 l7 hW5 hS5 hF5 hC5 hK5 hZ5 => ?_)
  obtain ⟨y7, y8, y9, y2, y3, y1, -⟩ := numW_Y W mo tol tr am ag sd
  have yi : ∀ f, 1 ≤ f → mI M5 32 0 f = wYs (numW W mo tol tr am ag sd) f := fun f hf => hW5.2.2.1 f hf
  have hN9 : wN W ≤ 9 := hX.2.2.2.2.2.2.1
  refine lw_ft hS5 ((yi 7 (by decide)).trans y7) ((yi 8 (by decide)).trans y8) ((yi 9 (by decide)).trans y9) ((yi 2 (by decide)).trans y2) ((yi 3 (by decide)).trans y3) ((yi 1 (by decide)).trans y1) (by omega) (by omega) (by omega) (by omega) (by omega) (by omega) (by omega) (fun M6 cap6 hS6 F6 G6 => ?_)
  have a1 := dgS_len (v := mo) (by omega)
  have a2 := dgS_len (v := tol) (by omega)
  have a3 := dgS_len (v := tr) (by omega)
  have a4 := dgS_len (v := am) (by omega)
  have a5 := dgS_len (v := ag) (by omega)
  have a6 := dgS_len (v := sd) (by omega)
  have b1 := szF_b mo
  have b2 := szF_b tol
  have b3 := szF_b tr
  have b4 := szF_b am
  have b5 := szF_b ag
  have b6 := szF_b sd
  obtain ⟨g1, g2, g3⟩ := G6
  have c6 : cap6 ≤ 600 := hS6.2.2.2.2
  have f13 := F6.2.2
  have e13 : mC M5 13 = mC M1 13 := by rw [hC5]
  refine lw_rest (c0 := c0) (M0 := M0) (S0 := S0) (O := O) (Y := Y) (W := W) (mo := mo) (tol := tol) (tr := tr) (am := am) (ag := ag) (sd := sd) ?_ l1 l2 l3 l4 l5 l6 l7 n2 (hW5.gr F6.gr) hS6 ((hF.tr hF5).tr F6.fc) (by omega) (by omega) hC hN hX hP ?_ ?_ hz hm (fun M' z1 z2 => hq M' (by omega) (by omega))
  · unfold ftT
    simp only [List.append_assoc, List.cons_append, List.nil_append]
  · exact ((((((((((((hPl.ap (Pl_s (by decide))).ap (Pl_d (by omega))).ap (Pl_c (by decide))).ap (Pl_d (by omega))).ap (Pl_c (by decide))).ap (Pl_d (by omega))).ap (Pl_s (by decide))).ap (Pl_d (by omega))).ap (Pl_s (by decide))).ap (Pl_d (by omega))).ap (Pl_s (by decide))).ap (Pl_d (by omega))).ap (Pl_c (by decide))
  · simp only [List.length_append, List.length_cons, List.length_nil, sBy_len, sl19, sl20, sl21, sl22, a1, a2, a3, a4, a5, a6]
    omega
def Mz (L : Nat) (xs : Nat → Int32) : Mem := (fun k _ f => if k = 27 then xs f else 0, fun _ _ _ => 0, fun _ _ _ => none, fun _ _ _ => 0, fun k _ => if k = 27 then L else 0, fun _ => 0, 0, 0)
/-- the law's yard, empty -/
def ydM (M : Mem) : Mem := sR (mkL (al M 32 0 12)) 32 0 0 (some (rf 33 (mC (al M 32 0 12) 33)))
section YDM
variable {M : Mem}
theorem yd_C (k : Nat) : mC (ydM M) k = if k = 33 then mC M 33 + 1 else if k = 32 then mC M 32 + 1 else mC M k := by
  show mC (mkL (al M 32 0 12)) k = _
  rw [mkL_C, mC_al, mC_al, if_neg (show ¬ ((33 : Nat) = 32) by decide)]
theorem yd_K : mK (ydM M) = mK M + 2 := rfl
theorem yd_S : mS (ydM M) = mS M + 15 := rfl
theorem yd_FC {c : Nat} : FC (inQ c) M (ydM M) := by
  have t : ∀ k i, k = 32 ∨ k = 33 → inQ c k i := fun k i h => Or.inl (by unfold inK; omega)
  exact (((((FC.rf _ _).al (t _ _ (by omega))).al (t _ _ (by omega))).sI (t _ _ (by omega))).sR (t _ _ (by omega))).sR (t _ _ (by omega))
theorem yd_LM (h32 : mC M 32 = 0) (h33 : mC M 33 = 0) : LM (ydM M) emW := by
  have e33 : mC (al M 32 0 12) 33 = 0 := by rw [mC_al, if_neg (by decide)]; exact h33
  refine ⟨Nat.zero_le _, ?_, fun f hf => ?_, Ls.nw ?_ ?_ ?_, fun k hk => absurd hk (Nat.not_lt_zero k), fun i j e _ _ hi _ => by cases hi⟩
  · unfold ydM
    rw [mR_sR, if_pos ⟨rfl, rfl, rfl⟩, e33]
  · show mI (mkL (al M 32 0 12)) 32 0 f = 0
    rw [mkL_I, if_neg (by omega), mI_al, if_pos ⟨rfl, h32.symm⟩]
  · rw [yd_C, if_pos rfl]; omega
  · show mI (mkL (al M 32 0 12)) 33 0 2 = 0
    rw [mkL_I, if_pos ⟨rfl, e33.symm⟩]
  · unfold ydM
    rw [mR_sR, if_neg (by omega), mkL_R, if_pos ⟨rfl, e33.symm⟩, if_pos rfl]
end YDM
set_option maxHeartbeats 4000000 in
set_option maxRecDepth 8000 in
theorem law_start {d L : Nat} {xs : Nat → Int32} {Q : Out → Mem → Prop} (hL : L < 2 ^ 31) (hq : ∀ M', mK M' ≤ 70000 → mS M' ≤ 200000 → Q (.inl (some (.int 1))) M') : WP mL_law (d + 23) 0 [.ref (rf 27 0), UN, UN, UN, UN, UN, UN, UN, UN, UN] [] (Mz L xs) Q := by
  refine R.new (k := 10) rfl cw_L_18 mk_10 iz_10 dL_law_0 ?_
  rw [show mC (Mz L xs) 10 = 0 from rfl]
  refine R.dup dL_law_3 (by first | rfl | exact rf_cat _) ?_
  refine cl_L_255 rfl rfl (by first | exact Nat.le_of_ble_eq_true rfl | simp [rf_cat, Value.category]) dL_law_4 ?_
  refine WPc.mono (c_init2 (Q := fun o M1 => o = .inl none ∧ CSt M1 (zq11, none, [], tx0, 0, 0, -1, []) 0 ∧ (∀ k, inK k → mC M1 k = 0) ∧ mC M1 12 = 1 ∧ mK M1 ≤ 1001 ∧ mS M1 ≤ 6011) ⟨rfl, rfl, rfl, rfl, rfl, rfl, rfl⟩ rfl rfl rfl rfl rfl rfl rfl rfl rfl rfl eq0s (fun M1 c1 k1 e12 b1 z1 => ⟨rfl, c1, fun k hk => ?_, e12, b1, z1⟩)) (fun o9 M1 hm ho => ?_)
  · rw [k1 k hk]
    unfold inK at hk
    rw [mC_al, if_neg (by omega)]
    rfl
  obtain ⟨rfl, c1, k1, e12, b1, z1⟩ := ho
  show WP _ _ _ _ _ _ _
  have n1 : mN M1 27 0 = L := hm.2.2.2.1
  have k32 : mC M1 32 = 0 := k1 32 (by unfold inK; omega)
  have k33 : mC M1 33 = 0 := k1 33 (by unfold inK; omega)
  have k11 : mC M1 11 = 0 := k1 11 (by unfold inK; omega)
  have d12 : mC (ydM M1) 12 = 1 := by rw [yd_C, if_neg (by decide), if_neg (by decide)]; exact e12
  have d13 : mC (ydM M1) 13 = mC M1 13 := by rw [yd_C, if_neg (by decide), if_neg (by decide)]
  have d11 : mC (ydM M1) 11 = 0 := by rw [yd_C, if_neg (by decide), if_neg (by decide)]; exact k11
  have d33 : mC (ydM M1) 33 = 1 := by rw [yd_C, if_pos rfl, k33]
  have dK : mK (ydM M1) = mK M1 + 2 := yd_K
  have dS : mS (ydM M1) = mS M1 + 15 := yd_S
  have dN : mN (ydM M1) 27 0 < 2 ^ 31 := by rw [((yd_FC (M := M1) (c := 0)) 27 0 (by unfold inQ inK; omega)).2.2.2.2, n1]; exact hL
  have hF2 : FC (inQ (mC M1 13)) M1 (ydM M1) := yd_FC
  have hW2 : LM (ydM M1) emW := yd_LM k32 k33
  refine R.astore_n dL_law_7 (by first | rfl | exact rfv_rf _) (Nat.le_of_ble_eq_true rfl) (by decide) (by first | rfl | simp [lft, rf_cat]) rfl ?_
  refine R.new (k := 32) rfl cw_L_31 mk_32 iz_32 dL_law_8 ?_
  rw [k32]
  refine R.dup dL_law_11 (by first | rfl | exact rf_cat _) ?_
  refine cl_L_256 rfl rfl (by first | exact Nat.le_of_ble_eq_true rfl | simp [rf_cat, Value.category]) dL_law_12 ?_
  refine s_ydInit ?_
  skip
  rw [show sR (mkL (al M1 32 0 12)) 32 0 0 (some (rf 33 (mC (al M1 32 0 12) 33))) = ydM M1 from rfl]
  generalize ydM M1 = M2 at *
  refine R.astore_n dL_law_15 (by first | rfl | exact rfv_rf _) (Nat.le_of_ble_eq_true rfl) (by decide) (by first | rfl | simp [lft, rf_cat]) rfl ?_
  refine R.aload_n dL_law_16 rfl (by first | rfl | exact rfv_rf _) ?_
  refine R.iconst (v := nI 0) dL_law_17 rfl ?_
  refine cl_L_257 rfl rfl (by first | exact Nat.le_of_ble_eq_true rfl | simp [rf_cat, Value.category]) dL_law_18 ?_
  refine s_cell (by omega) dN (fun x3 => ?_)
  refine R.istore_n dL_law_21 (Nat.le_of_ble_eq_true rfl) (by decide) (by first | rfl | simp [lft, rf_cat]) rfl ?_
  skip
  obtain ⟨n0, hn0, en0⟩ := bi_in x3 0 (b := 3) (n := 3) (by decide) (by decide)
  refine R.new (k := 12) rfl cw_L_261 mk_12 iz_12 dL_law_22 ?_
  rw [d12]
  refine R.dup dL_law_25 (by first | rfl | exact rf_cat _) ?_
  refine cl_L_263 rfl rfl (by first | exact Nat.le_of_ble_eq_true rfl | simp [rf_cat, Value.category]) dL_law_26 ?_
  refine t_sbInit ?_
  refine R.astore dL_law_29 (by first | rfl | exact rfv_rf _) (Nat.le_of_ble_eq_true rfl) (by decide) (by first | rfl | simp [lft, rf_cat]) rfl ?_
  refine R.iconst (v := nI 2) dL_law_31 rfl ?_
  refine R.iload_n dL_law_32 rfl ?_
  refine R.iconst (v := 0) dL_law_33 rfl ?_
  refine R.iconst (v := 3) dL_law_34 rfl ?_
  refine cl_L_181 rfl rfl (by first | exact Nat.le_of_ble_eq_true rfl | simp [rf_cat, Value.category]) dL_law_35 ?_
  refine s_bits ?_
  rw [en0]
  refine R.iadd dL_law_38 ?_
  rw [nI_add]
  refine R.istore dL_law_39 (Nat.le_of_ble_eq_true rfl) (by decide) (by first | rfl | simp [lft, rf_cat]) rfl ?_
  refine R.iconst (v := nI 0) dL_law_41 rfl ?_
  refine R.istore dL_law_42 (Nat.le_of_ble_eq_true rfl) (by decide) (by first | rfl | simp [lft, rf_cat]) rfl ?_
  skip
  obtain ⟨M3, hM3⟩ : ∃ M3, M3 = al M2 12 0 4 := ⟨_, rfl⟩
  rw [← hM3]
  have C3 : ∀ k, mC M3 k = if k = 12 then mC M2 12 + 1 else mC M2 k := fun k => by rw [hM3, mC_al]
  have f13 : mC M3 13 = mC M1 13 := by rw [C3, if_neg (by decide), d13]
  have F3 : FC (inQ (mC M1 13)) M2 M3 := by rw [hM3]; exact (FC.rf _ _).al (Or.inr (Or.inl ⟨rfl, by omega⟩))
  have hC3 : CSt M3 (zq11, none, [], tx0, 0, 0, -1, []) 0 := c1.fq (hF2.tr F3) (Nat.le_refl _) (by omega)
  have hW3 : LM M3 emW := by
    refine hW2.gr ⟨fun k i hk _ _ => ?_, fun k hk => ?_⟩
    · exact (by rw [hM3]; exact (FC.rf (fun k _ => k = 12) M2).al rfl : FC (fun k _ => k = 12) M2 M3) k i (by unfold inL at hk; omega)
    · rw [C3, if_neg (by unfold inL at hk; omega)]; exact Nat.le_refl _
  have m3 : mN M3 27 0 < 2 ^ 31 := by rw [(F3 27 0 (by unfold inQ inK; omega)).2.2.2.2]; exact dN
  have i3 : mI M3 12 1 3 = 0 := by rw [hM3, mI_al, if_pos ⟨rfl, d12.symm⟩]
  have K3 : mK M3 = mK M2 + 1 := by rw [hM3]; rfl
  have S3 : mS M3 = mS M2 + 4 := by rw [hM3]; rfl
  have e11 : mC M3 11 = 0 := by rw [C3, if_neg (by decide)]; exact d11
  have e33 : mC M3 33 = 1 := by rw [C3, if_neg (by decide)]; exact d33
  refine lw_body (c0 := mC M1 13) (M0 := M3) (by omega) (by omega) m3 f13 hC3 rfl ⟨?_, rfl, ?_, ?_, ?_, ?_, ?_, ?_, PX.bl, fun b n f _ _ => rfl, fun x hx => (by cases hx), Nat.zero_le _, fun _ => rfl, ?_, ?_⟩ (fun M' w1 w2 => hq M' (by omega) (by omega))
  · refine hW3.gr ⟨fun k i hk _ _ => ?_, fun k hk => ?_⟩
    · exact ((((FC.rf (fun k _ => k = 12 ∨ k = 13) M3).al (k := 13) (Or.inr rfl)).sR (Or.inl rfl)).sI (Or.inl rfl)) k i (by unfold inL at hk; omega)
    · show mC M3 k ≤ mC (al M3 13 16 16) k
      rw [mC_al, if_neg (by unfold inL at hk; omega)]; exact Nat.le_refl _
  · show mC (al M3 13 16 16) 11 = 0
    rw [mC_al, if_neg (by decide)]; exact e11
  · show mC (al M3 13 16 16) 33 = 1 + 2 * 0
    rw [mC_al, if_neg (by decide)]; exact e33
  · refine ⟨⟨mC M3 13, ?_, by omega, ?_, ?_, fun i x hx => (by cases hx), fun j hj => ?_⟩, ?_, ?_, Nat.zero_le _, by decide⟩
    · show mR (sR (al M3 13 16 16) 12 1 0 (some (rf 13 (mC M3 13)))) 12 1 0 = _
      rw [mR_sR, if_pos ⟨rfl, rfl, rfl⟩]
    · show mC M3 13 < mC (al M3 13 16 16) 13
      rw [mC_al, if_pos rfl]; omega
    · show mN (al M3 13 16 16) 13 (mC M3 13) = 16
      rw [mN_al, if_pos ⟨rfl, rfl⟩]
    · rw [mI_sI, if_neg (by omega)]
      show fits .byte (.int (mI (al M3 13 16 16) 13 (mC M3 13) j)) = true
      rw [mI_al, if_pos ⟨rfl, rfl⟩]
      decide
    · rw [mI_sI, if_pos ⟨rfl, rfl, rfl⟩]
    · rw [mI_sI, if_neg (by omega)]
      show mI (al M3 13 16 16) 12 1 3 = _
      rw [mI_al, if_neg (by omega), i3]
      rfl
  · exact (((FC.rf _ _).al (Or.inr (Or.inr ⟨rfl, by omega⟩))).sR (Or.inr (Or.inl ⟨rfl, by omega⟩))).sI (Or.inr (Or.inl ⟨rfl, by omega⟩))
  · show mC M3 13 ≤ mC (al M3 13 16 16) 13
    rw [mC_al, if_pos rfl]; omega
  · show mC (al M3 13 16 16) 36 = mC M3 36
    rw [mC_al, if_neg (by decide)]
  · show mK M3 + 1 ≤ mK M3 + 8 * 0 + 16
    omega
  · show mS M3 + 16 ≤ mS M3 + 300 * 0 + 2 * 16
    omega
