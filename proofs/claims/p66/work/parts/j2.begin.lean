/-! the class's beginning: its text read; what it leaves of the counts -/
def zq0 : Yd := blY
def zq1 : Yd := acY zq0 0 5652993 3 20
def zq2 : Yd := neY (acY zq1 1 591024 2 15) 1 0
def zq3 : Yd := acY zq2 2 447888 5 0
def zq4 : Yd := neY (acY zq3 3 7462 1 9) 3 1
def zq5 : Yd := abY zq4 0 26017 200 3 50
def zq6 : Yd := abY zq5 1 14498 60 1 80
def zq7 : Yd := uS zq6 1 4
def zq8 : Yd := uS zq7 0 7
def zq9 : Yd := uS zq8 2 10
def zq10 : Yd := uF zq9 6 2
def zq11 : Yd := uF zq10 7 30
set_option maxRecDepth 8000 in
theorem sq0 : stmP tx0 nx0 (tS tx0 nx0 0) (tE tx0 nx0 0) (tK tx0 nx0 0) zq0 = .inr (17, zq1) := st_cr (m := 0) (nm := 5652993) (ta := 3) (go := 20) (e1 := 11) (e2 := 13) (e3 := 16) (e4 := 17) (by decide +kernel)
set_option maxRecDepth 8000 in
theorem sq1 : stmP tx0 nx0 (tS tx0 nx0 17) (tE tx0 nx0 17) (tK tx0 nx0 17) zq1 = .inr (42, zq2) := st_ne (m := 1) (nm := 591024) (ta := 2) (go := 15) (e1 := 27) (e2 := 29) (e3 := 32) (e4 := 35) (e5 := 41) (e6 := 42) (j := 0) (by decide +kernel)
set_option maxRecDepth 8000 in
theorem sq2 : stmP tx0 nx0 (tS tx0 nx0 42) (tE tx0 nx0 42) (tK tx0 nx0 42) zq2 = .inr (57, zq3) := st_cr (m := 2) (nm := 447888) (ta := 5) (go := 0) (e1 := 52) (e2 := 54) (e3 := 56) (e4 := 57) (by decide +kernel)
set_option maxRecDepth 8000 in
theorem sq3 : stmP tx0 nx0 (tS tx0 nx0 57) (tE tx0 nx0 57) (tK tx0 nx0 57) zq3 = .inr (79, zq4) := st_ne (m := 3) (nm := 7462) (ta := 1) (go := 9) (e1 := 66) (e2 := 68) (e3 := 70) (e4 := 73) (e5 := 78) (e6 := 79) (j := 1) (by decide +kernel)
set_option maxRecDepth 8000 in
theorem sq4 : stmP tx0 nx0 (tS tx0 nx0 79) (tE tx0 nx0 79) (tK tx0 nx0 79) zq4 = .inr (98, zq5) := st_bu (m := 0) (nm := 26017) (mo := 200) (tt := 3) (tr := 50) (e1 := 88) (e2 := 92) (e3 := 94) (e4 := 97) (by decide +kernel)
set_option maxRecDepth 8000 in
theorem sq5 : stmP tx0 nx0 (tS tx0 nx0 98) (tE tx0 nx0 98) (tK tx0 nx0 98) zq5 = .inr (116, zq6) := st_bu (m := 1) (nm := 14498) (mo := 60) (tt := 1) (tr := 80) (e1 := 107) (e2 := 110) (e3 := 112) (e4 := 115) (by decide +kernel)
set_option maxRecDepth 8000 in
theorem sq6 : stmP tx0 nx0 (tS tx0 nx0 116) (tE tx0 nx0 116) (tK tx0 nx0 116) zq6 = .inr (124, zq7) := by
  refine st_se (e1 := 123) (by decide +kernel) (by decide +kernel) ?_ (by decide +kernel) (by decide +kernel)
  unfold setR
  rw [if_pos (show isW tx0 (tS tx0 nx0 116) (tE tx0 nx0 116) (tK tx0 nx0 116) 14 = true by decide +kernel)]
  exact st_1 (x := 4) (by decide +kernel) (by decide +kernel) (by decide +kernel)
set_option maxRecDepth 8000 in
theorem sq7 : stmP tx0 nx0 (tS tx0 nx0 124) (tE tx0 nx0 124) (tK tx0 nx0 124) zq7 = .inr (131, zq8) := by
  refine st_se (e1 := 130) (by decide +kernel) (by decide +kernel) ?_ (by decide +kernel) (by decide +kernel)
  unfold setR
  rw [if_neg (show ¬ isW tx0 (tS tx0 nx0 124) (tE tx0 nx0 124) (tK tx0 nx0 124) 14 = true by decide +kernel)]
  rw [if_pos (show isW tx0 (tS tx0 nx0 124) (tE tx0 nx0 124) (tK tx0 nx0 124) 15 = true by decide +kernel)]
  exact st_1 (x := 7) (by decide +kernel) (by decide +kernel) (by decide +kernel)
set_option maxRecDepth 8000 in
theorem sq8 : stmP tx0 nx0 (tS tx0 nx0 131) (tE tx0 nx0 131) (tK tx0 nx0 131) zq8 = .inr (140, zq9) := by
  refine st_se (e1 := 139) (by decide +kernel) (by decide +kernel) ?_ (by decide +kernel) (by decide +kernel)
  unfold setR
  rw [if_neg (show ¬ isW tx0 (tS tx0 nx0 131) (tE tx0 nx0 131) (tK tx0 nx0 131) 14 = true by decide +kernel)]
  rw [if_neg (show ¬ isW tx0 (tS tx0 nx0 131) (tE tx0 nx0 131) (tK tx0 nx0 131) 15 = true by decide +kernel)]
  rw [if_pos (show isW tx0 (tS tx0 nx0 131) (tE tx0 nx0 131) (tK tx0 nx0 131) 16 = true by decide +kernel)]
  exact st_1 (x := 10) (by decide +kernel) (by decide +kernel) (by decide +kernel)
set_option maxRecDepth 8000 in
theorem sq9 : stmP tx0 nx0 (tS tx0 nx0 140) (tE tx0 nx0 140) (tK tx0 nx0 140) zq9 = .inr (151, zq10) := by
  refine st_se (e1 := 150) (by decide +kernel) (by decide +kernel) ?_ (by decide +kernel) (by decide +kernel)
  unfold setR
  rw [if_neg (show ¬ isW tx0 (tS tx0 nx0 140) (tE tx0 nx0 140) (tK tx0 nx0 140) 14 = true by decide +kernel)]
  rw [if_neg (show ¬ isW tx0 (tS tx0 nx0 140) (tE tx0 nx0 140) (tK tx0 nx0 140) 15 = true by decide +kernel)]
  rw [if_neg (show ¬ isW tx0 (tS tx0 nx0 140) (tE tx0 nx0 140) (tK tx0 nx0 140) 16 = true by decide +kernel)]
  rw [if_pos (show isW tx0 (tS tx0 nx0 140) (tE tx0 nx0 140) (tK tx0 nx0 140) 17 = true by decide +kernel)]
  exact st_1 (x := 2) (by decide +kernel) (by decide +kernel) (by decide +kernel)
set_option maxRecDepth 8000 in
theorem sq10 : stmP tx0 nx0 (tS tx0 nx0 151) (tE tx0 nx0 151) (tK tx0 nx0 151) zq10 = .inr (160, zq11) := by
  refine st_se (e1 := 159) (by decide +kernel) (by decide +kernel) ?_ (by decide +kernel) (by decide +kernel)
  unfold setR
  rw [if_neg (show ¬ isW tx0 (tS tx0 nx0 151) (tE tx0 nx0 151) (tK tx0 nx0 151) 14 = true by decide +kernel)]
  rw [if_neg (show ¬ isW tx0 (tS tx0 nx0 151) (tE tx0 nx0 151) (tK tx0 nx0 151) 15 = true by decide +kernel)]
  rw [if_neg (show ¬ isW tx0 (tS tx0 nx0 151) (tE tx0 nx0 151) (tK tx0 nx0 151) 16 = true by decide +kernel)]
  rw [if_neg (show ¬ isW tx0 (tS tx0 nx0 151) (tE tx0 nx0 151) (tK tx0 nx0 151) 17 = true by decide +kernel)]
  rw [if_pos (show isW tx0 (tS tx0 nx0 151) (tE tx0 nx0 151) (tK tx0 nx0 151) 18 = true by decide +kernel)]
  exact st_1 (x := 30) (by decide +kernel) (by decide +kernel) (by decide +kernel)
theorem eq0 : rLi S00 0 = .inr (1, (zq11, none, [], tx0, 0, 0, -1, []), 0) := by
  have h : suP tx0 nx0 600 0 blY = .inr (160, zq11) := by
    show suP tx0 nx0 600 0 zq0 = _
    rw [show suP tx0 nx0 (600) 0 zq0 = suP tx0 nx0 (599 + 1) 0 zq0 from rfl, su_s (by decide +kernel) sq0]
    rw [show suP tx0 nx0 (599) 17 zq1 = suP tx0 nx0 (598 + 1) 17 zq1 from rfl, su_s (by decide +kernel) sq1]
    rw [show suP tx0 nx0 (598) 42 zq2 = suP tx0 nx0 (597 + 1) 42 zq2 from rfl, su_s (by decide +kernel) sq2]
    rw [show suP tx0 nx0 (597) 57 zq3 = suP tx0 nx0 (596 + 1) 57 zq3 from rfl, su_s (by decide +kernel) sq3]
    rw [show suP tx0 nx0 (596) 79 zq4 = suP tx0 nx0 (595 + 1) 79 zq4 from rfl, su_s (by decide +kernel) sq4]
    rw [show suP tx0 nx0 (595) 98 zq5 = suP tx0 nx0 (594 + 1) 98 zq5 from rfl, su_s (by decide +kernel) sq5]
    rw [show suP tx0 nx0 (594) 116 zq6 = suP tx0 nx0 (593 + 1) 116 zq6 from rfl, su_s (by decide +kernel) sq6]
    rw [show suP tx0 nx0 (593) 124 zq7 = suP tx0 nx0 (592 + 1) 124 zq7 from rfl, su_s (by decide +kernel) sq7]
    rw [show suP tx0 nx0 (592) 131 zq8 = suP tx0 nx0 (591 + 1) 131 zq8 from rfl, su_s (by decide +kernel) sq8]
    rw [show suP tx0 nx0 (591) 140 zq9 = suP tx0 nx0 (590 + 1) 140 zq9 from rfl, su_s (by decide +kernel) sq9]
    rw [show suP tx0 nx0 (590) 151 zq10 = suP tx0 nx0 (589 + 1) 151 zq10 from rfl, su_s (by decide +kernel) sq10]
    rw [show suP tx0 nx0 589 160 zq11 = suP tx0 nx0 (588 + 1) 160 zq11 from rfl, suP, if_pos (by decide +kernel)]
    unfold finS
    rw [if_pos (by decide +kernel)]
    rw [show tS tx0 nx0 160 = 160 by decide +kernel]
  unfold rLi
  rw [show suP (kB S00) (kN S00) 600 0 blY = .inr (160, zq11) from h]
  rfl
set_option maxHeartbeats 1000000 in
set_option maxRecDepth 4000 in
theorem s_load2 {d : Nat} {S : KS} {p : Nat} {M : Mem} {Q : Out → Mem → Prop} (h : CSt M S p) {e9 : Nat} {Y : Yd} (hr : suP (kB S) (kN S) 600 0 blY = .inr (e9, Y)) (hq : ∀ M', CSt M' (Y, none, [], kB S, 0, 0, -1, kO S) p → mC M' = mC M → FrK M M' → Q (.inl (some (.int 1))) M') : WPc (d + 10) mX12_loadInput [.ref (rf 10 0)] M Q := by
  refine WPc.of (by decide +kernel) (Nat.le_of_ble_eq_true rfl) rfl ?_
  obtain ⟨Z9, hZ⟩ := h.d
  refine R.aload_n dX12_loadInput_0 rfl (by first | rfl | exact rfv_rf _) ?_
  refine R.getS (h.l.2.2.2.2.2.1) dX12_loadInput_1 fl_X12_41 (by decide) rfl ?_
  refine cl_X12_370 rfl rfl (by first | exact Nat.le_of_ble_eq_true rfl | simp [rf_cat, Value.category]) dX12_loadInput_4 ?_
  refine s_suParse h.t hZ h.se (fun M4 P4 => ?_)
  refine R.istore_n dX12_loadInput_7 (Nat.le_of_ble_eq_true rfl) (by decide) (by first | rfl | simp [lft, rf_cat]) rfl ?_
  have hG := (suP_KG hr).g
  rw [hr] at P4
  obtain ⟨F4, ⟨s9, k9, h4⟩, hY4⟩ := P4
  have h4 := h4.z
  have FT : Fr inT M4 (sI M4 7 0 1 (nI 0)) := Fr.sI (Fr.rf _ _) inT_F
  have hY5 := hY4.fr FT nTY
  have hx : CSt (sI M4 7 0 1 (nI 0)) (kSt S (kB S) 0 0 (-1)) p := ins_u h (F4.tr (FT.mo T_S)) (h4.len (Nat.zero_le _)) hY5
  have kx : FrK M (sI M4 7 0 1 (nI 0)) := FrK.of (F4.tr (FT.mo T_S)) nKS
  rw [hr, show okR (.inr (e9, Y)) = 1 from rfl]
  refine R.aload_n dX12_loadInput_8 rfl (by first | rfl | exact rfv_rf _) ?_
  refine R.getS (by rw [(F4.2.2.2.2 10 0 (by unfold inS inT inY; omega)).2.2.1]; exact h.l.2.2.2.2.1) dX12_loadInput_9 fl_X12_32 (by decide) rfl ?_
  refine R.iconst (v := 0) dX12_loadInput_12 rfl ?_
  refine R.putI dX12_loadInput_13 fl_X12_89 (fun q hq => by cases hq; exact Or.inl rfl) (by decide) rfl rfl rfl ?_
  refine R.iload_n dX12_loadInput_16 rfl ?_
  refine R.if_eq (tgt := 43) dX12_loadInput_17 (by decide) (fun c => absurd c (by decide)) (fun _ => ?_)
  refine R.aload_n dX12_loadInput_20 rfl (by first | rfl | exact rfv_rf _) ?_
  refine R.getS (hx.l.1) dX12_loadInput_21 fl_X12_10 (by decide) rfl ?_
  refine R.aload_n dX12_loadInput_24 rfl (by first | rfl | exact rfv_rf _) ?_
  refine R.getS (hx.l.2.2.1) dX12_loadInput_25 fl_X12_19 (by decide) rfl ?_
  refine cl_X12_356 rfl rfl (by first | exact Nat.le_of_ble_eq_true rfl | simp [rf_cat, Value.category]) dX12_loadInput_28 ?_
  refine s_yCopy hx.y hY5 (by decide) hG.1 hG.2 (fun M6 h6 F6 => ?_)
  refine R.aload_n dX12_loadInput_31 rfl (by first | rfl | exact rfv_rf _) ?_
  refine R.getS ((hx.yd h6 F6).l.2.2.2.1) dX12_loadInput_32 fl_X12_25 (by decide) rfl ?_
  refine cl_X12_367 rfl rfl (by first | exact Nat.le_of_ble_eq_true rfl | simp [rf_cat, Value.category]) dX12_loadInput_35 ?_
  refine s_hForget (hx.yd h6 F6).h (fun M7 h7 F7 => ?_)
  have hy := (hx.yd h6 F6).hi h7 F7
  refine R.aload_n dX12_loadInput_38 rfl (by first | rfl | exact rfv_rf _) ?_
  refine R.iconst (v := 0) dX12_loadInput_39 rfl ?_
  refine R.putI dX12_loadInput_40 fl_X12_359 (fun q hq => by cases hq; exact Or.inl rfl) (by decide) rfl (by first | rfl | assumption) (by first | rfl | assumption) ?_
  refine R.iload_n dX12_loadInput_43 rfl ?_
  refine WP.ret (ov := some (.int _)) dX12_loadInput_44 ⟨rfl, _, rfl, by first | rfl | assumption | exact nar_b01 (by assumption)⟩ ?_
  have F8 : Fr (fun k i => k = 10 ∧ i = 0) M7 (sI M7 10 0 10 0) := Fr.sI (Fr.rf _ _) ⟨rfl, rfl⟩
  have F9 : Fr (fun k i => (inY 0 k i ∨ inH k i) ∨ (k = 10 ∧ i = 0)) (sI M4 7 0 1 (nI 0)) (sI M7 10 0 10 0) := ((F6.mo fun k i z => Or.inl (Or.inl z)).tr (F7.mo fun k i z => Or.inl (Or.inr z))).tr (F8.mo fun k i z => Or.inr z)
  have F10 : Fr (fun k i => inS k i ∨ ((inY 0 k i ∨ inH k i) ∨ (k = 10 ∧ i = 0))) M (sI M7 10 0 10 0) := ((F4.tr (FT.mo T_S)).mo fun k i z => Or.inl z).tr (F9.mo fun k i z => Or.inr z)
  refine hq _ ?_ ?_ ?_
  · obtain ⟨a1, a2, ⟨Z, a3, a3b⟩, ⟨Z2, a4⟩, a5, a6, a7, a8, cap, a9⟩ := hy
    have nY : ∀ y k i, inY y k i → ¬ (k = 10 ∧ i = 0) := fun y k i z z2 => by unfold inY at z; omega
    refine ⟨a1, a2.fr F8 (nY 0), ⟨Z, a3.fr F8 (nY 1), rfl⟩, ⟨Z2, a4.fr F8 (nY 2)⟩, a5.fr F8 ?_ (by omega), a6.fr F8 (by omega), a7.fr F8 (by omega) (by omega), a8.fr F8 (by omega) (by omega), cap, a9.fr F8 (by omega) (fun v _ => by omega)⟩
    rintro k i (⟨rfl, rfl⟩ | ⟨j, -, z⟩)
    · omega
    · exact nY _ k i z
  · exact F10.1
  · exact FrK.of F10 fun k i hk z => z.elim (nKS k i hk) fun z => z.elim (fun z => z.elim (nKY k i hk) (nKH k i hk)) fun z => by unfold inK at hk; omega
set_option maxHeartbeats 1000000 in
set_option maxRecDepth 4000 in
theorem c_i92 {d : Nat} {M : Mem} {Q : Out → Mem → Prop} {Y0 : Yd} (h0 : CSt M (blY, none, [], (fun _ => 0), 0, 0, -1, []) 0) {e9 : Nat} (e0 : suP (kB S00) (kN S00) 600 0 blY = .inr (e9, Y0)) (hq : ∀ M', CSt M' (Y0, none, [], tx0, 0, 0, -1, []) 0 → FrK M M' → mC M' = mC M → Q (.inl none) M') : WP mX12_init (d + 13) 131 [.ref (rf 10 0)] [] M Q := by
  refine R.aload_n dX12_init_131 rfl (by first | rfl | exact rfv_rf _) ?_
  refine R.getS (h0.l.2.2.2.2.1) dX12_init_132 fl_X12_32 (by decide) rfl ?_
  refine R.ldcS (i := 0) rfl dX12_init_135 ?_
  refine cl_X12_77 rfl rfl (by first | exact Nat.le_of_ble_eq_true rfl | simp [rf_cat, Value.category]) dX12_init_137 ?_
  refine s_tAppS h0.t (by decide) (by decide) (fun M1 t1 F1 => ?_)
  have h1 := h0.tx t1 F1
  refine R.aload_n dX12_init_140 rfl (by first | rfl | exact rfv_rf _) ?_
  refine R.getS (h1.l.2.2.2.2.1) dX12_init_141 fl_X12_32 (by decide) rfl ?_
  refine R.ldcS (i := 1) rfl dX12_init_144 ?_
  refine cl_X12_77 rfl rfl (by first | exact Nat.le_of_ble_eq_true rfl | simp [rf_cat, Value.category]) dX12_init_146 ?_
  refine s_tAppS h1.t (by decide) (by decide) (fun M2 t2 F2 => ?_)
  have h2 := h1.tx t2 F2
  refine R.aload_n dX12_init_149 rfl (by first | rfl | exact rfv_rf _) ?_
  refine R.getS (h2.l.2.2.2.2.1) dX12_init_150 fl_X12_32 (by decide) rfl ?_
  refine R.ldcS (i := 2) rfl dX12_init_153 ?_
  refine cl_X12_77 rfl rfl (by first | exact Nat.le_of_ble_eq_true rfl | simp [rf_cat, Value.category]) dX12_init_155 ?_
  refine s_tAppS h2.t (by decide) (by decide) (fun M3 t3 F3 => ?_)
  have h3 := h2.tx t3 F3
  refine R.aload_n dX12_init_158 rfl (by first | rfl | exact rfv_rf _) ?_
  refine cl_X12_85 rfl rfl (by first | exact Nat.le_of_ble_eq_true rfl | simp [rf_cat, Value.category]) dX12_init_159 ?_
  refine s_load2 (S := S00) (d := d + 2) h3 e0 (fun M4 h4 c4 F4 => ?_)
  refine R.pop dX12_init_162 (by first | rfl | exact rf_cat _) ?_
  refine WP.ret (ov := none) dX12_init_163 ⟨rfl, rfl⟩ ?_
  exact hq M4 h4 (FrK.fro ((F1.tr F2).tr F3) nKT F4) (c4.trans ((F1.tr F2).tr F3).1)
set_option maxHeartbeats 1000000 in
set_option maxRecDepth 4000 in
theorem c_init2 {d : Nat} {M : Mem} {Q : Out → Mem → Prop} {Y0 : Yd} (hc : CY M 0 0) (h2 : mC M 2 = 0) (h4 : mC M 4 = 0) (h5 : mC M 5 = 0) (h6 : mC M 6 = 0) (h7 : mC M 7 = 0) (h12 : mC M 12 = 0) (h13 : mC M 13 = 0) (h19 : mC M 19 = 0) (h20 : mC M 20 = 0) (hI : mI M 10 0 10 = 0) {e9 : Nat} (e0 : suP (kB S00) (kN S00) 600 0 blY = .inr (e9, Y0)) (hq : ∀ M', CSt M' (Y0, none, [], tx0, 0, 0, -1, []) 0 → (∀ k, inK k → mC M' k = mC M k) → mC M' 12 = 1 → mK M' ≤ mK M + 1000 → mS M' ≤ mS M + 6000 → Q (.inl none) M') : WPc (d + 13) mX12_init [.ref (rf 10 0)] M Q := by
  refine WPc.of (by decide +kernel) (Nat.le_of_ble_eq_true rfl) rfl ?_
  refine R.aload_n dX12_init_0 rfl (by first | rfl | exact rfv_rf _) ?_
  refine R.objInit (by decide) oi_X12_1 oi_in oi_co (by omega) (by first | exact Nat.le_of_ble_eq_true rfl | simp [rf_cat, Value.category]) dX12_init_1 ?_
  refine c_y0 hc (fun M1 s1 y1 c1 k1 b1 z1 => ?_)
  refine c_y1 c1 (fun M2 s2 y2 c2 k2 b2 z2 => ?_)
  refine c_y2 c2 (fun M3 s3 y3 c3 k3 b3 z3 => ?_)
  refine c_h c3 (by rw [k3 2 (by omega), k2 2 (by omega), k1 2 (by omega)]; exact h2) (by rw [k3 20 (by omega), k2 20 (by omega), k1 20 (by omega)]; exact h20) (fun M4 s4 l4 i4 j4 y4 c4 k4 n4 n20 b4 z4 => ?_)
  have u4 : ∀ k, (k ≠ 9 ∧ k ≠ 18 ∧ k ≠ 17 ∧ k ≠ 3 ∧ k ≠ 8 ∧ k ≠ 1 ∧ k ≠ 0 ∧ k ≠ 20 ∧ k ≠ 2) → mC M4 k = mC M k := fun k hk => by rw [k4 k (by omega), k3 k (by omega), k2 k (by omega), k1 k (by omega)]
  refine c_t (by rw [u4 7 (by omega)]; exact h7) (by rw [u4 13 (by omega)]; exact h13) (fun M5 s5 t5 k5 b5 z5 => ?_)
  have u5 : ∀ k, (k ≠ 9 ∧ k ≠ 18 ∧ k ≠ 17 ∧ k ≠ 3 ∧ k ≠ 8 ∧ k ≠ 1 ∧ k ≠ 0 ∧ k ≠ 20 ∧ k ≠ 2 ∧ k ≠ 7 ∧ k ≠ 13) → mC M5 k = mC M k := fun k hk => by rw [k5 k, if_neg (by omega), u4 k (by omega)]
  refine c_u (by rw [u5 5 (by omega)]; exact h5) (by rw [s5.2.1, if_pos rfl]) (by rw [s5.2.1, if_neg (by omega), s4.2.1, if_neg (by omega), s3.2.1, if_pos rfl]) (fun M6 s6 l6 k6 b6 z6 => ?_)
  have u6 : ∀ k, (k ≠ 9 ∧ k ≠ 18 ∧ k ≠ 17 ∧ k ≠ 3 ∧ k ≠ 8 ∧ k ≠ 1 ∧ k ≠ 0 ∧ k ≠ 20 ∧ k ≠ 2 ∧ k ≠ 7 ∧ k ≠ 13 ∧ k ≠ 5) → mC M6 k = mC M k := fun k hk => by rw [k6 k, if_neg (by omega), u5 k (by omega)]
  refine c_s (by rw [u6 4 (by omega)]; exact h4) (by rw [u6 19 (by omega)]; exact h19) (by rw [u6 6 (by omega)]; exact h6) (by rw [s6.2.1, if_neg (by omega), s5.2.1, if_pos rfl]) (by rw [s6.2.1, if_neg (by omega), s5.2.1, if_neg (by omega), s4.2.1, if_neg (by omega), s3.2.1, if_neg (by omega), s2.2.1, if_neg (by omega), s1.2.1, if_pos rfl]) (fun M7 s7 l7 n7 n19 k7 b7 z7 => ?_)
  refine c_o (by rw [k7 12 (by omega), u6 12 (by omega)]; exact h12) (by rw [k7 13 (by omega), k6 13, if_neg (by omega), k5 13, if_pos (Or.inr rfl)]) (fun M8 s8 o8 k8 b8 z8 => ?_)
  refine c_c (by rw [k8 1, if_neg (by omega), if_neg (by omega), k7 1 (by omega), k6 1, if_neg (by omega), k5 1, if_neg (by omega)]; exact c4.2.2.2.2.2.1) (fun M9 s9 k9 b9 z9 => ?_)
  refine c_z (by rw [k9 3, if_neg (by omega), k8 3, if_neg (by omega), if_neg (by omega), k7 3 (by omega), k6 3, if_neg (by omega), k5 3, if_neg (by omega)]; exact c4.2.2.2.1) (fun Ma sa ka ba za => ?_)
  have F9 := sa.1
  have F8 := s9.1.tr F9
  have F7 := s8.1.tr F8
  have F6 := s7.1.tr F7
  have F5 := s6.1.tr F6
  have F4 := s5.1.tr F5
  have F3 := s4.1.tr F4
  have F2 := s3.1.tr F3
  have F1 := s2.1.tr F2
  have n5 : mC M5 7 = 1 ∧ mC M5 13 = 1 := ⟨by rw [k5, if_pos (Or.inl rfl)], by rw [k5, if_pos (Or.inr rfl)]⟩
  have h0 : CSt Ma (blY, none, [], (fun _ => 0), 0, 0, -1, []) 0 := by
    refine ⟨?_, y1.fn c1 (by omega) F1, ⟨blY, y2.fn c2 (by omega) F2, ?_⟩, ⟨blY, y3.fn c3 (by omega) F3⟩, ⟨l4.fn F4 n4 n20, ?_, ?_, Nat.zero_le _, Nat.le_refl _, fun j hj => ?_, fun i Z hi => by cases hi⟩, l6.fn F6 (by rw [k6, if_pos rfl]), l7.fn F7 n7 n19, t5.fn F5 n5.1 n5.2, 16, o8.fn F8 (by rw [k8, if_pos rfl])⟩
    · unfold CLay
      simp [sa.2.1, s9.2.1, s8.2.1, s7.2.1, s6.2.1, s5.2.1, s4.2.1, s3.2.1, s2.2.1, s1.2.1]
    · show mI Ma 10 0 10 = 0
      rw [sa.2.2, s9.2.2, s8.2.2, s7.2.2, s6.2.2, s5.2.2, s4.2.2, s3.2.2, s2.2.2, s1.2.2]
      exact hI
    · rw [(F4.at (k := 2) (i := 0) (by omega) (by omega)).1]; exact i4
    · rw [(F4.at (k := 2) (i := 0) (by omega) (by omega)).1]; exact j4
    · obtain ⟨Y, hY⟩ := y4 j hj
      exact ⟨Y, hY.fn c4 (by omega) F4⟩
  refine c_i92 h0 e0 (fun Mb hb Fb cb => hq Mb hb (fun k hk => ?_) ?_ ?_ ?_)
  · rw [Fb.2.1 k hk]
    unfold inK at hk
    rw [ka k, if_neg (by omega), k9 k, if_neg (by omega), k8 k, if_neg (by omega), if_neg (by omega), k7 k (by omega), u6 k (by omega)]
  · rw [cb, ka 12, if_neg (by omega), k9 12, if_neg (by omega), k8 12, if_pos rfl]
  · have := Fb.2.2.1; omega
  · have := Fb.2.2.2; omega
