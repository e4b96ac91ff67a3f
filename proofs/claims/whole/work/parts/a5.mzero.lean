/-! the first state: the class's text read, the model's array made -/
theorem su_s {b : Nat → Int32} {n f e e' : Nat} {Y Y' : Yd} (k0 : ¬ tK b n e = 0) (h : stmP b n (tS b n e) (tE b n e) (tK b n e) Y = .inr (e', Y')) : suP b n (f + 1) e Y = suP b n f e' Y' := by
  rw [suP, if_neg k0, h]
section STS
variable {b : Nat → Int32} {n s e m e1 e2 e3 e4 e5 e6 j : Nat} {k nm ta go mo tt tr : Int32} {Y : Yd}
theorem st_cr (h : isW b s e k 11 = true ∧ mY Y = m ∧ ¬ 16 ≤ m ∧ nnC b n e = 0 ∧ cnF Y (nmF b (tS b n e) (tE b n e)) 16 0 = none ∧ nmF b (tS b n e) (tE b n e) = nm ∧ tE b n e = e1 ∧ nbC b n e1 1 50 = 0 ∧ nbV b n e1 = ta ∧ tE b n e1 = e2 ∧ nbC b n e2 0 500 = 0 ∧ nbV b n e2 = go ∧ tE b n e2 = e3 ∧ ¬ isW b (tS b n e3) (tE b n e3) (tK b n e3) 13 = true ∧ scC (tK b n e3) = 0 ∧ tE b n e3 = e4) : stmP b n s e k Y = .inr (e4, acY Y m nm ta go) := by
  obtain ⟨h1, h2, h3, h4, h5, h6, h7, h8, h9, h10, h11, h12, h13, h14, h15, h16⟩ := h
  unfold stmP
  rw [if_pos h1]
  unfold crP0
  rw [h2, if_neg h3]
  unfold crP1
  rw [if_pos h4]
  unfold crP2
  rw [if_pos h5, h6, h7]
  unfold crP3
  rw [if_pos h8, h9, h10]
  unfold crP4
  rw [if_pos h11, h12, h13]
  unfold crP5
  rw [if_neg h14]
  unfold crP9
  rw [if_pos h15, h16]
theorem st_ne (h : isW b s e k 11 = true ∧ mY Y = m ∧ ¬ 16 ≤ m ∧ nnC b n e = 0 ∧ cnF Y (nmF b (tS b n e) (tE b n e)) 16 0 = none ∧ nmF b (tS b n e) (tE b n e) = nm ∧ tE b n e = e1 ∧ nbC b n e1 1 50 = 0 ∧ nbV b n e1 = ta ∧ tE b n e1 = e2 ∧ nbC b n e2 0 500 = 0 ∧ nbV b n e2 = go ∧ tE b n e2 = e3 ∧ isW b (tS b n e3) (tE b n e3) (tK b n e3) 13 = true ∧ tE b n e3 = e4 ∧ nnC b n e4 = 0 ∧ rqC b (tS b n e4) (tE b n e4) Y = 0 ∧ cnF Y (nmF b (tS b n e4) (tE b n e4)) 16 0 = some j ∧ tE b n e4 = e5 ∧ scC (tK b n e5) = 0 ∧ tE b n e5 = e6) : stmP b n s e k Y = .inr (e6, neY (acY Y m nm ta go) m j) := by
  obtain ⟨h1, h2, h3, h4, h5, h6, h7, h8, h9, h10, h11, h12, h13, h14, h15, h16, h17, h18, h19, h20, h21⟩ := h
  unfold stmP
  rw [if_pos h1]
  unfold crP0
  rw [h2, if_neg h3]
  unfold crP1
  rw [if_pos h4]
  unfold crP2
  rw [if_pos h5, h6, h7]
  unfold crP3
  rw [if_pos h8, h9, h10]
  unfold crP4
  rw [if_pos h11, h12, h13]
  unfold crP5
  rw [if_pos h14, h15]
  unfold crP6
  rw [if_pos h16]
  unfold crP7
  rw [if_pos h17, h18]
  dsimp only
  unfold crP9
  rw [h19, if_pos h20, h21]
theorem st_bu (h : ¬ isW b s e k 11 = true ∧ isW b s e k 12 = true ∧ wY Y = m ∧ ¬ 6 ≤ m ∧ nnC b n e = 0 ∧ bnF Y (nmF b (tS b n e) (tE b n e)) 6 0 = none ∧ nmF b (tS b n e) (tE b n e) = nm ∧ tE b n e = e1 ∧ nbC b n e1 0 9999 = 0 ∧ nbV b n e1 = mo ∧ tE b n e1 = e2 ∧ nbC b n e2 0 50 = 0 ∧ nbV b n e2 = tt ∧ tE b n e2 = e3 ∧ nbC b n e3 0 100 = 0 ∧ nbV b n e3 = tr ∧ tE b n e3 = e4 ∧ scC (tK b n e4) = 0 ∧ tE b n e4 = e5) : stmP b n s e k Y = .inr (e5, abY Y m nm mo tt tr) := by
  obtain ⟨h1, h2, h3, h4, h5, h6, h7, h8, h9, h10, h11, h12, h13, h14, h15, h16, h17, h18, h19⟩ := h
  unfold stmP
  rw [if_neg h1, if_pos h2]
  unfold buP0
  rw [h3, if_neg h4]
  unfold buP1
  rw [if_pos h5]
  unfold buP2
  rw [if_pos h6, h7, h8]
  unfold buP3
  rw [if_pos h9, h10, h11]
  unfold buP4
  rw [if_pos h12, h13, h14]
  unfold buP5
  rw [if_pos h15, h16, h17]
  unfold buP6
  rw [if_pos h18, h19]
theorem st_se {Y' : Yd} (h1 : ¬ isW b s e k 11 = true) (h2 : ¬ isW b s e k 12 = true) (hr : setR b n s e k Y = .inr (e1, Y')) (hs : scC (tK b n e1) = 0) (he : tE b n e1 = e2) : stmP b n s e k Y = .inr (e2, Y') := by
  unfold stmP
  rw [if_neg h1, if_neg h2, hr]
  unfold seP
  dsimp only
  rw [if_pos hs, he]
theorem st_1 {lo hi x : Int32} {F : Int32 → Yd} (h : nbC b n e lo hi = 0) (hv : nbV b n e = x) (he : tE b n e = e1) : st1 b n e lo hi F = .inr (e1, F x) := by
  unfold st1
  rw [if_pos h, hv, he]
end STS
def crW (w : Nat → Int32) (c : Nat) (a1 a2 a3 a4 a5 : Int32) : Nat → Int32 := upW (upW (upW (upW (upW w (16 + 18 * c + 1) a1) (16 + 18 * c + 2) a2) (16 + 18 * c + 3) a3) (16 + 18 * c + 4) a4) (16 + 18 * c + 5) a5
def byW (w : Nat → Int32) (c : Nat) (a1 a2 a3 : Int32) : Nat → Int32 := upW (upW (upW w (304 + 11 * c + 1) a1) (304 + 11 * c + 2) a2) (304 + 11 * c + 3) a3
theorem DR.lc {Y : Yd} {m b : Nat} {w : Nat → Int32} {a1 a2 a3 a4 a5 : Int32} (h : DR Y m b w) (hm : m < 16) : DR Y m b (crW w m a1 a2 a3 a4 a5) :=
  ⟨h.1.ltC (fun x hx => by unfold crW; rw [upW_n _ _ (by omega), upW_n _ _ (by omega), upW_n _ _ (by omega), upW_n _ _ (by omega), upW_n _ _ (by omega)]) hm, h.2⟩
theorem DR.lb {Y : Yd} {m b : Nat} {w : Nat → Int32} {a1 a2 a3 : Int32} (h : DR Y m b w) (hb : b < 6) : DR Y m b (byW w b a1 a2 a3) :=
  ⟨h.1.ltB (fun x hx => by unfold byW; rw [upW_n _ _ (by omega), upW_n _ _ (by omega), upW_n _ _ (by omega)]) hb, h.2⟩
set_option maxHeartbeats 1000000 in
set_option maxRecDepth 4000 in
theorem m_crOf {d : Nat} {w : Nat → Int32} {M : Mem} {Q : Out → Mem → Prop} {c : Nat} {a1 a2 a3 a4 a5 : Int32} (hL : ML M) (hm : c < 16) (h0 : w 0 = nI c) (hq : Q (.inl none) (sW M (crW w c a1 a2 a3 a4 a5))) : WPc (d + 1) mX13_crateOf [.ref (rf 11 0), .int a1, .int a2, .int a3, .int a4, .int a5] (sW M w) Q := by
  refine WPc.of (by decide +kernel) (Nat.le_of_ble_eq_true rfl) rfl ?_
  refine R.aload_n dX13_crateOf_0 rfl (by first | rfl | exact rfv_rf _) ?_
  refine R.getS (hL.w) dX13_crateOf_1 fl_X13_7 (by decide) rfl ?_
  refine R.iconst (v := nI 0) dX13_crateOf_4 rfl ?_
  refine R.ialdN (k := 0) dX13_crateOf_5 (by omega) (by show _ < mN M 14 0; rw [hL.n]; omega) ?_
  rw [mI_sWc]
  rw [h0]
  refine R.istore dX13_crateOf_6 (Nat.le_of_ble_eq_true rfl) (by decide) (by first | rfl | simp [lft, rf_cat]) rfl ?_
  refine R.aload_n dX13_crateOf_8 rfl (by first | rfl | exact rfv_rf _) ?_
  refine R.iload dX13_crateOf_9 rfl ?_
  refine R.iconst (v := nI 1) dX13_crateOf_11 rfl ?_
  refine R.iload_n dX13_crateOf_12 rfl ?_
  refine cl_X13_72 rfl rfl (by first | exact Nat.le_of_ble_eq_true rfl | simp [rf_cat, Value.category]) dX13_crateOf_13 ?_
  refine m_puts hL hm (by omega) ?_
  refine R.aload_n dX13_crateOf_16 rfl (by first | rfl | exact rfv_rf _) ?_
  refine R.iload dX13_crateOf_17 rfl ?_
  refine R.iconst (v := nI 2) dX13_crateOf_19 rfl ?_
  refine R.iload_n dX13_crateOf_20 rfl ?_
  refine cl_X13_72 rfl rfl (by first | exact Nat.le_of_ble_eq_true rfl | simp [rf_cat, Value.category]) dX13_crateOf_21 ?_
  refine m_puts hL hm (by omega) ?_
  refine R.aload_n dX13_crateOf_24 rfl (by first | rfl | exact rfv_rf _) ?_
  refine R.iload dX13_crateOf_25 rfl ?_
  refine R.iconst (v := nI 3) dX13_crateOf_27 rfl ?_
  refine R.iload_n dX13_crateOf_28 rfl ?_
  refine cl_X13_72 rfl rfl (by first | exact Nat.le_of_ble_eq_true rfl | simp [rf_cat, Value.category]) dX13_crateOf_29 ?_
  refine m_puts hL hm (by omega) ?_
  refine R.aload_n dX13_crateOf_32 rfl (by first | rfl | exact rfv_rf _) ?_
  refine R.iload dX13_crateOf_33 rfl ?_
  refine R.iconst (v := nI 4) dX13_crateOf_35 rfl ?_
  refine R.iload dX13_crateOf_36 rfl ?_
  refine cl_X13_72 rfl rfl (by first | exact Nat.le_of_ble_eq_true rfl | simp [rf_cat, Value.category]) dX13_crateOf_38 ?_
  refine m_puts hL hm (by omega) ?_
  refine R.aload_n dX13_crateOf_41 rfl (by first | rfl | exact rfv_rf _) ?_
  refine R.iload dX13_crateOf_42 rfl ?_
  refine R.iconst (v := nI 5) dX13_crateOf_44 rfl ?_
  refine R.iload dX13_crateOf_45 rfl ?_
  refine cl_X13_72 rfl rfl (by first | exact Nat.le_of_ble_eq_true rfl | simp [rf_cat, Value.category]) dX13_crateOf_47 ?_
  refine m_puts hL hm (by omega) ?_
  refine WP.ret (ov := none) dX13_crateOf_50 ⟨rfl, rfl⟩ ?_
  exact hq
set_option maxHeartbeats 1000000 in
set_option maxRecDepth 4000 in
theorem m_byOf {d : Nat} {w : Nat → Int32} {M : Mem} {Q : Out → Mem → Prop} {c : Nat} {a1 a2 a3 : Int32} (hL : ML M) (hm : c < 6) (h0 : w 1 = nI c) (hq : Q (.inl none) (sW M (byW w c a1 a2 a3))) : WPc (d + 1) mX13_buyerOf [.ref (rf 11 0), .int a1, .int a2, .int a3] (sW M w) Q := by
  refine WPc.of (by decide +kernel) (Nat.le_of_ble_eq_true rfl) rfl ?_
  refine R.aload_n dX13_buyerOf_0 rfl (by first | rfl | exact rfv_rf _) ?_
  refine R.getS (hL.w) dX13_buyerOf_1 fl_X13_7 (by decide) rfl ?_
  refine R.iconst (v := nI 1) dX13_buyerOf_4 rfl ?_
  refine R.ialdN (k := 1) dX13_buyerOf_5 (by omega) (by show _ < mN M 14 0; rw [hL.n]; omega) ?_
  rw [mI_sWc]
  rw [h0]
  refine R.istore dX13_buyerOf_6 (Nat.le_of_ble_eq_true rfl) (by decide) (by first | rfl | simp [lft, rf_cat]) rfl ?_
  refine R.aload_n dX13_buyerOf_8 rfl (by first | rfl | exact rfv_rf _) ?_
  refine R.iload dX13_buyerOf_9 rfl ?_
  refine R.iconst (v := nI 1) dX13_buyerOf_11 rfl ?_
  refine R.iload_n dX13_buyerOf_12 rfl ?_
  refine cl_X13_75 rfl rfl (by first | exact Nat.le_of_ble_eq_true rfl | simp [rf_cat, Value.category]) dX13_buyerOf_13 ?_
  refine m_putsB hL hm (by omega) ?_
  refine R.aload_n dX13_buyerOf_16 rfl (by first | rfl | exact rfv_rf _) ?_
  refine R.iload dX13_buyerOf_17 rfl ?_
  refine R.iconst (v := nI 2) dX13_buyerOf_19 rfl ?_
  refine R.iload_n dX13_buyerOf_20 rfl ?_
  refine cl_X13_75 rfl rfl (by first | exact Nat.le_of_ble_eq_true rfl | simp [rf_cat, Value.category]) dX13_buyerOf_21 ?_
  refine m_putsB hL hm (by omega) ?_
  refine R.aload_n dX13_buyerOf_24 rfl (by first | rfl | exact rfv_rf _) ?_
  refine R.iload dX13_buyerOf_25 rfl ?_
  refine R.iconst (v := nI 3) dX13_buyerOf_27 rfl ?_
  refine R.iload_n dX13_buyerOf_28 rfl ?_
  refine cl_X13_75 rfl rfl (by first | exact Nat.le_of_ble_eq_true rfl | simp [rf_cat, Value.category]) dX13_buyerOf_29 ?_
  refine m_putsB hL hm (by omega) ?_
  refine WP.ret (ov := none) dX13_buyerOf_32 ⟨rfl, rfl⟩ ?_
  exact hq
def zq0 : Yd := blY
def wq0 : Nat → Int32 := bgW (fun _ => 0)
def zq1 : Yd := acY zq0 0 5652993 3 20
def wq1 : Nat → Int32 := acW (crW wq0 0 (nI 97) (nI 112) (nI 112) (nI 108) (nI 101)) 0 (nI 5) (nI 3) (nI 20) (-1)
def zq2 : Yd := neY (acY zq1 1 591024 2 15) 1 0
def wq2 : Nat → Int32 := acW (crW wq1 1 (nI 112) (nI 101) (nI 97) (nI 114) (nI 0)) 1 (nI 4) (nI 2) (nI 15) (nI 0)
def zq3 : Yd := acY zq2 2 447888 5 0
def wq3 : Nat → Int32 := acW (crW wq2 2 (nI 112) (nI 108) (nI 117) (nI 109) (nI 0)) 2 (nI 4) (nI 5) (nI 0) (-1)
def zq4 : Yd := neY (acY zq3 3 7462 1 9) 3 1
def wq4 : Nat → Int32 := acW (crW wq3 3 (nI 102) (nI 105) (nI 103) (nI 0) (nI 0)) 3 (nI 3) (nI 1) (nI 9) (nI 1)
def zq5 : Yd := abY zq4 0 26017 200 3 50
def wq5 : Nat → Int32 := abW (byW wq4 0 (nI 97) (nI 109) (nI 121)) 0 (nI 3) (nI 200) (nI 3) (nI 50)
def zq6 : Yd := abY zq5 1 14498 60 1 80
def wq6 : Nat → Int32 := abW (byW wq5 1 (nI 98) (nI 101) (nI 110)) 1 (nI 3) (nI 60) (nI 1) (nI 80)
def zq7 : Yd := uS zq6 1 4
def wq7 : Nat → Int32 := upW wq6 2 (nI 4)
def zq8 : Yd := uS zq7 0 7
def wq8 : Nat → Int32 := upW wq7 3 (nI 7)
def zq9 : Yd := uS zq8 2 10
def wq9 : Nat → Int32 := upW wq8 4 (nI 10)
def zq10 : Yd := uF zq9 6 2
def wq10 : Nat → Int32 := upW wq9 5 (nI 2)
def zq11 : Yd := uF zq10 7 30
def wq11 : Nat → Int32 := upW wq10 6 (nI 30)
set_option maxRecDepth 8000 in
theorem sq0 : stmP tx0 nx0 (tS tx0 nx0 0) (tE tx0 nx0 0) (tK tx0 nx0 0) zq0 = .inr (17, zq1) := st_cr (m := 0) (nm := 5652993) (ta := 3) (go := 20) (e1 := 11) (e2 := 13) (e3 := 16) (e4 := 17) (by decide +kernel)
set_option maxRecDepth 8000 in
theorem sq1 : stmP tx0 nx0 (tS tx0 nx0 17) (tE tx0 nx0 17) (tK tx0 nx0 17) zq1 = .inr (42, zq2) := st_ne (m := 1) (nm := 591024) (ta := 2) (go := 15) (e1 := 27) (e2 := 29) (e3 := 32) (e4 := 35) (e5 := 41) (e6 := 42) (j := 0) (by decide +kernel)
set_option maxRecDepth 8000 in
theorem sq2 : stmP tx0 nx0 (tS tx0 nx0 42) (tE tx0 nx0 42) (tK tx0 nx0 42) zq2 = .inr (57, zq3) := st_cr (m := 2) (nm := 447888) (ta := 5) (go := 0) (e1 := 52) (e2 := 54) (e3 := 56) (e4 := 57) (by decide +kernel)
set_option maxRecDepth 8000 in
theorem sq3 : stmP tx0 nx0 (tS tx0 nx0 57) (tE tx0 nx0 57) (tK tx0 nx0 57) zq3 = .inr (79, zq4) := st_ne (m := 3) (nm := 7462) (ta := 1) (go := 9) (e1 := 66) (e2 := 68) (e3 := 70) (e4 := 73) (e5 := 78) (e6 := 79) (j := 1) (by decide +kernel)
set_option maxRecDepth 8000 in
theorem sq4 : stmP tx0 nx0 (tS tx0 nx0 79) (tE tx0 nx0 79) (tK tx0 nx0 79) zq4 = .inr (98, zq5) := st_bu (m := 0) (nm := 26017) (mo := 200) (tt := 3) (tr := 50) (e1 := 88) (e2 := 92) (e3 := 94) (e4 := 97) (by decide +kernel)
set_option maxRecDepth 8000 in
theorem sq5 : stmP tx0 nx0 (tS tx0 nx0 98) (tE tx0 nx0 98) (tK tx0 nx0 98) zq5 = .inr (116, zq6) := st_bu (m := 1) (nm := 14498) (mo := 60) (tt := 1) (tr := 80) (e1 := 107) (e2 := 110) (e3 := 112) (e4 := 115) (by decide +kernel)
set_option maxRecDepth 8000 in
theorem sq6 : stmP tx0 nx0 (tS tx0 nx0 116) (tE tx0 nx0 116) (tK tx0 nx0 116) zq6 = .inr (124, zq7) := by
  refine st_se (e1 := 123) (by decide +kernel) (by decide +kernel) ?_ (by decide +kernel) (by decide +kernel)
  unfold setR
  rw [if_pos (show isW tx0 (tS tx0 nx0 116) (tE tx0 nx0 116) (tK tx0 nx0 116) 14 = true by decide +kernel)]
  exact st_1 (x := 4) (by decide +kernel) (by decide +kernel) (by decide +kernel)
set_option maxRecDepth 8000 in
theorem sq7 : stmP tx0 nx0 (tS tx0 nx0 124) (tE tx0 nx0 124) (tK tx0 nx0 124) zq7 = .inr (131, zq8) := by
  refine st_se (e1 := 130) (by decide +kernel) (by decide +kernel) ?_ (by decide +kernel) (by decide +kernel)
  unfold setR
  rw [if_neg (show ¬ isW tx0 (tS tx0 nx0 124) (tE tx0 nx0 124) (tK tx0 nx0 124) 14 = true by decide +kernel)]
  rw [if_pos (show isW tx0 (tS tx0 nx0 124) (tE tx0 nx0 124) (tK tx0 nx0 124) 15 = true by decide +kernel)]
  exact st_1 (x := 7) (by decide +kernel) (by decide +kernel) (by decide +kernel)
set_option maxRecDepth 8000 in
theorem sq8 : stmP tx0 nx0 (tS tx0 nx0 131) (tE tx0 nx0 131) (tK tx0 nx0 131) zq8 = .inr (140, zq9) := by
  refine st_se (e1 := 139) (by decide +kernel) (by decide +kernel) ?_ (by decide +kernel) (by decide +kernel)
  unfold setR
  rw [if_neg (show ¬ isW tx0 (tS tx0 nx0 131) (tE tx0 nx0 131) (tK tx0 nx0 131) 14 = true by decide +kernel)]
  rw [if_neg (show ¬ isW tx0 (tS tx0 nx0 131) (tE tx0 nx0 131) (tK tx0 nx0 131) 15 = true by decide +kernel)]
  rw [if_pos (show isW tx0 (tS tx0 nx0 131) (tE tx0 nx0 131) (tK tx0 nx0 131) 16 = true by decide +kernel)]
  exact st_1 (x := 10) (by decide +kernel) (by decide +kernel) (by decide +kernel)
set_option maxRecDepth 8000 in
theorem sq9 : stmP tx0 nx0 (tS tx0 nx0 140) (tE tx0 nx0 140) (tK tx0 nx0 140) zq9 = .inr (151, zq10) := by
  refine st_se (e1 := 150) (by decide +kernel) (by decide +kernel) ?_ (by decide +kernel) (by decide +kernel)
  unfold setR
  rw [if_neg (show ¬ isW tx0 (tS tx0 nx0 140) (tE tx0 nx0 140) (tK tx0 nx0 140) 14 = true by decide +kernel)]
  rw [if_neg (show ¬ isW tx0 (tS tx0 nx0 140) (tE tx0 nx0 140) (tK tx0 nx0 140) 15 = true by decide +kernel)]
  rw [if_neg (show ¬ isW tx0 (tS tx0 nx0 140) (tE tx0 nx0 140) (tK tx0 nx0 140) 16 = true by decide +kernel)]
  rw [if_pos (show isW tx0 (tS tx0 nx0 140) (tE tx0 nx0 140) (tK tx0 nx0 140) 17 = true by decide +kernel)]
  exact st_1 (x := 2) (by decide +kernel) (by decide +kernel) (by decide +kernel)
set_option maxRecDepth 8000 in
theorem sq10 : stmP tx0 nx0 (tS tx0 nx0 151) (tE tx0 nx0 151) (tK tx0 nx0 151) zq10 = .inr (160, zq11) := by
  refine st_se (e1 := 159) (by decide +kernel) (by decide +kernel) ?_ (by decide +kernel) (by decide +kernel)
  unfold setR
  rw [if_neg (show ¬ isW tx0 (tS tx0 nx0 151) (tE tx0 nx0 151) (tK tx0 nx0 151) 14 = true by decide +kernel)]
  rw [if_neg (show ¬ isW tx0 (tS tx0 nx0 151) (tE tx0 nx0 151) (tK tx0 nx0 151) 15 = true by decide +kernel)]
  rw [if_neg (show ¬ isW tx0 (tS tx0 nx0 151) (tE tx0 nx0 151) (tK tx0 nx0 151) 16 = true by decide +kernel)]
  rw [if_neg (show ¬ isW tx0 (tS tx0 nx0 151) (tE tx0 nx0 151) (tK tx0 nx0 151) 17 = true by decide +kernel)]
  rw [if_pos (show isW tx0 (tS tx0 nx0 151) (tE tx0 nx0 151) (tK tx0 nx0 151) 18 = true by decide +kernel)]
  exact st_1 (x := 30) (by decide +kernel) (by decide +kernel) (by decide +kernel)
theorem dq0 : DR zq0 0 0 wq0 := DR_bl _
set_option maxRecDepth 8000 in
theorem nq0 : NW 5652993 wq1 (16 + 18 * 0) := by
  have h : NW (nmF tx0 (tS tx0 nx0 5) (tE tx0 nx0 5)) wq1 (16 + 18 * 0) := NW.new (by decide +kernel) (by decide +kernel) (by decide +kernel)
  rw [show nmF tx0 (tS tx0 nx0 5) (tE tx0 nx0 5) = 5652993 by decide +kernel] at h
  exact h
theorem dq1 : DR zq1 1 0 wq1 := (dq0.lc (by decide)).ac (L := 5) (ta := 3) (go := 20) (by decide) (by decide) (by decide) nq0
set_option maxRecDepth 8000 in
theorem nq1 : NW 591024 wq2 (16 + 18 * 1) := by
  have h : NW (nmF tx0 (tS tx0 nx0 22) (tE tx0 nx0 22)) wq2 (16 + 18 * 1) := NW.new (by decide +kernel) (by decide +kernel) (by decide +kernel)
  rw [show nmF tx0 (tS tx0 nx0 22) (tE tx0 nx0 22) = 591024 by decide +kernel] at h
  exact h
set_option maxRecDepth 8000 in
theorem dq2 : DR zq2 2 0 wq2 := by
  have hD := dq1
  have hDY : DY zq1 1 0 := ⟨hD.v.m16, hD.v.b6, hD.v.f4, hD.v.f5, fun i k hi e => hD.v.p hi e, hD.v.acy, hD.v.c.2.2.2.2.1⟩
  have hd : nI (dp zq1 0) < 5 := by decide +kernel
  exact (hD.lc (by decide)).ne (L := 4) (ta := 2) (go := 15) (by decide) (by decide) (by decide) (by decide) (hDY.ne (by decide) (by decide) hd).2.2.2.2.2.1 nq1
set_option maxRecDepth 8000 in
theorem nq2 : NW 447888 wq3 (16 + 18 * 2) := by
  have h : NW (nmF tx0 (tS tx0 nx0 47) (tE tx0 nx0 47)) wq3 (16 + 18 * 2) := NW.new (by decide +kernel) (by decide +kernel) (by decide +kernel)
  rw [show nmF tx0 (tS tx0 nx0 47) (tE tx0 nx0 47) = 447888 by decide +kernel] at h
  exact h
theorem dq3 : DR zq3 3 0 wq3 := (dq2.lc (by decide)).ac (L := 4) (ta := 5) (go := 0) (by decide) (by decide) (by decide) nq2
set_option maxRecDepth 8000 in
theorem nq3 : NW 7462 wq4 (16 + 18 * 3) := by
  have h : NW (nmF tx0 (tS tx0 nx0 62) (tE tx0 nx0 62)) wq4 (16 + 18 * 3) := NW.new (by decide +kernel) (by decide +kernel) (by decide +kernel)
  rw [show nmF tx0 (tS tx0 nx0 62) (tE tx0 nx0 62) = 7462 by decide +kernel] at h
  exact h
set_option maxRecDepth 8000 in
theorem dq4 : DR zq4 4 0 wq4 := by
  have hD := dq3
  have hDY : DY zq3 3 0 := ⟨hD.v.m16, hD.v.b6, hD.v.f4, hD.v.f5, fun i k hi e => hD.v.p hi e, hD.v.acy, hD.v.c.2.2.2.2.1⟩
  have hd : nI (dp zq3 1) < 5 := by decide +kernel
  exact (hD.lc (by decide)).ne (L := 3) (ta := 1) (go := 9) (by decide) (by decide) (by decide) (by decide) (hDY.ne (by decide) (by decide) hd).2.2.2.2.2.1 nq3
set_option maxRecDepth 8000 in
theorem nq4 : NW 26017 wq5 (304 + 11 * 0) := by
  have h : NW (nmF tx0 (tS tx0 nx0 84) (tE tx0 nx0 84)) wq5 (304 + 11 * 0) := NW.new (by decide +kernel) (by decide +kernel) (by decide +kernel)
  rw [show nmF tx0 (tS tx0 nx0 84) (tE tx0 nx0 84) = 26017 by decide +kernel] at h
  exact h
theorem dq5 : DR zq5 4 1 wq5 := (dq4.lb (by decide)).ab (L := 3) (by decide) nq4
set_option maxRecDepth 8000 in
theorem nq5 : NW 14498 wq6 (304 + 11 * 1) := by
  have h : NW (nmF tx0 (tS tx0 nx0 103) (tE tx0 nx0 103)) wq6 (304 + 11 * 1) := NW.new (by decide +kernel) (by decide +kernel) (by decide +kernel)
  rw [show nmF tx0 (tS tx0 nx0 103) (tE tx0 nx0 103) = 14498 by decide +kernel] at h
  exact h
theorem dq6 : DR zq6 4 2 wq6 := (dq5.lb (by decide)).ab (L := 3) (by decide) nq5
theorem dq7 : DR zq7 4 2 wq7 := dq6.am (j := 4) (by decide) (by decide)
theorem dq8 : DR zq8 4 2 wq8 := dq7.gn (j := 7) (by decide) (by decide)
theorem dq9 : DR zq9 4 2 wq9 := dq8.ag (j := 10) (by decide) (by decide)
theorem dq10 : DR zq10 4 2 wq10 := dq9.f6 (j := 2) (by decide) (by decide)
theorem dq11 : DR zq11 4 2 wq11 := dq10.f7 (j := 30) (by decide) (by decide)
theorem eq0 : rLi S00 0 = .inr (1, (zq11, none, [], tx0, 0, 0, -1, []), 0) := by
  have h : suP tx0 nx0 600 0 blY = .inr (160, zq11) := by
    show suP tx0 nx0 600 0 zq0 = _
    rw [show suP tx0 nx0 (600) 0 zq0 = suP tx0 nx0 (599 + 1) 0 zq0 from rfl, su_s (by decide +kernel) sq0]
    rw [show suP tx0 nx0 (599) 17 zq1 = suP tx0 nx0 (598 + 1) 17 zq1 from rfl, su_s (by decide +kernel) sq1]
    rw [show suP tx0 nx0 (598) 42 zq2 = suP tx0 nx0 (597 + 1) 42 zq2 from rfl, su_s (by decide +kernel) sq2]
    rw [show suP tx0 nx0 (597) 57 zq3 = suP tx0 nx0 (596 + 1) 57 zq3 from rfl, su_s (by decide +kernel) sq3]
    rw [show suP tx0 nx0 (596) 79 zq4 = suP tx0 nx0 (595 + 1) 79 zq4 from rfl, su_s (by decide +kernel) sq4]
    rw [show suP tx0 nx0 (595) 98 zq5 = suP tx0 nx0 (594 + 1) 98 zq5 from rfl, su_s (by decide +kernel) sq5]
    rw [show suP tx0 nx0 (594) 116 zq6 = suP tx0 nx0 (593 + 1) 116 zq6 from rfl, su_s (by decide +kernel) sq6]
    rw [show suP tx0 nx0 (593) 124 zq7 = suP tx0 nx0 (592 + 1) 124 zq7 from rfl, su_s (by decide +kernel) sq7]
    rw [show suP tx0 nx0 (592) 131 zq8 = suP tx0 nx0 (591 + 1) 131 zq8 from rfl, su_s (by decide +kernel) sq8]
    rw [show suP tx0 nx0 (591) 140 zq9 = suP tx0 nx0 (590 + 1) 140 zq9 from rfl, su_s (by decide +kernel) sq9]
    rw [show suP tx0 nx0 (590) 151 zq10 = suP tx0 nx0 (589 + 1) 151 zq10 from rfl, su_s (by decide +kernel) sq10]
    rw [show suP tx0 nx0 589 160 zq11 = suP tx0 nx0 (588 + 1) 160 zq11 from rfl, suP, if_pos (by decide +kernel)]
    unfold finS
    rw [if_pos (by decide +kernel)]
    rw [show tS tx0 nx0 160 = 160 by decide +kernel]
  unfold rLi
  rw [show suP (kB S00) (kN S00) 600 0 blY = .inr (160, zq11) from h]
  rfl
def wqz : Nat → Int32 := upW wq11 14 (nI 260)
theorem yq0 : YI zq11 16 wqz := by
  have h := SQ9 dq11
  rw [show moF zq11 6 0 0 = nI 260 by decide +kernel] at h
  exact ⟨4, 2, h.mono (by decide), dq11.v.mono (by decide)⟩
