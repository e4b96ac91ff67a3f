/-! a round of the law's first loop -/
theorem Pl.ap {A B : List Int32} (h : Pl A) (g : Pl B) : Pl (A ++ B) := fun x hx => (List.mem_append.mp hx).elim (h x) (g x)
theorem Pl_c {k : Nat} (h : k < 128) : Pl [nI k] := fun x hx => ⟨k, List.mem_singleton.mp hx, h⟩
theorem Pl_s {i : Nat} (h : i < 23) : Pl (sBy i) := fun x hx => by
  obtain ⟨j, hj⟩ := List.mem_iff_getElem?.mp hx
  have hl := (List.getElem?_eq_some_iff.mp hj).1
  rw [sBy_len] at hl
  rw [sBy_at hl] at hj
  obtain ⟨a, b⟩ := sB_a i h j hl
  exact ⟨_, (Option.some.inj hj).symm.trans b, a⟩
theorem Pl_d {v : Nat} (h : v < 10000) : Pl (dgS v) := fun x hx => by
  obtain ⟨j, hj⟩ := List.mem_iff_getElem?.mp hx
  obtain ⟨k, e, hk⟩ := dg_dig h hj
  exact ⟨48 + k, e, by omega⟩
theorem crT_n {k ta go : Nat} (h1 : ta < 10000) (h2 : go < 10000) : (crT k ta go none).length = 10 + szF ta + szF go := by
  have e1 := dgS_len h1
  have e2 := dgS_len h2
  unfold crT
  simp only [List.length_append, List.length_cons, List.length_nil, sBy_len, sl4, e1, e2]
  omega
theorem crT_s {k ta go j : Nat} (h1 : ta < 10000) (h2 : go < 10000) : (crT k ta go (some j)).length = 15 + szF ta + szF go := by
  have e1 := dgS_len h1
  have e2 := dgS_len h2
  unfold crT
  simp only [List.length_append, List.length_cons, List.length_nil, sBy_len, sl4, sl5, e1, e2]
  omega
section PTS
variable {Y : Yd} {W : LW} {O : List Int32} {ta go : Nat}
theorem PX.pv (h : PX Y W) : PV Y (wN W) 0 (wN W) := h.1
theorem PX.rk (h : PX Y W) : RK Y W := h.2.2.2.2.1
theorem PX.dpe (h : PX Y W) (j : Nat) : dp Y j = depO 5 (wP W) (wP W j) := by
  unfold dp
  rw [h.rk.1]
theorem PX.ac {j : Nat} (h : PX Y W) (hj : j < 16) : acyO 5 (wP W) (wP W j) := by
  have := h.pv.acy j hj
  rw [h.rk.1] at this
  exact this
theorem PTX.cr (h : PTX Y (wN W) O) (hX : PX Y W) (hm : wN W < 9) (h1 : 1 ≤ ta) (h2 : ta ≤ 50) (h3 : go ≤ 500) : PTX (acY Y (wN W) (nI (wN W + 1)) (nI ta) (nI go)) (wN W + 1) (O ++ crT (wN W) ta go none) := by
  intro b n f hb hn
  have hlen := crT_n (k := wN W) (ta := ta) (go := go) (by omega) (by omega)
  rw [List.length_append, hlen] at hn
  have hb2 := hb.r
  rw [Nat.zero_add] at hb2
  rw [show f + (wN W + 1) = (f + 1) + wN W by omega, h b n (f + 1) hb.f1 (by omega), ld_cr hb2 (by omega) (by omega) hX.pv.dy.m hX.new h1 h2 h3, List.length_append, hlen]
theorem PTX.ne {j : Nat} (h : PTX Y (wN W) O) (hX : PX Y W) (hm : wN W < 9) (hj : j < wN W) (hd : dp Y j < 5) (h1 : 1 ≤ ta) (h2 : ta ≤ 50) (h3 : go ≤ 500) : PTX (neY (acY Y (wN W) (nI (wN W + 1)) (nI ta) (nI go)) (wN W) j) (wN W + 1) (O ++ crT (wN W) ta go (some j)) := by
  intro b n f hb hn
  have hlen := crT_s (k := wN W) (ta := ta) (go := go) (j := j) (by omega) (by omega)
  rw [List.length_append, hlen] at hn
  have hb2 := hb.r
  rw [Nat.zero_add] at hb2
  rw [show f + (wN W + 1) = (f + 1) + wN W by omega, h b n (f + 1) hb.f1 (by omega), ld_ne hb2 (by omega) (by omega) (by omega) hX.pv.dy.m hX.new (hX.old hj) hd h1 h2 h3, List.length_append, hlen]
end PTS
/-- k crates are made and written -/
def RI (c0 : Nat) (M0 : Mem) (k : Nat) (M : Mem) (cap : Nat) (O : List Int32) (Y : Yd) (W : LW) : Prop := LM M W ∧ wN W = k ∧ mC M 11 = k ∧ mC M 33 = 1 + 2 * k ∧ Sc c0 M cap O ∧ FC (inQ c0) M0 M ∧ mC M0 13 ≤ mC M 13 ∧ mC M 36 = mC M0 36 ∧ PX Y W ∧ PTX Y k O ∧ Pl O ∧ O.length ≤ 19 * k ∧ (∀ f, wYs W f = 0) ∧ mK M ≤ mK M0 + 8 * k + cap ∧ mS M ≤ mS M0 + 300 * k + 2 * cap
set_option maxHeartbeats 1000000 in
set_option maxRecDepth 8000 in
theorem lw_tail {d c0 cap k : Nat} {x3 x5 x7 : Int32} {v9 : Value} {O : List Int32} {M0 M : Mem} {Q : Out → Mem → Prop} {Y : Yd} {V : LW} (hB : LB k M V) (hV : wN V = k + 1) (hk : k < 9) (h11 : mC M 11 = k + 1) (h33 : mC M 33 = 1 + 2 * (k + 1)) (hS : Sc c0 M cap O) (hF : FC (inQ c0) M0 M) (h13 : mC M0 13 ≤ mC M 13) (h36 : mC M 36 = mC M0 36) (hX : PX Y V) (hP : PTX Y (k + 1) (O ++ [nI 59])) (hPl : Pl O) (hl : O.length + 1 ≤ 19 * (k + 1)) (hz : ∀ f, wYs V f = 0) (bK : mK M ≤ mK M0 + 8 * k + 5 + cap) (bS : mS M ≤ mS M0 + 300 * k + 120 + 2 * cap) (hq : ∀ M' cap' O' Y' W' w7 w8 w9, RI c0 M0 (k + 1) M' cap' O' Y' W' → WP mL_law (d + 23) 44 [.ref (rf 27 0), .ref (rf 10 0), .ref (rf 32 0), .int x3, .ref (rf 12 1), .int x5, .int (nI (k + 1)), w7, w8, w9] [] M' Q) : WP mL_law (d + 23) 223 [.ref (rf 27 0), .ref (rf 10 0), .ref (rf 32 0), .int x3, .ref (rf 12 1), .int x5, .int (nI k), .int x7, .ref (rf 11 k), v9] [] M Q := by
  refine R.aload_n dL_law_223 rfl (by first | rfl | exact rfv_rf _) ?_
  refine R.getS (hB.y) dL_law_224 fl_L_84 (by decide) rfl ?_
  refine R.aload dL_law_227 rfl (by first | rfl | exact rfv_rf _) ?_
  refine ic_L_213 rfl (by first | exact Nat.le_of_ble_eq_true rfl | simp [rf_cat, Value.category]) dL_law_229 ?_
  refine s_alAdd hB.all (by rw [List.length_map, List.length_range]; omega) elc_all (fun M9 => el_cr) (fun M1 E1 hA => ?_)
  obtain ⟨a1, a2, a3, a4⟩ := hA
  refine ⟨_, rfl, ?_⟩
  refine R.pop dL_law_234 (by first | rfl | exact rf_cat _) ?_
  have hS1 := hS.fx a2 SL_K
  refine lw_end hS1 (by omega) (fun M2 q2 h2 F2 G2 => ?_)
  have hW1 := hB.add hV a2 a1 a3
  have e11 : mC M2 11 = k + 1 := by rw [F2.2.1 11 (by decide), a4 11 (by decide)]; exact h11
  have e33 : mC M2 33 = 1 + 2 * (k + 1) := by rw [F2.2.1 33 (by decide), a4 33 (by decide)]; exact h33
  have e36 : mC M2 36 = mC M0 36 := by rw [F2.2.1 36 (by decide), a4 36 (by decide)]; exact h36
  have e13 : mC M1 13 = mC M 13 := a4 13 (by decide)
  have f13 := F2.2.2
  have k1 := a2.2.2.2.1
  have k2 := a2.2.2.2.2
  obtain ⟨g1, g2, g3⟩ := G2
  exact hq M2 q2 _ Y (vA V E1) _ _ _ ⟨hW1.gr F2.gr, hV, e11, e33, h2, (hF.tr (a2.fc SL_K)).tr F2.fc, by omega, e36, hX, hP, hPl.ap (Pl_c (by decide)), by rw [List.length_append]; exact hl, hz, by omega, by omega⟩
set_option maxHeartbeats 4000000 in
set_option maxRecDepth 8000 in
theorem lw_round {d c0 cap : Nat} {x3 x5 : Int32} {v7 v8 v9 : Value} {O : List Int32} {M0 M : Mem} {Q : Out → Mem → Prop} {Y : Yd} {W : LW} (h : RI c0 M0 (wN W) M cap O Y W) (hk : wN W < 9) (hm : mN M0 27 0 < 2 ^ 31) (hq : ∀ M' cap' O' Y' W' w7 w8 w9, RI c0 M0 (wN W + 1) M' cap' O' Y' W' → WP mL_law (d + 23) 44 [.ref (rf 27 0), .ref (rf 10 0), .ref (rf 32 0), .int x3, .ref (rf 12 1), .int x5, .int (nI (wN W + 1)), w7, w8, w9] [] M' Q) : WP mL_law (d + 23) 51 [.ref (rf 27 0), .ref (rf 10 0), .ref (rf 32 0), .int x3, .ref (rf 12 1), .int x5, .int (nI (wN W)), v7, v8, v9] [] M Q := by
  obtain ⟨hW, -, h11, h33, hS, hF, h13, h36, hX, hP, hPl, hl, hz, bK, bS⟩ := h
  have hm1 : mN M 27 0 < 2 ^ 31 := by rw [(hF 27 0 (by unfold inQ inK; omega)).2.2.2.2]; exact hm
  refine R.aload_n dL_law_51 rfl (by first | rfl | exact rfv_rf _) ?_
  refine R.iconst (v := nI 1) dL_law_52 rfl ?_
  refine R.iload dL_law_53 rfl ?_
  refine R.iadd dL_law_55 ?_
  rw [nI_add]
  refine cl_L_257 rfl rfl (by first | exact Nat.le_of_ble_eq_true rfl | simp [rf_cat, Value.category]) dL_law_56 ?_
  refine s_cell (by omega) hm1 (fun x7 => ?_)
  refine R.istore dL_law_59 (Nat.le_of_ble_eq_true rfl) (by decide) (by first | rfl | simp [lft, rf_cat]) rfl ?_
  skip
  obtain ⟨t0, ht0, et⟩ := bi_in x7 0 (b := 4) (n := 4) (by decide) (by decide)
  obtain ⟨go, hgo, eg⟩ := bi_in x7 4 (b := 5) (n := 5) (by decide) (by decide)
  obtain ⟨b0, hb0, eb⟩ := bi_in x7 10 (b := 3) (n := 3) (by decide) (by decide)
  refine R.new (k := 11) rfl cw_L_104 mk_11 iz_11 dL_law_61 ?_
  refine R.dup dL_law_64 (by first | rfl | exact rf_cat _) ?_
  refine R.iload dL_law_65 rfl ?_
  refine R.iconst (v := nI 1) dL_law_67 rfl ?_
  refine R.iload dL_law_68 rfl ?_
  refine R.iconst (v := 0) dL_law_70 rfl ?_
  refine R.iconst (v := 4) dL_law_71 rfl ?_
  refine cl_L_181 rfl rfl (by first | exact Nat.le_of_ble_eq_true rfl | simp [rf_cat, Value.category]) dL_law_72 ?_
  refine s_bits ?_
  rw [et]
  refine R.iadd dL_law_75 ?_
  rw [nI_add]
  refine R.iload dL_law_76 rfl ?_
  refine R.iconst (v := 4) dL_law_78 rfl ?_
  refine R.iconst (v := 5) dL_law_79 rfl ?_
  refine cl_L_181 rfl rfl (by first | exact Nat.le_of_ble_eq_true rfl | simp [rf_cat, Value.category]) dL_law_80 ?_
  refine s_bits ?_
  rw [eg]
  refine cl_L_264 rfl rfl (by first | exact Nat.le_of_ble_eq_true rfl | simp [rf_cat, Value.category]) dL_law_83 ?_
  refine s_crInit ?_
  refine R.astore dL_law_86 (by first | rfl | exact rfv_rf _) (Nat.le_of_ble_eq_true rfl) (by decide) (by first | rfl | simp [lft, rf_cat]) rfl ?_
  skip
  obtain ⟨ta, hta⟩ : ∃ ta, ta = 1 + t0 := ⟨_, rfl⟩
  rw [← hta]
  obtain ⟨M1, hM1⟩ : ∃ M1, M1 = ncM M (nI (wN W)) (nI ta) (nI go) := ⟨_, rfl⟩
  rw [show crM (al M 11 0 9) (mC M 11) (nI (wN W)) (nI ta) (nI go) = ncM M (nI (wN W)) (nI ta) (nI go) from rfl, ← hM1, h11]
  obtain ⟨hW1, hB1⟩ := nc_LB (ta := nI ta) (go := nI go) hW hk h11 h33
  have hS1 : Sc c0 M1 cap O := by
    rw [hM1]
    exact hS.sm (nc_Sm (by omega) (by omega)) (fun v => nc_Sm (by omega) (by omega)) (by rw [nc_C, if_neg (by decide), if_neg (by decide)])
  have hF1 : FC (inQ c0) M0 M1 := by rw [hM1]; exact hF.tr nc_fc
  have d11 : mC M1 11 = wN W + 1 := by rw [hM1, nc_C, if_pos rfl, h11]
  have d33 : mC M1 33 = 1 + 2 * (wN W + 1) := by rw [hM1, nc_C, if_neg (by decide), if_pos rfl, h33]; omega
  have d13 : mC M1 13 = mC M 13 := by rw [hM1, nc_C, if_neg (by decide), if_neg (by decide)]
  have d36 : mC M1 36 = mC M 36 := by rw [hM1, nc_C, if_neg (by decide), if_neg (by decide)]
  have dK : mK M1 = mK M + 3 := by rw [hM1]; rfl
  have dS : mS M1 = mS M + 15 := by rw [hM1]; rfl
  have i1 : mI M1 11 (wN W) 1 = nI ta := by rw [hM1, nc_I, if_pos ⟨rfl, h11.symm⟩]; rfl
  have i2 : mI M1 11 (wN W) 2 = nI go := by rw [hM1, nc_I, if_pos ⟨rfl, h11.symm⟩]; rfl
  rw [← hM1] at hW1 hB1
  refine lw_txt hS1 hk (by omega) (by omega) i1 i2 (by omega) (fun M2 q2 h2 F2 G2 => ?_)
  have hW2 : LM M2 W := hW1.gr F2.gr
  have hB2 : LB (wN W) M2 (newW W (nI ta) (nI go)) := hB1.gr F2.gr
  have hF2 : FC (inQ c0) M0 M2 := hF1.tr F2.fc
  have f13 := F2.2.2
  have c11 : mC M2 11 = wN W + 1 := by rw [F2.2.1 11 (by decide)]; exact d11
  have c33 : mC M2 33 = 1 + 2 * (wN W + 1) := by rw [F2.2.1 33 (by decide)]; exact d33
  have c36 : mC M2 36 = mC M0 36 := by rw [F2.2.1 36 (by decide), d36]; exact h36
  obtain ⟨g1, g2, g3⟩ := G2
  have eta := dgS_len (v := ta) (by omega)
  have ego := dgS_len (v := go) (by omega)
  have z1 : szF ta ≤ 2 := by unfold szF; split <;> (try split) <;> omega
  have z2 : szF go ≤ 2 := by unfold szF; split <;> (try split) <;> omega
  have p2 : Pl ((((((O ++ sBy 4) ++ [nI (97 + wN W)]) ++ [nI 32]) ++ dgS ta) ++ [nI 32]) ++ dgS go) := (((((hPl.ap (Pl_s (by decide))).ap (Pl_c (by omega))).ap (Pl_c (by decide))).ap (Pl_d (by omega))).ap (Pl_c (by decide))).ap (Pl_d (by omega))
  have no : ∀ v9, WP mL_law (d + 23) 223 [.ref (rf 27 0), .ref (rf 10 0), .ref (rf 32 0), .int x3, .ref (rf 12 1), .int x5, .int (nI (wN W)), .int x7, .ref (rf 11 (wN W)), v9] [] M2 Q := fun v9 => by
    refine lw_tail (M0 := M0) (Y := acY Y (wN W) (nI (wN W + 1)) (nI ta) (nI go)) hB2 rfl hk c11 c33 h2 hF2 (by omega) c36 (hX.cr hk (by omega) (by omega)) ?_ p2 ?_ hz (by omega) (by omega) hq
    · have := hP.cr hX hk (ta := ta) (go := go) (by omega) (by omega) (by omega)
      unfold crT at this
      simpa only [List.append_assoc, List.cons_append, List.nil_append] using this
    · simp only [List.length_append, List.length_cons, List.length_nil, sBy_len, sl4, eta, ego]
      omega
  by_cases z0 : wN W = 0
  · skip
    refine R.iload dL_law_132 rfl ?_
    refine R.if_le (tgt := 223) dL_law_134 (by decide) (fun _ => ?_) (fun c => absurd (by rw [z0]; decide) c)
    exact no _
  by_cases z9 : ¬ biX x7 9 1 = 0
  · skip
    refine R.iload dL_law_132 rfl ?_
    refine R.if_le (tgt := 223) dL_law_134 (by decide) (fun c => absurd (nI_lt (a := 0) (by omega) (by omega)) (i_nl2 c)) (fun _ => ?_)
    refine R.iload dL_law_137 rfl ?_
    refine R.bipush (v := 9) dL_law_139 (by decide) ?_
    refine R.iconst (v := 1) dL_law_141 rfl ?_
    refine cl_L_181 rfl rfl (by first | exact Nat.le_of_ble_eq_true rfl | simp [rf_cat, Value.category]) dL_law_142 ?_
    refine s_bits ?_
    refine R.if_ne (tgt := 223) dL_law_145 (by decide) (fun _ => ?_) (fun c => absurd c z9)
    exact no _
  have z9 := Classical.not_not.mp z9
  have hlt : b0 % wN W < wN W := Nat.mod_lt _ (by omega)
  obtain ⟨j, hj⟩ : ∃ j, j = b0 % wN W := ⟨_, rfl⟩
  rw [← hj] at hlt
  refine R.iload dL_law_132 rfl ?_
  refine R.if_le (tgt := 223) dL_law_134 (by decide) (fun c => absurd (nI_lt (a := 0) (by omega) (by omega)) (i_nl2 c)) (fun _ => ?_)
  refine R.iload dL_law_137 rfl ?_
  refine R.bipush (v := 9) dL_law_139 (by decide) ?_
  refine R.iconst (v := 1) dL_law_141 rfl ?_
  refine cl_L_181 rfl rfl (by first | exact Nat.le_of_ble_eq_true rfl | simp [rf_cat, Value.category]) dL_law_142 ?_
  refine s_bits ?_
  refine R.if_ne (tgt := 223) dL_law_145 (by decide) (fun c => absurd z9 c) (fun _ => ?_)
  refine R.aload_n dL_law_148 rfl (by first | rfl | exact rfv_rf _) ?_
  refine R.getS (hW2.y) dL_law_149 fl_L_84 (by decide) rfl ?_
  refine R.iload dL_law_152 rfl ?_
  refine R.bipush (v := 10) dL_law_154 (by decide) ?_
  refine R.iconst (v := 3) dL_law_156 rfl ?_
  refine cl_L_181 rfl rfl (by first | exact Nat.le_of_ble_eq_true rfl | simp [rf_cat, Value.category]) dL_law_157 ?_
  refine s_bits ?_
  rw [eb]
  refine R.iload dL_law_160 rfl ?_
  refine R.irem dL_law_162 (fun z => by have := (nI_inj (b := 0) (by omega) (by omega)).mp z; omega) ?_
  rw [rm_nI (by omega) (by omega) (by omega), ← hj]
  refine ic_L_160 rfl (by first | exact Nat.le_of_ble_eq_true rfl | simp [rf_cat, Value.category]) dL_law_163 ?_
  refine s_alGet hW2.all (rg_at hlt) ?_
  refine ⟨_, rfl, ?_⟩
  refine R.cast (k0 := 11) rfl (rcv_own (k := 11) rfl) cw_L_104 dL_law_168 ?_
  refine R.astore dL_law_171 (by first | rfl | exact rfv_rf _) (Nat.le_of_ble_eq_true rfl) (by decide) (by first | rfl | simp [lft, rf_cat]) rfl ?_
  refine R.aload dL_law_173 rfl (by first | rfl | exact rfv_rf _) ?_
  skip
  by_cases zd : ¬ dp Y j < 5
  · skip
    refine cl_L_131 rfl rfl (by first | exact Nat.le_of_ble_eq_true rfl | simp [rf_cat, Value.category]) dL_law_175 ?_
    refine s_ldep 5 j (d + 17) (by decide) hlt (hX.ac (by omega)) hW2 ?_
    rw [← hX.dpe j]
    have d5 := dp_le Y j
    refine R.iconst (v := nI 5) dL_law_178 rfl ?_
    refine R.icmp_ge (tgt := 223) dL_law_179 (by decide) (fun _ => ?_) (fun c => absurd (Int32.not_lt.mp (nI_nlt (by omega) (by omega))) c)
    exact no _
  have zd := Classical.not_not.mp zd
  refine cl_L_131 rfl rfl (by first | exact Nat.le_of_ble_eq_true rfl | simp [rf_cat, Value.category]) dL_law_175 ?_
  refine s_ldep 5 j (d + 17) (by decide) hlt (hX.ac (by omega)) hW2 ?_
  rw [← hX.dpe j]
  refine R.iconst (v := nI 5) dL_law_178 rfl ?_
  refine R.icmp_ge (tgt := 223) dL_law_179 (by decide) (fun c => absurd (nI_lt zd (by omega)) (Int32.not_lt.mpr c)) (fun _ => ?_)
  refine R.aload dL_law_182 rfl (by first | rfl | exact rfv_rf _) ?_
  refine R.aload dL_law_184 rfl (by first | rfl | exact rfv_rf _) ?_
  skip
  first | refine R.putA dL_law_186 fl_L_124 (fun q hq => by cases hq; exact Or.inl rfl) rfl ?_ | refine R.putN dL_law_186 fl_L_124 (fun q hq => by cases hq; exact Or.inl rfl) rfl ?_ | refine R.putR dL_law_186 fl_L_124 (fun q hq => by cases hq; exact Or.inl rfl) rfl ?_
  skip
  obtain ⟨M3, hM3⟩ : ∃ M3, M3 = sR M2 11 (wN W) 6 (some (rf 11 j)) := ⟨_, rfl⟩
  rw [← hM3]
  have hN : wN (newW W (nI ta) (nI go)) = wN W + 1 := rfl
  have hB3 : LB (wN W) M3 (vP (newW W (nI ta) (nI go)) (wN W) (some j)) := by
    rw [hM3]
    exact hB2.sP (k := wN W) (o := some j) (fun j' e => by cases e; rw [hN]; omega)
  have hj3 : j < wN (vP (newW W (nI ta) (nI go)) (wN W) (some j)) := by show j < wN W + 1; omega
  have r := hX.rk.2 j hlt
  have eC3 : wC (vP (newW W (nI ta) (nI go)) (wN W) (some j)) j = wC W j := (nw_C (ta := nI ta) (go := nI go) j).trans (if_neg (by omega))
  have hlen : (wC (vP (newW W (nI ta) (nI go)) (wN W) (some j)) j).length ≤ 16 := by
    rw [eC3]
    exact nd_len 16 _ (r.ch.nd) fun x hx => ((r.ch.1 x).mp hx).1
  refine R.aload dL_law_189 rfl (by first | rfl | exact rfv_rf _) ?_
  refine R.getS ((hB3.c hj3).r7) dL_law_191 fl_L_137 (by decide) rfl ?_
  refine R.aload dL_law_194 rfl (by first | rfl | exact rfv_rf _) ?_
  refine ic_L_213 rfl (by first | exact Nat.le_of_ble_eq_true rfl | simp [rf_cat, Value.category]) dL_law_196 ?_
  refine s_alAdd (hB3.c hj3).ch (by rw [List.length_map]; omega) elc_all (fun M9 => el_cr) (fun M4 E4 hA => ?_)
  obtain ⟨a1, a2, a3, a4⟩ := hA
  refine ⟨_, rfl, ?_⟩
  refine R.pop dL_law_201 (by first | rfl | exact rf_cat _) ?_
  skip
  have hB4 : LB (wN W) M4 (hangW (newW W (nI ta) (nI go)) (wN W) j E4) := by
    refine hB3.sC hj3 a2 (l := wC (vP (newW W (nI ta) (nI go)) (wN W) (some j)) j ++ [wN W]) (by rw [List.map_append]; exact a1) a3 (fun c hc => ?_)
    rcases List.mem_append.mp hc with hc | hc
    · exact (hB3.c hj3).cn c hc
    · rw [List.mem_singleton.mp hc]; exact Nat.lt_succ_self _
  have F3 : FC (inQ c0) M2 M3 := by rw [hM3]; exact (FC.rf _ _).sR (Or.inl (by unfold inK; omega))
  have hF4 : FC (inQ c0) M0 M4 := (hF2.tr F3).tr (a2.fc SL_K)
  have s3 : Sc c0 M3 q2 _ := h2.sm (M' := M3) (by rw [hM3]; exact ⟨rfl, rfl, by funext f; rw [mR_sR, if_neg (by omega)], rfl, rfl⟩) (fun v => by rw [hM3]; exact ⟨rfl, rfl, by funext f; rw [mR_sR, if_neg (by omega)], rfl, rfl⟩) (by rw [hM3]; rfl)
  have s4 := s3.fx a2 SL_K
  have n0 : mI M4 11 j 0 = nI j := by
    rw [(hB4.c (k := j) (by show j < wN W + 1; omega)).i]
    exact ((nw_I (W := W) (ta := nI ta) (go := nI go) (i := j) (f := 0) (by omega)).trans r.1)
  have C3 : mC M3 = mC M2 := by rw [hM3]; rfl
  have K3 : mK M3 = mK M2 := by rw [hM3]; rfl
  have S3 : mS M3 = mS M2 := by rw [hM3]; rfl
  have k1 := a2.2.2.2.1
  have k2 := a2.2.2.2.2
  refine lw_in s4 (by omega) n0 (by simp only [List.length_append, List.length_cons, List.length_nil, sBy_len, sl4, eta, ego]; omega) (fun M5 q5 h5 F5 G5 => ?_)
  have m13 := F5.2.2
  have m4 : mC M4 13 = mC M2 13 := by rw [a4 13 (by decide), C3]
  obtain ⟨y1, y2, y3⟩ := G5
  refine lw_tail (M0 := M0) (Y := neY (acY Y (wN W) (nI (wN W + 1)) (nI ta) (nI go)) (wN W) j) (hB4.gr F5.gr) rfl hk (by rw [F5.2.1 11 (by decide), a4 11 (by decide), C3]; exact c11) (by rw [F5.2.1 33 (by decide), a4 33 (by decide), C3]; exact c33) h5 (hF4.tr F5.fc) (by omega) (by rw [F5.2.1 36 (by decide), a4 36 (by decide), C3]; exact c36) (hX.ne hk hlt (by omega) (by omega) zd) ?_ ((p2.ap (Pl_s (by decide))).ap (Pl_c (by omega))) ?_ hz (by omega) (by omega) hq
  · have := hP.ne hX hk hlt zd (ta := ta) (go := go) (by omega) (by omega) (by omega)
    unfold crT at this
    simpa only [List.append_assoc, List.cons_append, List.nil_append] using this
  · simp only [List.length_append, List.length_cons, List.length_nil, sBy_len, sl4, sl5, eta, ego]
    omega
