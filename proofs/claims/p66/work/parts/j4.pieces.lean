/-! the law's text, piece by piece -/
set_option maxHeartbeats 1000000 in
set_option maxRecDepth 8000 in
theorem lw_txt {d c0 cap k ta go : Nat} {x3 x5 x7 : Int32} {v9 : Value} {O : List Int32} {M : Mem} {Q : Out → Mem → Prop} (h : Sc c0 M cap O) (hk : k < 9) (ht : ta ≤ 50) (hg : go ≤ 500) (e1 : mI M 11 k 1 = nI ta) (e2 : mI M 11 k 2 = nI go) (hl : O.length + 30 ≤ 300) (hq : ∀ M' cap', Sc c0 M' cap' ((((((O ++ sBy 4) ++ [nI (97 + k)]) ++ [nI (32)]) ++ dgS ta) ++ [nI (32)]) ++ dgS go) → FrT c0 M M' → Gw M M' cap cap' → WP mL_law (d + 23) 132 [.ref (rf 27 0), .ref (rf 10 0), .ref (rf 32 0), .int x3, .ref (rf 12 1), .int x5, .int (nI k), .int x7, .ref (rf 11 k), v9] [] M' Q) : WP mL_law (d + 23) 88 [.ref (rf 27 0), .ref (rf 10 0), .ref (rf 32 0), .int x3, .ref (rf 12 1), .int x5, .int (nI k), .int x7, .ref (rf 11 k), v9] [] M Q := by
  have eta := dgS_len (v := ta) (by omega)
  have ego := dgS_len (v := go) (by omega)
  have b1 := szF_b ta
  have b2 := szF_b go
  refine R.aload dL_law_88 rfl (by first | rfl | exact rfv_rf _) ?_
  refine R.ldcwS (i := 4) rfl dL_law_90 ?_
  refine cl_L_269 rfl rfl (by first | exact Nat.le_of_ble_eq_true rfl | simp [rf_cat, Value.category]) dL_law_93 ?_
  refine t_appS (d := d + 16) (by decide) h (by (try simp only [List.length_append, List.length_cons, List.length_nil, sBy_len, sl4, sl5, sl19, sl20, sl21, sl22]); omega) (fun M1 q1 h1 F1 G1 => ?_)
  refine R.bipush (v := nI 97) dL_law_96 (by decide) ?_
  refine R.iload dL_law_98 rfl ?_
  refine R.iadd dL_law_100 ?_
  rw [nI_add]
  refine R.i2c dL_law_101 ?_
  rw [i2c_k (by omega)]
  refine cl_L_273 rfl rfl (by first | exact Nat.le_of_ble_eq_true rfl | simp [rf_cat, Value.category]) dL_law_102 ?_
  refine t_sbC (d := d + 16) h1 (by omega) (by (try simp only [List.length_append, List.length_cons, List.length_nil, sBy_len, sl4, sl5, sl19, sl20, sl21, sl22]); omega) (fun M2 q2 h2 F2 G2 => ?_)
  have W2 := F1.tr F2
  have G02 := G1.tr G2
  refine R.bipush (v := nI 32) dL_law_105 (by decide) ?_
  refine cl_L_273 rfl rfl (by first | exact Nat.le_of_ble_eq_true rfl | simp [rf_cat, Value.category]) dL_law_107 ?_
  refine t_sbC (d := d + 16) h2 (by omega) (by (try simp only [List.length_append, List.length_cons, List.length_nil, sBy_len, sl4, sl5, sl19, sl20, sl21, sl22]); omega) (fun M3 q3 h3 F3 G3 => ?_)
  have W3 := W2.tr F3
  have G03 := G02.tr G3
  have g1 : mI M3 11 k 1 = nI ta := by rw [(W3.1 11 k (by omega) (by omega)).1]; exact e1
  refine R.aload dL_law_110 rfl (by first | rfl | exact rfv_rf _) ?_
  refine R.getIS (g1) dL_law_112 fl_L_196 (by decide) rfl ?_
  refine cl_L_276 rfl rfl (by first | exact Nat.le_of_ble_eq_true rfl | simp [rf_cat, Value.category]) dL_law_115 ?_
  refine t_sbI (d := d + 16) h3 (by omega) (by (try simp only [List.length_append, List.length_cons, List.length_nil, sBy_len, sl4, sl5, sl19, sl20, sl21, sl22]); omega) (fun M4 q4 h4 F4 G4 => ?_)
  have W4 := W3.tr F4
  have G04 := G03.tr G4
  refine R.bipush (v := nI 32) dL_law_118 (by decide) ?_
  refine cl_L_273 rfl rfl (by first | exact Nat.le_of_ble_eq_true rfl | simp [rf_cat, Value.category]) dL_law_120 ?_
  refine t_sbC (d := d + 16) h4 (by omega) (by (try simp only [List.length_append, List.length_cons, List.length_nil, sBy_len, sl4, sl5, sl19, sl20, sl21, sl22, eta]); omega) (fun M5 q5 h5 F5 G5 => ?_)
  have W5 := W4.tr F5
  have G05 := G04.tr G5
  have g2 : mI M5 11 k 2 = nI go := by rw [(W5.1 11 k (by omega) (by omega)).1]; exact e2
  refine R.aload dL_law_123 rfl (by first | rfl | exact rfv_rf _) ?_
  refine R.getIS (g2) dL_law_125 fl_L_118 (by decide) rfl ?_
  refine cl_L_276 rfl rfl (by first | exact Nat.le_of_ble_eq_true rfl | simp [rf_cat, Value.category]) dL_law_128 ?_
  refine t_sbI (d := d + 16) h5 (by omega) (by (try simp only [List.length_append, List.length_cons, List.length_nil, sBy_len, sl4, sl5, sl19, sl20, sl21, sl22, eta]); omega) (fun M6 q6 h6 F6 G6 => ?_)
  have W6 := W5.tr F6
  have G06 := G05.tr G6
  refine R.pop dL_law_131 (by first | rfl | exact rf_cat _) ?_
  exact hq M6 q6 h6 W6 G06
set_option maxHeartbeats 1000000 in
set_option maxRecDepth 8000 in
theorem lw_in {d c0 cap k j : Nat} {x3 x5 x7 : Int32} {O : List Int32} {M : Mem} {Q : Out → Mem → Prop} (h : Sc c0 M cap O) (hj : j < 9) (e1 : mI M 11 j 0 = nI j) (hl : O.length + 30 ≤ 300) (hq : ∀ M' cap', Sc c0 M' cap' ((O ++ sBy 5) ++ [nI (97 + j)]) → FrT c0 M M' → Gw M M' cap cap' → WP mL_law (d + 23) 223 [.ref (rf 27 0), .ref (rf 10 0), .ref (rf 32 0), .int x3, .ref (rf 12 1), .int x5, .int (nI k), .int x7, .ref (rf 11 k), .ref (rf 11 j)] [] M' Q) : WP mL_law (d + 23) 202 [.ref (rf 27 0), .ref (rf 10 0), .ref (rf 32 0), .int x3, .ref (rf 12 1), .int x5, .int (nI k), .int x7, .ref (rf 11 k), .ref (rf 11 j)] [] M Q := by
  refine R.aload dL_law_202 rfl (by first | rfl | exact rfv_rf _) ?_
  refine R.ldcwS (i := 5) rfl dL_law_204 ?_
  refine cl_L_269 rfl rfl (by first | exact Nat.le_of_ble_eq_true rfl | simp [rf_cat, Value.category]) dL_law_207 ?_
  refine t_appS (d := d + 16) (by decide) h (by (try simp only [List.length_append, List.length_cons, List.length_nil, sBy_len, sl4, sl5, sl19, sl20, sl21, sl22]); omega) (fun M1 q1 h1 F1 G1 => ?_)
  have g1 : mI M1 11 j 0 = nI j := by rw [(F1.1 11 j (by omega) (by omega)).1]; exact e1
  refine R.bipush (v := nI 97) dL_law_210 (by decide) ?_
  refine R.aload dL_law_212 rfl (by first | rfl | exact rfv_rf _) ?_
  refine R.getIS (g1) dL_law_214 fl_L_106 (by decide) rfl ?_
  refine R.iadd dL_law_217 ?_
  rw [nI_add]
  refine R.i2c dL_law_218 ?_
  rw [i2c_k (by omega)]
  refine cl_L_273 rfl rfl (by first | exact Nat.le_of_ble_eq_true rfl | simp [rf_cat, Value.category]) dL_law_219 ?_
  refine t_sbC (d := d + 16) h1 (by omega) (by (try simp only [List.length_append, List.length_cons, List.length_nil, sBy_len, sl4, sl5, sl19, sl20, sl21, sl22]); omega) (fun M2 q2 h2 F2 G2 => ?_)
  have W2 := F1.tr F2
  have G02 := G1.tr G2
  refine R.pop dL_law_222 (by first | rfl | exact rf_cat _) ?_
  exact hq M2 q2 h2 W2 G02
set_option maxHeartbeats 1000000 in
set_option maxRecDepth 8000 in
theorem lw_end {d c0 cap k : Nat} {x3 x5 x7 : Int32} {v9 : Value} {O : List Int32} {M : Mem} {Q : Out → Mem → Prop} (h : Sc c0 M cap O) (hl : O.length + 30 ≤ 300) (hq : ∀ M' cap', Sc c0 M' cap' (O ++ [nI (59)]) → FrT c0 M M' → Gw M M' cap cap' → WP mL_law (d + 23) 44 [.ref (rf 27 0), .ref (rf 10 0), .ref (rf 32 0), .int x3, .ref (rf 12 1), .int x5, .int (nI (k + 1)), .int x7, .ref (rf 11 k), v9] [] M' Q) : WP mL_law (d + 23) 235 [.ref (rf 27 0), .ref (rf 10 0), .ref (rf 32 0), .int x3, .ref (rf 12 1), .int x5, .int (nI k), .int x7, .ref (rf 11 k), v9] [] M Q := by
  refine R.aload dL_law_235 rfl (by first | rfl | exact rfv_rf _) ?_
  refine R.bipush (v := nI 59) dL_law_237 (by decide) ?_
  refine cl_L_273 rfl rfl (by first | exact Nat.le_of_ble_eq_true rfl | simp [rf_cat, Value.category]) dL_law_239 ?_
  refine t_sbC (d := d + 16) h (by omega) (by (try simp only [List.length_append, List.length_cons, List.length_nil, sBy_len, sl4, sl5, sl19, sl20, sl21, sl22]); omega) (fun M1 q1 h1 F1 G1 => ?_)
  refine R.pop dL_law_242 (by first | rfl | exact rf_cat _) ?_
  refine R.iinc dL_law_243 (Nat.le_of_ble_eq_true rfl) (by decide) (by first | rfl | simp [lft, rf_cat]) rfl (inc_nI _) rfl ?_
  refine R.goto (tgt := 44) dL_law_246 (by decide) ?_
  exact hq M1 q1 h1 F1 G1
set_option maxHeartbeats 1000000 in
set_option maxRecDepth 8000 in
theorem lw_ft {d c0 cap mo tol tr am ag sd : Nat} {x3 x5 : Int32} {v6 v7 v8 v9 : Value} {O : List Int32} {M : Mem} {Q : Out → Mem → Prop} (h : Sc c0 M cap O) (y7 : mI M 32 0 7 = nI mo) (y8 : mI M 32 0 8 = nI tol) (y9 : mI M 32 0 9 = nI tr) (y2 : mI M 32 0 2 = nI am) (y3 : mI M 32 0 3 = nI ag) (y1 : mI M 32 0 1 = nI sd) (l1 : mo < 10000) (l2 : tol < 10000) (l3 : tr < 10000) (l4 : am < 10000) (l5 : ag < 10000) (l6 : sd < 10000) (hl : O.length + 64 ≤ 300) (hq : ∀ M' cap', Sc c0 M' cap' (((((((((((((O ++ sBy 19) ++ dgS mo) ++ [nI (32)]) ++ dgS tol) ++ [nI (32)]) ++ dgS tr) ++ sBy 20) ++ dgS am) ++ sBy 21) ++ dgS ag) ++ sBy 22) ++ dgS sd) ++ [nI (59)]) → FrT c0 M M' → Gw M M' cap cap' → WP mL_law (d + 23) 412 [.ref (rf 27 0), .ref (rf 10 0), .ref (rf 32 0), .int x3, .ref (rf 12 1), .int x5, v6, v7, v8, v9] [] M' Q) : WP mL_law (d + 23) 328 [.ref (rf 27 0), .ref (rf 10 0), .ref (rf 32 0), .int x3, .ref (rf 12 1), .int x5, v6, v7, v8, v9] [] M Q := by
  have emo := dgS_len l1
  have b1 := szF_b mo
  have etol := dgS_len l2
  have b2 := szF_b tol
  have etr := dgS_len l3
  have b3 := szF_b tr
  have eam := dgS_len l4
  have b4 := szF_b am
  have eag := dgS_len l5
  have b5 := szF_b ag
  have esd := dgS_len l6
  have b6 := szF_b sd
  refine R.aload dL_law_328 rfl (by first | rfl | exact rfv_rf _) ?_
  refine R.ldcwS (i := 19) rfl dL_law_330 ?_
  refine cl_L_269 rfl rfl (by first | exact Nat.le_of_ble_eq_true rfl | simp [rf_cat, Value.category]) dL_law_333 ?_
  refine t_appS (d := d + 16) (by decide) h (by (try simp only [List.length_append, List.length_cons, List.length_nil, sBy_len, sl4, sl5, sl19, sl20, sl21, sl22]); omega) (fun M1 q1 h1 F1 G1 => ?_)
  have g1 : mI M1 32 0 7 = nI mo := by rw [(F1.1 32 0 (by omega) (by omega)).1]; exact y7
  refine R.aload_n dL_law_336 rfl (by first | rfl | exact rfv_rf _) ?_
  refine R.getIS (g1) dL_law_337 fl_L_58 (by decide) rfl ?_
  refine cl_L_276 rfl rfl (by first | exact Nat.le_of_ble_eq_true rfl | simp [rf_cat, Value.category]) dL_law_340 ?_
  refine t_sbI (d := d + 16) h1 (by omega) (by (try simp only [List.length_append, List.length_cons, List.length_nil, sBy_len, sl4, sl5, sl19, sl20, sl21, sl22]); omega) (fun M2 q2 h2 F2 G2 => ?_)
  have W2 := F1.tr F2
  have G02 := G1.tr G2
  refine R.bipush (v := nI 32) dL_law_343 (by decide) ?_
  refine cl_L_273 rfl rfl (by first | exact Nat.le_of_ble_eq_true rfl | simp [rf_cat, Value.category]) dL_law_345 ?_
  refine t_sbC (d := d + 16) h2 (by omega) (by (try simp only [List.length_append, List.length_cons, List.length_nil, sBy_len, sl4, sl5, sl19, sl20, sl21, sl22, emo]); omega) (fun M3 q3 h3 F3 G3 => ?_)
  have W3 := W2.tr F3
  have G03 := G02.tr G3
  have g3 : mI M3 32 0 8 = nI tol := by rw [(W3.1 32 0 (by omega) (by omega)).1]; exact y8
  refine R.aload_n dL_law_348 rfl (by first | rfl | exact rfv_rf _) ?_
  refine R.getIS (g3) dL_law_349 fl_L_246 (by decide) rfl ?_
  refine cl_L_276 rfl rfl (by first | exact Nat.le_of_ble_eq_true rfl | simp [rf_cat, Value.category]) dL_law_352 ?_
  refine t_sbI (d := d + 16) h3 (by omega) (by (try simp only [List.length_append, List.length_cons, List.length_nil, sBy_len, sl4, sl5, sl19, sl20, sl21, sl22, emo]); omega) (fun M4 q4 h4 F4 G4 => ?_)
  have W4 := W3.tr F4
  have G04 := G03.tr G4
  refine R.bipush (v := nI 32) dL_law_355 (by decide) ?_
  refine cl_L_273 rfl rfl (by first | exact Nat.le_of_ble_eq_true rfl | simp [rf_cat, Value.category]) dL_law_357 ?_
  refine t_sbC (d := d + 16) h4 (by omega) (by (try simp only [List.length_append, List.length_cons, List.length_nil, sBy_len, sl4, sl5, sl19, sl20, sl21, sl22, emo, etol]); omega) (fun M5 q5 h5 F5 G5 => ?_)
  have W5 := W4.tr F5
  have G05 := G04.tr G5
  have g5 : mI M5 32 0 9 = nI tr := by rw [(W5.1 32 0 (by omega) (by omega)).1]; exact y9
  refine R.aload_n dL_law_360 rfl (by first | rfl | exact rfv_rf _) ?_
  refine R.getIS (g5) dL_law_361 fl_L_64 (by decide) rfl ?_
  refine cl_L_276 rfl rfl (by first | exact Nat.le_of_ble_eq_true rfl | simp [rf_cat, Value.category]) dL_law_364 ?_
  refine t_sbI (d := d + 16) h5 (by omega) (by (try simp only [List.length_append, List.length_cons, List.length_nil, sBy_len, sl4, sl5, sl19, sl20, sl21, sl22, emo, etol]); omega) (fun M6 q6 h6 F6 G6 => ?_)
  have W6 := W5.tr F6
  have G06 := G05.tr G6
  refine R.ldcwS (i := 20) rfl dL_law_367 ?_
  refine cl_L_269 rfl rfl (by first | exact Nat.le_of_ble_eq_true rfl | simp [rf_cat, Value.category]) dL_law_370 ?_
  refine t_appS (d := d + 16) (by decide) h6 (by (try simp only [List.length_append, List.length_cons, List.length_nil, sBy_len, sl4, sl5, sl19, sl20, sl21, sl22, emo, etol, etr]); omega) (fun M7 q7 h7 F7 G7 => ?_)
  have W7 := W6.tr F7
  have G07 := G06.tr G7
  have g7 : mI M7 32 0 2 = nI am := by rw [(W7.1 32 0 (by omega) (by omega)).1]; exact y2
  refine R.aload_n dL_law_373 rfl (by first | rfl | exact rfv_rf _) ?_
  refine R.getIS (g7) dL_law_374 fl_L_82 (by decide) rfl ?_
  refine cl_L_276 rfl rfl (by first | exact Nat.le_of_ble_eq_true rfl | simp [rf_cat, Value.category]) dL_law_377 ?_
  refine t_sbI (d := d + 16) h7 (by omega) (by (try simp only [List.length_append, List.length_cons, List.length_nil, sBy_len, sl4, sl5, sl19, sl20, sl21, sl22, emo, etol, etr]); omega) (fun M8 q8 h8 F8 G8 => ?_)
  have W8 := W7.tr F8
  have G08 := G07.tr G8
  refine R.ldcwS (i := 21) rfl dL_law_380 ?_
  refine cl_L_269 rfl rfl (by first | exact Nat.le_of_ble_eq_true rfl | simp [rf_cat, Value.category]) dL_law_383 ?_
  refine t_appS (d := d + 16) (by decide) h8 (by (try simp only [List.length_append, List.length_cons, List.length_nil, sBy_len, sl4, sl5, sl19, sl20, sl21, sl22, emo, etol, etr, eam]); omega) (fun M9 q9 h9 F9 G9 => ?_)
  have W9 := W8.tr F9
  have G09 := G08.tr G9
  have g9 : mI M9 32 0 3 = nI ag := by rw [(W9.1 32 0 (by omega) (by omega)).1]; exact y3
  refine R.aload_n dL_law_386 rfl (by first | rfl | exact rfv_rf _) ?_
  refine R.getIS (g9) dL_law_387 fl_L_39 (by decide) rfl ?_
  refine cl_L_276 rfl rfl (by first | exact Nat.le_of_ble_eq_true rfl | simp [rf_cat, Value.category]) dL_law_390 ?_
  refine t_sbI (d := d + 16) h9 (by omega) (by (try simp only [List.length_append, List.length_cons, List.length_nil, sBy_len, sl4, sl5, sl19, sl20, sl21, sl22, emo, etol, etr, eam]); omega) (fun M10 q10 h10 F10 G10 => ?_)
  have W10 := W9.tr F10
  have G010 := G09.tr G10
  refine R.ldcwS (i := 22) rfl dL_law_393 ?_
  refine cl_L_269 rfl rfl (by first | exact Nat.le_of_ble_eq_true rfl | simp [rf_cat, Value.category]) dL_law_396 ?_
  refine t_appS (d := d + 16) (by decide) h10 (by (try simp only [List.length_append, List.length_cons, List.length_nil, sBy_len, sl4, sl5, sl19, sl20, sl21, sl22, emo, etol, etr, eam, eag]); omega) (fun M11 q11 h11 F11 G11 => ?_)
  have W11 := W10.tr F11
  have G011 := G010.tr G11
  have g11 : mI M11 32 0 1 = nI sd := by rw [(W11.1 32 0 (by omega) (by omega)).1]; exact y1
  refine R.aload_n dL_law_399 rfl (by first | rfl | exact rfv_rf _) ?_
  refine R.getIS (g11) dL_law_400 fl_L_281 (by decide) rfl ?_
  refine cl_L_276 rfl rfl (by first | exact Nat.le_of_ble_eq_true rfl | simp [rf_cat, Value.category]) dL_law_403 ?_
  refine t_sbI (d := d + 16) h11 (by omega) (by (try simp only [List.length_append, List.length_cons, List.length_nil, sBy_len, sl4, sl5, sl19, sl20, sl21, sl22, emo, etol, etr, eam, eag]); omega) (fun M12 q12 h12 F12 G12 => ?_)
  have W12 := W11.tr F12
  have G012 := G011.tr G12
  refine R.bipush (v := nI 59) dL_law_406 (by decide) ?_
  refine cl_L_273 rfl rfl (by first | exact Nat.le_of_ble_eq_true rfl | simp [rf_cat, Value.category]) dL_law_408 ?_
  refine t_sbC (d := d + 16) h12 (by omega) (by (try simp only [List.length_append, List.length_cons, List.length_nil, sBy_len, sl4, sl5, sl19, sl20, sl21, sl22, emo, etol, etr, eam, eag, esd]); omega) (fun M13 q13 h13 F13 G13 => ?_)
  have W13 := W12.tr F13
  have G013 := G012.tr G13
  refine R.pop dL_law_411 (by first | rfl | exact rf_cat _) ?_
  exact hq M13 q13 h13 W13 G013
