/-! the law's first half: its loop, its last line, the reading -/
set_option maxHeartbeats 1000000 in
set_option maxRecDepth 8000 in
theorem lw_crates {d c0 n : Nat} {x3 : Int32} {M0 : Mem} {Q : Out → Mem → Prop} (hn : n ≤ 9) (hm : mN M0 27 0 < 2 ^ 31) (hq : ∀ M cap O Y W v7 v8 v9, RI c0 M0 n M cap O Y W → WP mL_law (d + 23) 249 [.ref (rf 27 0), .ref (rf 10 0), .ref (rf 32 0), .int x3, .ref (rf 12 1), .int (nI n), .int (nI n), v7, v8, v9] [] M Q) : ∀ (f k cap : Nat) (M : Mem) (O : List Int32) (Y : Yd) (W : LW) (v7 v8 v9 : Value), k + f = n → RI c0 M0 k M cap O Y W → WP mL_law (d + 23) 44 [.ref (rf 27 0), .ref (rf 10 0), .ref (rf 32 0), .int x3, .ref (rf 12 1), .int (nI n), .int (nI k), v7, v8, v9] [] M Q := by
  intro f
  induction f with
  | zero =>
    intro k cap M O Y W v7 v8 v9 hk h
    have e : k = n := by omega
    subst e
    refine R.iload dL_law_44 rfl ?_
    refine R.iload dL_law_46 rfl ?_
    refine R.icmp_ge (tgt := 249) dL_law_48 (by decide) (fun _ => ?_) (fun z => absurd (Int32.le_refl _) z)
    exact hq M cap O Y W _ _ _ h
  | succ f ih =>
    intro k cap M O Y W v7 v8 v9 hk h
    refine R.iload dL_law_44 rfl ?_
    refine R.iload dL_law_46 rfl ?_
    refine R.icmp_ge (tgt := 249) dL_law_48 (by decide) (fun z => absurd (nI_lt (show k < n by omega) (by omega)) (Int32.not_lt.mpr z)) (fun _ => ?_)
    skip
    obtain ⟨e, h2⟩ : wN W = k ∧ True := ⟨h.2.1, trivial⟩
    subst e
    exact lw_round h (by omega) hm (fun M1 c1 O1 Y1 W1 w7 w8 w9 h1 => ih (wN W + 1) c1 M1 O1 Y1 W1 w7 w8 w9 (by omega) h1)
theorem Sc.s32 {c0 cap f : Nat} {v : Int32} {O : List Int32} {M : Mem} (h : Sc c0 M cap O) : Sc c0 (sI M 32 0 f v) cap O :=
  h.sm ⟨by funext j; rw [mI_sI, if_neg (by omega)], rfl, rfl, rfl, rfl⟩ (fun w => ⟨by funext j; rw [mI_sI, if_neg (by omega)], rfl, rfl, rfl, rfl⟩) rfl
set_option maxHeartbeats 4000000 in
set_option maxRecDepth 8000 in
theorem lw_num {d c0 cap : Nat} {x3 x5 : Int32} {v6 v7 v8 v9 : Value} {O : List Int32} {M : Mem} {Q : Out → Mem → Prop} {W : LW} (hW : LM M W) (hm : mN M 27 0 < 2 ^ 31) (hS : Sc c0 M cap O) (hq : ∀ M' mo tol tr am ag sd, mo ≤ 200 → tol ≤ 3 → tr ≤ 100 → am ≤ 50 → 1 ≤ ag → ag ≤ 100 → sd ≤ 9999 → LM M' (numW W mo tol tr am ag sd) → Sc c0 M' cap O → FC (inQ c0) M M' → mC M' = mC M → mK M' = mK M → mS M' = mS M → WP mL_law (d + 23) 328 [.ref (rf 27 0), .ref (rf 10 0), .ref (rf 32 0), .int x3, .ref (rf 12 1), .int x5, v6, v7, v8, v9] [] M' Q) : WP mL_law (d + 23) 249 [.ref (rf 27 0), .ref (rf 10 0), .ref (rf 32 0), .int x3, .ref (rf 12 1), .int x5, v6, v7, v8, v9] [] M Q := by
  obtain ⟨k1, h1, e1⟩ := bi_in x3 3 (b := 6) (n := 6) (by decide) (by decide)
  obtain ⟨tol, h2, e2⟩ := bi_in x3 9 (b := 2) (n := 2) (by decide) (by decide)
  obtain ⟨k3, h3, e3⟩ := bi_in x3 11 (b := 4) (n := 4) (by decide) (by decide)
  obtain ⟨am, h4, e4⟩ := bi_in x3 15 (b := 3) (n := 3) (by decide) (by decide)
  obtain ⟨k5, h5, e5⟩ := bi_in x3 18 (b := 2) (n := 2) (by decide) (by decide)
  refine R.aload_n dL_law_249 rfl (by first | rfl | exact rfv_rf _) ?_
  refine R.bipush (v := nI 60) dL_law_250 (by decide) ?_
  refine R.iload_n dL_law_252 rfl ?_
  refine R.iconst (v := 3) dL_law_253 rfl ?_
  refine R.bipush (v := 6) dL_law_254 (by decide) ?_
  refine cl_L_181 rfl rfl (by first | exact Nat.le_of_ble_eq_true rfl | simp [rf_cat, Value.category]) dL_law_256 ?_
  refine s_bits ?_
  rw [e1]
  refine R.iadd dL_law_259 ?_
  rw [nI_add]
  refine R.putI dL_law_260 fl_L_58 (fun q hq => by cases hq; exact Or.inl rfl) (by decide) rfl rfl rfl ?_
  refine R.aload_n dL_law_263 rfl (by first | rfl | exact rfv_rf _) ?_
  refine R.iload_n dL_law_264 rfl ?_
  refine R.bipush (v := 9) dL_law_265 (by decide) ?_
  refine R.iconst (v := 2) dL_law_267 rfl ?_
  refine cl_L_181 rfl rfl (by first | exact Nat.le_of_ble_eq_true rfl | simp [rf_cat, Value.category]) dL_law_268 ?_
  refine s_bits ?_
  rw [e2]
  refine R.putI dL_law_271 fl_L_246 (fun q hq => by cases hq; exact Or.inl rfl) (by decide) rfl rfl rfl ?_
  refine R.aload_n dL_law_274 rfl (by first | rfl | exact rfv_rf _) ?_
  refine R.bipush (v := nI 20) dL_law_275 (by decide) ?_
  refine R.iload_n dL_law_277 rfl ?_
  refine R.bipush (v := 11) dL_law_278 (by decide) ?_
  refine R.iconst (v := 4) dL_law_280 rfl ?_
  refine cl_L_181 rfl rfl (by first | exact Nat.le_of_ble_eq_true rfl | simp [rf_cat, Value.category]) dL_law_281 ?_
  refine s_bits ?_
  rw [e3]
  refine R.iadd dL_law_284 ?_
  rw [nI_add]
  refine R.putI dL_law_285 fl_L_64 (fun q hq => by cases hq; exact Or.inl rfl) (by decide) rfl rfl rfl ?_
  refine R.aload_n dL_law_288 rfl (by first | rfl | exact rfv_rf _) ?_
  refine R.iload_n dL_law_289 rfl ?_
  refine R.bipush (v := 15) dL_law_290 (by decide) ?_
  refine R.iconst (v := 3) dL_law_292 rfl ?_
  refine cl_L_181 rfl rfl (by first | exact Nat.le_of_ble_eq_true rfl | simp [rf_cat, Value.category]) dL_law_293 ?_
  refine s_bits ?_
  rw [e4]
  refine R.putI dL_law_296 fl_L_82 (fun q hq => by cases hq; exact Or.inl rfl) (by decide) rfl rfl rfl ?_
  refine R.aload_n dL_law_299 rfl (by first | rfl | exact rfv_rf _) ?_
  refine R.iconst (v := nI 1) dL_law_300 rfl ?_
  refine R.iload_n dL_law_301 rfl ?_
  refine R.bipush (v := 18) dL_law_302 (by decide) ?_
  refine R.iconst (v := 2) dL_law_304 rfl ?_
  refine cl_L_181 rfl rfl (by first | exact Nat.le_of_ble_eq_true rfl | simp [rf_cat, Value.category]) dL_law_305 ?_
  refine s_bits ?_
  rw [e5]
  refine R.iadd dL_law_308 ?_
  rw [nI_add]
  refine R.putI dL_law_309 fl_L_39 (fun q hq => by cases hq; exact Or.inl rfl) (by decide) rfl rfl rfl ?_
  refine R.aload_n dL_law_312 rfl (by first | rfl | exact rfv_rf _) ?_
  refine R.aload_n dL_law_313 rfl (by first | rfl | exact rfv_rf _) ?_
  refine R.bipush (v := nI 10) dL_law_314 (by decide) ?_
  refine cl_L_257 rfl rfl (by first | exact Nat.le_of_ble_eq_true rfl | simp [rf_cat, Value.category]) dL_law_316 ?_
  refine s_cell (by omega) (show mN M 27 0 < 2 ^ 31 from hm) (fun x9 => ?_)
  skip
  obtain ⟨sd, h6, e6⟩ := bi_in x9 0 (b := 12) (n := 12) (by decide) (by decide)
  refine R.iconst (v := 0) dL_law_319 rfl ?_
  refine R.bipush (v := 12) dL_law_320 (by decide) ?_
  refine cl_L_181 rfl rfl (by first | exact Nat.le_of_ble_eq_true rfl | simp [rf_cat, Value.category]) dL_law_322 ?_
  refine s_bits ?_
  rw [e6]
  refine R.putI dL_law_325 fl_L_281 (fun q hq => by cases hq; exact Or.inl rfl) (by decide) rfl rfl rfl ?_
  skip
  have i32 : inQ c0 32 0 := Or.inl (by unfold inK; omega)
  exact hq _ (60 + k1) tol (20 + k3) am (1 + k5) sd (by omega) (by omega) (by omega) (by omega) (by omega) (by omega) (by omega) hW.sY.sY.sY.sY.sY.sY hS.s32.s32.s32.s32.s32.s32 (((((((FC.rf _ _).sI i32).sI i32).sI i32).sI i32).sI i32).sI i32) rfl rfl rfl
/-- the string laid: what is as it was -/
theorem FC.cpA {T : Nat → Nat → Prop} {M M' : Mem} {v w n : Nat} (h : FC T M M') (hs : T 13 w) : FC T M (cpA M' v w n) := fun k i hn => by
  have h9 := h k i hn
  refine ⟨?_, h9.2⟩
  funext j
  rw [mI_cpA, if_neg (by rintro ⟨rfl, rfl, -⟩; exact hn hs), h9.1]
section TOM
variable {M : Mem} {c0 v n : Nat}
def inU (c0 k i : Nat) : Prop := k = 36 ∨ (k = 13 ∧ c0 ≤ i)
theorem to_13 : mC (sI (al M 36 0 4) 36 (mC M 36) 1 0) 13 = mC M 13 := by
  show mC (al M 36 0 4) 13 = _
  rw [mC_al, if_neg (by decide)]
theorem to_FC (h : c0 ≤ mC M 13) : FC (inU c0) M (toM M v n) := by
  have t : inU c0 13 (mC M 13) := Or.inr ⟨rfl, h⟩
  exact ((((((FC.rf _ _).al (Or.inl rfl)).sI (Or.inl rfl)).al (by rw [to_13]; exact t)).cpA t).sR (Or.inl rfl))
theorem to_C (k : Nat) : mC (toM M v n) k = if k = 13 then mC M 13 + 1 else if k = 36 then mC M 36 + 1 else mC M k := by
  show mC (al (sI (al M 36 0 4) 36 (mC M 36) 1 0) 13 n n) k = _
  rw [mC_al, to_13]
  split
  · rfl
  · show mC (al M 36 0 4) k = _
    rw [mC_al]
theorem to_K : mK (toM M v n) = mK M + 2 := rfl
theorem to_S : mS (toM M v n) = mS M + 4 + n := rfl
theorem to_St {O : List Int32} (hO : ∀ i x, O[i]? = some x → mI M 13 v i = x) (hv : v < mC M 13) : StO (toM M v O.length) (mC M 36) (mC M 13) O := by
  refine ⟨?_, ?_, ?_, fun j x hx => ?_⟩
  · unfold toM
    rw [mR_sR, if_pos ⟨rfl, rfl, rfl⟩]
  · show mI (cpA (al (sI (al M 36 0 4) 36 (mC M 36) 1 0) 13 O.length O.length) v (mC M 13) O.length) 36 (mC M 36) 1 = 0
    rw [mI_cpA, if_neg (by omega), mI_al, if_neg (by omega), mI_sI, if_pos ⟨rfl, rfl, rfl⟩]
  · show mN (al (sI (al M 36 0 4) 36 (mC M 36) 1 0) 13 O.length O.length) 13 (mC M 13) = _
    rw [mN_al, to_13, if_pos ⟨rfl, rfl⟩]
  · have hj := (List.getElem?_eq_some_iff.mp hx).1
    show mI (cpA (al (sI (al M 36 0 4) 36 (mC M 36) 1 0) 13 O.length O.length) v (mC M 13) O.length) 13 (mC M 13) j = x
    rw [mI_cpA, if_pos ⟨rfl, rfl, hj⟩, mI_al, to_13, if_neg (by omega), mI_sI, if_neg (by omega), mI_al, if_neg (by omega)]
    exact hO j x hx
theorem to_gr {g9 : Nat} : Gu g9 M (toM M v n) :=
  ⟨fun k i hk _ _ => to_FC (c0 := 0) (Nat.zero_le _) k i (by unfold inL at hk; unfold inU; omega), fun k hk => by rw [to_C, if_neg (by unfold inL at hk; omega), if_neg (by unfold inL at hk; omega)]; exact Nat.le_refl _⟩
theorem FTl.gr {t g9 : Nat} {M' : Mem} (F : FTl t M M') : Gu g9 M M' :=
  ⟨fun k i hk _ _ => F.1 k i (by unfold inL at hk; omega) (by unfold inL at hk; unfold inT; omega), fun k hk => by rw [F.2.1 k (by unfold inL at hk; omega)]; exact Nat.le_refl _⟩
end TOM
section LDA
variable {Y : Yd} {W : LW} {O : List Int32} {b : Nat → Int32} {mo tol tr am ag sd : Nat}
theorem PX.bnw (h : PX Y W) : bnF Y (nI 1) 6 0 = none := by
  have z : ∀ j, j < 6 → ¬ yB Y j 1 = nI 1 := fun j hj e => by
    rw [h.pv.c.2.2.2.2.2.1 j hj (Nat.zero_le _)] at e
    exact absurd e (by decide)
  unfold bnF bnF bnF bnF bnF bnF bnF
  rw [if_neg (z 0 (by decide)), if_neg (z 1 (by decide)), if_neg (z 2 (by decide)), if_neg (z 3 (by decide)), if_neg (z 4 (by decide)), if_neg (z 5 (by decide))]
theorem ld_all (hX : PX Y W) (hP : PTX Y (wN W) O) (n2 : 2 ≤ wN W) (hB : bA b 0 (O ++ ftT mo tol tr am ag sd)) (h1 : mo ≤ 9999) (h2 : tol ≤ 50) (h3 : tr ≤ 100) (h4 : am ≤ 50) (h5 : 1 ≤ ag) (h6 : ag ≤ 100) (h7 : sd ≤ 9999) : suP b (O ++ ftT mo tol tr am ag sd).length 600 0 blY = .inr ((O ++ ftT mo tol tr am ag sd).length, ftY Y mo tol tr am ag sd) := by
  have n9 : wN W ≤ 9 := hX.2.2.2.2.2.2.1
  have hb := hB.r
  rw [Nat.zero_add] at hb
  have hl : (O ++ ftT mo tol tr am ag sd).length = O.length + (40 + szF mo + szF tol + szF tr + szF am + szF ag + szF sd) := by rw [List.length_append, ftT_len (by omega) (by omega) (by omega) (by omega) (by omega) (by omega)]
  rw [show 600 = (594 - wN W + 6) + wN W by omega, hP b _ _ hB.f1 (by rw [hl]; omega)]
  exact ld_ft hb hl hX.pv.dy.w hX.bnw (by rw [hX.pv.f4]; exact nI_lt (a := 0) (by omega) (by omega)) h1 h2 h3 h4 h5 h6 h7
end LDA
set_option maxHeartbeats 4000000 in
set_option maxRecDepth 8000 in
theorem lw_rest {d c0 cap mo tol tr am ag sd : Nat} {x3 : Int32} {v6 v7 v8 v9 : Value} {O Z : List Int32} {M0 M : Mem} {S0 : KS} {Y : Yd} {W : LW} {Q : Out → Mem → Prop} (hZ : Z = O ++ ftT mo tol tr am ag sd) (h1 : mo ≤ 200) (h2 : tol ≤ 3) (h3 : tr ≤ 100) (h4 : am ≤ 50) (h5 : 1 ≤ ag) (h6 : ag ≤ 100) (h7 : sd ≤ 9999) (n2 : 2 ≤ wN W) (hW : LM M (numW W mo tol tr am ag sd)) (hS : Sc c0 M cap Z) (hF : FC (inQ c0) M0 M) (h0 : mC M0 13 ≤ c0) (h13 : mC M0 13 ≤ mC M 13) (hC : CSt M0 S0 0) (hN : kN S0 = 0) (hX : PX Y W) (hP : PTX Y (wN W) O) (hPl : Pl Z) (hl : Z.length ≤ 300) (hz : ∀ f, wYs W f = 0) (hm : mN M0 27 0 < 2 ^ 31) (hq : ∀ M', mK M' ≤ mK M + 61500 → mS M' ≤ mS M + 164000 → Q (.inl (some (.int 1))) M') : WP mL_law (d + 23) 412 [.ref (rf 27 0), .ref (rf 10 0), .ref (rf 32 0), .int x3, .ref (rf 12 1), .int (nI (wN W)), v6, v7, v8, v9] [] M Q := by
  have hS9 := hS
  obtain ⟨⟨v, a1, a2, a3, a4, a5, a6⟩, b1, b2, b3, b4⟩ := hS9
  have hIV := hX.fin hz n2 h1 h2 h3 h4 h5 h6 h7
  have hC1 : CSt (toM M v Z.length) S0 0 := hC.fq (hF.tr ((to_FC (c0 := c0) (by omega)).mo (fun k i z => by unfold inU at z; unfold inQ inK; omega))) h0 (by rw [to_C, if_pos rfl]; omega)
  have hW1 : LM (toM M v Z.length) (numW W mo tol tr am ag sd) := hW.gr to_gr
  have hSt : StO (toM M v Z.length) (mC M 36) (mC M 13) Z := to_St a5 a3
  have m1 : mN (toM M v Z.length) 27 0 < 2 ^ 31 := by
    rw [((to_FC (c0 := 0) (v := v) (n := Z.length) (Nat.zero_le _)) 27 0 (by unfold inU; omega)).2.2.2.2, (hF 27 0 (by unfold inQ inK; omega)).2.2.2.2]
    exact hm
  have k1 : mK (toM M v Z.length) = mK M + 2 := to_K
  have s1 : mS (toM M v Z.length) = mS M + 4 + Z.length := to_S
  refine R.aload_n dL_law_412 rfl (by first | rfl | exact rfv_rf _) ?_
  refine R.aload dL_law_413 rfl (by first | rfl | exact rfv_rf _) ?_
  refine cl_L_292 rfl rfl (by first | exact Nat.le_of_ble_eq_true rfl | simp [rf_cat, Value.category]) dL_law_415 ?_
  refine t_toS hS a1 ?_
  skip
  generalize hM1 : toM M v Z.length = M1 at *
  refine cl_L_296 rfl rfl (by first | exact Nat.le_of_ble_eq_true rfl | simp [rf_cat, Value.category]) dL_law_418 ?_
  refine WPc.mono (s_told (d := d) (Q := fun o M3 => o = .inl none ∧ ∃ M2 S', CSt M3 S' 0 ∧ kN S' = Z.length ∧ (∀ j x, Z[j]? = some x → kB S' j = x) ∧ (∃ t, t ≤ 15 ∧ FTl t M1 M2) ∧ FrK M2 M3) hC1 hN hPl hl (by omega) hSt (fun M2 M3 S' c1 c2 c3 c4 c5 => ⟨rfl, M2, S', c1, c2, c3, c4, c5⟩)) (fun o9 M3 hmo ho => ?_)
  obtain ⟨rfl, M2, S', c1, c2, c3, ⟨t, c4, c5⟩, c6⟩ := ho
  show WP _ _ _ _ _ _ _
  skip
  have m3 : mN M3 27 0 < 2 ^ 31 := by rw [hmo.2.2.2.1]; exact m1
  have hW3 : LM M3 (numW W mo tol tr am ag sd) := (hW1.gr c5.gr).fk c6
  have k2 := c5.2.2.1
  have s2 := c5.2.2.2
  have k3 := c6.2.2.1
  have s3 := c6.2.2.2
  have hld : rLod S' 0 = .inr (nI (wN W), (ftY Y mo tol tr am ag sd, none, [], kB S', 0, 0, -1, kO S'), 0) := by
    have hb : bA (kB S') 0 (O ++ ftT mo tol tr am ag sd) := fun j x hx => by rw [Nat.zero_add]; exact c3 j x (by rw [hZ]; exact hx)
    have e := ld_all hX hP n2 hb (by omega) (by omega) h3 h4 h5 h6 h7
    rw [← hZ, ← c2] at e
    unfold rLod
    rw [e]
    show Sum.inr (yF (ftY Y mo tol tr am ag sd) 4, _, 0) = _
    rw [hIV.pv.f4]
    rfl
  refine R.aload_n dL_law_421 rfl (by first | rfl | exact rfv_rf _) ?_
  refine cl_L_300 rfl rfl (by first | exact Nat.le_of_ble_eq_true rfl | simp [rf_cat, Value.category]) dL_law_422 ?_
  refine WPc.mono (c_loadYard (d := d + 2) (Q := fun o M4 => o = .inl (some (.int (nI (wN W)))) ∧ CSt M4 (ftY Y mo tol tr am ag sd, none, [], kB S', 0, 0, -1, kO S') 0 ∧ FrK M3 M4) c1 (QR_g hld (fun M4 d1 d2 => ⟨rfl, d1, d2⟩))) (fun o9 M4 hmo2 ho => ?_)
  obtain ⟨rfl, d1, d2⟩ := ho
  show WP _ _ _ _ _ _ _
  skip
  have m4 : mN M4 27 0 < 2 ^ 31 := by rw [hmo2.2.2.2.1]; exact m3
  have hW4 : LM M4 (numW W mo tol tr am ag sd) := hW3.fk d2
  have k4 := d2.2.2.1
  have s4 := d2.2.2.2
  refine R.iload dL_law_425 rfl ?_
  refine R.icmp_ne (tgt := 438) dL_law_427 (by decide) (fun z => absurd rfl z) (fun _ => ?_)
  refine R.aload_n dL_law_430 rfl (by first | rfl | exact rfv_rf _) ?_
  refine R.aload_n dL_law_431 rfl (by first | rfl | exact rfv_rf _) ?_
  refine cl_L_303 rfl rfl (by first | exact Nat.le_of_ble_eq_true rfl | simp [rf_cat, Value.category]) dL_law_432 ?_
  refine WPc.mono (s_isWhole (d := d + 1) (Q := fun o M5 => o = .inl (some (.int 1)) ∧ LM M5 (numW W mo tol tr am ag sd) ∧ Fx Sz 91 364 M4 M5) d1 hW4 hIV.wh (fun M5 e1 e2 => ⟨rfl, e1, e2⟩)) (fun o9 M5 hmo3 ho => ?_)
  obtain ⟨rfl, e1, e2⟩ := ho
  show WP _ _ _ _ _ _ _
  skip
  have m5 : mN M5 27 0 < 2 ^ 31 := by rw [hmo3.2.2.2.1]; exact m4
  have k5 := e2.2.2.2.1
  have s5 := e2.2.2.2.2
  refine R.if_ne (tgt := 440) dL_law_435 (by decide) (fun _ => ?_) (fun z => absurd z (by decide))
  refine R.iconst (v := nI 0) dL_law_440 rfl ?_
  refine R.istore dL_law_441 (Nat.le_of_ble_eq_true rfl) (by decide) (by first | rfl | simp [lft, rf_cat]) rfl ?_
  skip
  exact lw_loop (M0 := M5) (fun M' z1 z2 => hq M' (by omega) (by omega)) 30 0 9 _ 0 _ M5 v7 v8 v9 rfl (by decide) (Nat.le_refl _) m5 (d1.fz e2) e1 hIV (Nat.le_refl _) (Nat.le_refl _)
