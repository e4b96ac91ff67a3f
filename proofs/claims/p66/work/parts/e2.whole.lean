/-! the law's look at all that the two tell -/
theorem QA_s {Q : Out → Mem → Prop} {M M' : Mem} {S : KS} {x v : Int32} {f : Nat → An} {i : Nat} (h : kC (kY S) x = some i) (e : f i = .inl v) (k : Q (.inl (some (.int v))) M') : QA Q M' M (aC S x f) := by
  rw [aC_s h, e]; exact k
theorem QA_u {Q : Out → Mem → Prop} {M M' : Mem} {S : KS} {x v : Int32} {f : Nat → An} {i : Nat} (h : kU (kY S) x = some i) (e : f i = .inl v) (k : Q (.inl (some (.int v))) M') : QA Q M' M (aU S x f) := by
  rw [aU_s h, e]; exact k
theorem QA_w {Q : Out → Mem → Prop} {M M' : Mem} {S : KS} {x v : Int32} {f : Nat → Int32} {i : Nat} (h : kC (kY S) x = some i) (h0 : ¬ yC (kY S) i 8 = 0) (e : f i = v) (k : Q (.inl (some (.int v))) M') : QA Q M' M (aW S x f) := by
  unfold aW
  refine QA_s h ?_ k
  rw [if_neg h0, e]
def pxW (W : LW) (k : Nat) : Int32 := match wP W k with
  | none => -1
  | some j => nI j
/-- what both tell of crate k -/
def WHk (Y : Yd) (W : LW) (k : Nat) : Prop := kC Y (nI k) = some k ∧ wI W k 0 = nI k ∧ hgK W 5 k ∧ yC Y k 4 = grF W 5 k ∧ yC Y k 3 = wI W k 2 ∧ pIx Y k = pxW W k ∧ acyO 5 (wP W) (wP W k) ∧ dp Y k = depO 5 (wP W) (wP W k) ∧ ccF Y 17 (fCh Y k) 0 = (wC W k).length ∧ ¬ yC Y k 7 = wI W k 4 ∧ yC Y k 8 = nI (wR W k).length ∧ (∀ j c, (wC W k)[j]? = some c → coF Y 17 (fCh Y k) 0 (nI j) = nI c) ∧ (wR W k ≠ [] → ¬ yC Y k 8 = 0 ∧ mnOk (smR (wR W k) 0) (nI (wR W k).length) ∧ yMean Y k = mnL (smR (wR W k) 0) (nI (wR W k).length) ∧ yC Y k 11 = laR (wR W k)) ∧ nsF W 5 k ≤ 9
/-- what both tell -/
def WH (Y : Yd) (W : LW) : Prop := Acy Y ∧ YG Y ∧ ChE Y ∧ kU Y 0 = some 0 ∧ ¬ wYs W 3 = 0 ∧ yS Y 3 = wYs W 4 ∧ fSag (yS Y 2) (yS Y 3) = wYs W 4 / wYs W 3 ∧ yT Y 0 = wYs W 5 ∧ yT Y 1 = wYs W 6 ∧ yB Y 0 2 = wYs W 7 ∧ yB Y 0 4 = wYs W 9 ∧ yT Y 4 = wYs W 10 ∧ yT Y 5 = wYs W 11 ∧ yS Y 1 = wYs W 2 ∧ ∀ k, k < wN W → WHk Y W k
set_option maxHeartbeats 1000000 in
set_option maxRecDepth 8000 in
theorem iw_ch {S : KS} {p k t d : Nat} {W : LW} {M : Mem} {Q : Out → Mem → Prop} (hC : CSt M S p) (hW : LM M W) (hk : k < wN W) (h : WH (kY S) W) (hq : ∀ v5, WP mL_isWhole (d + 21) 313 [.ref (rf 10 0), .ref (rf 32 0), .ref (rf 34 t), .ref (rf 11 k), .int (nI k), v5] [] M Q) : ∀ (f j : Nat), j + f = (wC W k).length → WP mL_isWhole (d + 21) 263 [.ref (rf 10 0), .ref (rf 32 0), .ref (rf 34 t), .ref (rf 11 k), .int (nI k), .int (nI j)] [] M Q := by
  obtain ⟨hA, hG, hE, -, -, -, -, -, -, -, -, -, -, -, hh⟩ := h
  obtain ⟨q1, q2, q3, q4, q5, q6, q7, q8, q9, q10, q11, q12, q13, q14⟩ := hh k hk
  have c := hW.c hk
  have hl := c.ch.len
  rw [List.length_map] at hl
  intro f
  induction f with
  | zero =>
    intro j hj
    have e : (wC W k).length = j := by omega
    refine R.iload dL_isWhole_263 rfl ?_
    refine R.aload_n dL_isWhole_265 rfl (by first | rfl | exact rfv_rf _) ?_
    refine R.getS (c.r7) dL_isWhole_266 fl_L_137 (by decide) rfl ?_
    refine ic_L_140 rfl (by first | exact Nat.le_of_ble_eq_true rfl | simp [rf_cat, Value.category]) dL_isWhole_269 ?_
    refine s_alSize c.ch ?_
    rw [List.length_map, e]
    refine ⟨_, rfl, ?_⟩
    refine R.icmp_ge (tgt := 313) dL_isWhole_274 (by decide) (fun _ => ?_) (fun z => absurd (Int32.le_refl _) z)
    exact hq _
  | succ f ih =>
    intro j hj
    have hjl : j < (wC W k).length := by omega
    have hx : (wC W k)[j]? = some (wC W k)[j] := List.getElem?_eq_getElem hjl
    obtain ⟨x, hx9⟩ : ∃ x, x = (wC W k)[j] := ⟨_, rfl⟩
    rw [← hx9] at hx
    have hxn := c.cn x (List.mem_of_getElem? hx)
    refine R.iload dL_isWhole_263 rfl ?_
    refine R.aload_n dL_isWhole_265 rfl (by first | rfl | exact rfv_rf _) ?_
    refine R.getS (c.r7) dL_isWhole_266 fl_L_137 (by decide) rfl ?_
    refine ic_L_140 rfl (by first | exact Nat.le_of_ble_eq_true rfl | simp [rf_cat, Value.category]) dL_isWhole_269 ?_
    refine s_alSize c.ch ?_
    rw [List.length_map]
    refine ⟨_, rfl, ?_⟩
    refine R.icmp_ge (tgt := 313) dL_isWhole_274 (by decide) (fun z => absurd z (Int32.not_le.mpr (nI_lt hjl (by omega)))) (fun _ => ?_)
    refine R.aload_n dL_isWhole_277 rfl (by first | rfl | exact rfv_rf _) ?_
    refine R.iload dL_isWhole_278 rfl ?_
    refine R.iload dL_isWhole_280 rfl ?_
    refine cl_L_156 rfl rfl (by first | exact Nat.le_of_ble_eq_true rfl | simp [rf_cat, Value.category]) dL_isWhole_282 ?_
    refine c_childOf (d := d) hC hE (QA_s q1 (congrArg Sum.inl (q12 j x hx)) ?_)
    refine R.aload_n dL_isWhole_285 rfl (by first | rfl | exact rfv_rf _) ?_
    refine R.getS (c.r7) dL_isWhole_286 fl_L_137 (by decide) rfl ?_
    refine R.iload dL_isWhole_289 rfl ?_
    refine ic_L_160 rfl (by first | exact Nat.le_of_ble_eq_true rfl | simp [rf_cat, Value.category]) dL_isWhole_291 ?_
    refine s_alGet c.ch (map_at (g := rf 11) hx) ?_
    refine ⟨_, rfl, ?_⟩
    refine R.cast (k0 := 11) rfl (rcv_own (k := 11) rfl) cw_L_104 dL_isWhole_296 ?_
    refine R.getIS ((hW.c hxn).i.trans (hh x hxn).2.1) dL_isWhole_299 fl_L_106 (by decide) rfl ?_
    refine R.icmp_eq (tgt := 307) dL_isWhole_302 (by decide) (fun _ => ?_) (fun c => absurd rfl c)
    refine R.iinc dL_isWhole_307 (Nat.le_of_ble_eq_true rfl) (by decide) rfl rfl (inc_nI _) rfl ?_
    refine R.goto (tgt := 263) dL_isWhole_310 (by decide) ?_
    exact ih (j + 1) (by omega)
theorem la_at {l : List (Nat × Int32)} (h : l ≠ []) : ∃ q, q ∈ l ∧ l[l.length - 1]? = some q ∧ laR l = q.2 := by
  have hl : 0 < l.length := List.length_pos_iff.mpr h
  have h1 : l[l.length - 1]? = some l[l.length - 1] := List.getElem?_eq_getElem (by omega)
  refine ⟨_, List.getElem_mem _, h1, ?_⟩
  unfold laR
  rw [List.getLast?_eq_getElem?, h1]
set_option maxHeartbeats 1000000 in
set_option maxRecDepth 8000 in
theorem iw_rd {S : KS} {p k t d : Nat} {W : LW} {M : Mem} {Q : Out → Mem → Prop} {v5 : Value} (hC : CSt M S p) (hW : LM M W) (hk : k < wN W) (h : WH (kY S) W) (hq : ∀ M', LM M' W → Fx Sz 1 4 M M' → WP mL_isWhole (d + 21) 118 [.ref (rf 10 0), .ref (rf 32 0), .ref (rf 34 t), .ref (rf 11 k), .int (nI k), v5] [] M' Q) : WP mL_isWhole (d + 21) 313 [.ref (rf 10 0), .ref (rf 32 0), .ref (rf 34 t), .ref (rf 11 k), .int (nI k), v5] [] M Q := by
  obtain ⟨hA, hG, hE, -, -, -, -, -, -, -, -, -, -, -, hh⟩ := h
  obtain ⟨q1, q2, q3, q4, q5, q6, q7, q8, q9, q10, q11, q12, q13, q14⟩ := hh k hk
  have c := hW.c hk
  by_cases he : wR W k = []
  · skip
    refine R.aload_n dL_isWhole_313 rfl (by first | rfl | exact rfv_rf _) ?_
    refine R.getS (c.r8) dL_isWhole_314 fl_L_153 (by decide) rfl ?_
    refine ic_L_164 rfl (by first | exact Nat.le_of_ble_eq_true rfl | simp [rf_cat, Value.category]) dL_isWhole_317 ?_
    refine s_alEmpty c.rd ?_
    rw [if_pos (by rw [he]; rfl)]
    refine ⟨_, rfl, ?_⟩
    refine R.if_ne (tgt := 375) dL_isWhole_322 (by decide) (fun _ => ?_) (fun z => absurd z (by decide))
    refine R.goto (tgt := 118) dL_isWhole_375 (by decide) ?_
    exact hq M hW (Fx.rf _ _ _ _)
  · obtain ⟨r1, r2, r3, r4⟩ := q13 he
    obtain ⟨q, hm, ha, hla⟩ := la_at he
    have hl := c.rd.len
    rw [List.length_map] at hl
    have hl0 : 0 < (wR W k).length := List.length_pos_iff.mpr he
    have hiv := c.iv q hm
    refine R.aload_n dL_isWhole_313 rfl (by first | rfl | exact rfv_rf _) ?_
    refine R.getS (c.r8) dL_isWhole_314 fl_L_153 (by decide) rfl ?_
    refine ic_L_164 rfl (by first | exact Nat.le_of_ble_eq_true rfl | simp [rf_cat, Value.category]) dL_isWhole_317 ?_
    refine s_alEmpty c.rd ?_
    rw [if_neg (fun z => he (List.map_eq_nil_iff.mp z))]
    refine ⟨_, rfl, ?_⟩
    refine R.if_ne (tgt := 375) dL_isWhole_322 (by decide) (fun z => absurd rfl z) (fun _ => ?_)
    refine R.aload_n dL_isWhole_325 rfl (by first | rfl | exact rfv_rf _) ?_
    refine R.iload dL_isWhole_326 rfl ?_
    refine cl_L_167 rfl rfl (by first | exact Nat.le_of_ble_eq_true rfl | simp [rf_cat, Value.category]) dL_isWhole_328 ?_
    refine c_meanReading (d := d) hC (QA_w q1 r1 r3 ?_)
    refine R.aload_n dL_isWhole_331 rfl (by first | rfl | exact rfv_rf _) ?_
    refine cl_L_170 rfl rfl (by first | exact Nat.le_of_ble_eq_true rfl | simp [rf_cat, Value.category]) dL_isWhole_332 ?_
    refine s_lmean (d := d + 16) hk he r2 hW (fun M4 hW4 F4 => ?_)
    have hC4 := hC.fz F4
    have c4 := hW4.c hk
    refine R.icmp_ne (tgt := 373) dL_isWhole_335 (by decide) (fun c => absurd rfl c) (fun _ => ?_)
    refine R.aload_n dL_isWhole_338 rfl (by first | rfl | exact rfv_rf _) ?_
    refine R.iload dL_isWhole_339 rfl ?_
    refine cl_L_173 rfl rfl (by first | exact Nat.le_of_ble_eq_true rfl | simp [rf_cat, Value.category]) dL_isWhole_341 ?_
    refine c_lastReading (d := d) hC4 (QA_w q1 r1 (r4.trans hla) ?_)
    refine R.aload_n dL_isWhole_344 rfl (by first | rfl | exact rfv_rf _) ?_
    refine R.getS (c4.r8) dL_isWhole_345 fl_L_153 (by decide) rfl ?_
    refine R.aload_n dL_isWhole_348 rfl (by first | rfl | exact rfv_rf _) ?_
    refine R.getS (c4.r8) dL_isWhole_349 fl_L_153 (by decide) rfl ?_
    refine ic_L_140 rfl (by first | exact Nat.le_of_ble_eq_true rfl | simp [rf_cat, Value.category]) dL_isWhole_352 ?_
    refine s_alSize c4.rd ?_
    rw [List.length_map]
    refine ⟨_, rfl, ?_⟩
    refine R.iconst (v := 1) dL_isWhole_357 rfl ?_
    refine R.isub dL_isWhole_358 ?_
    rw [show nI (wR W k).length - 1 = nI ((wR W k).length - 1) from nI_m1s hl0]
    refine ic_L_160 rfl (by first | exact Nat.le_of_ble_eq_true rfl | simp [rf_cat, Value.category]) dL_isWhole_359 ?_
    refine s_alGet c4.rd (a := q.1) (by rw [List.getElem?_map, ha]; rfl) ?_
    refine ⟨_, rfl, ?_⟩
    refine R.cast (k0 := 35) rfl (hiv.rcv _) cw_L_176 dL_isWhole_364 ?_
    refine cv_L_178 (hiv.rcv _) rfl rfl (by first | exact Nat.le_of_ble_eq_true rfl | simp [rf_cat, Value.category]) dL_isWhole_367 ?_
    refine s_intV (c4.iv q hm) ?_
    refine R.icmp_eq (tgt := 375) dL_isWhole_370 (by decide) (fun _ => ?_) (fun c => absurd rfl c)
    refine R.goto (tgt := 118) dL_isWhole_375 (by decide) ?_
    exact hq M4 hW4 F4
set_option maxHeartbeats 2000000 in
set_option maxRecDepth 8000 in
theorem iw_one {S : KS} {p k t d : Nat} {W : LW} {M : Mem} {Q : Out → Mem → Prop} {v4 v5 : Value} (hC : CSt M S p) (hW : LM M W) (hk : k < wN W) (h : WH (kY S) W) (hq : ∀ M' v, LM M' W → Fx Sz 10 40 M M' → WP mL_isWhole (d + 21) 118 [.ref (rf 10 0), .ref (rf 32 0), .ref (rf 34 t), .ref (rf 11 k), .int (nI k), v] [] M' Q) : WP mL_isWhole (d + 21) 137 [.ref (rf 10 0), .ref (rf 32 0), .ref (rf 34 t), .ref (rf 11 k), v4, v5] [] M Q := by
  have h9 := h
  obtain ⟨hA, hG, hE, -, -, -, -, -, -, -, -, -, -, -, hh⟩ := h
  obtain ⟨q1, q2, q3, q4, q5, q6, q7, q8, q9, q10, q11, q12, q13, q14⟩ := hh k hk
  refine R.aload_n dL_isWhole_137 rfl (by first | rfl | exact rfv_rf _) ?_
  refine R.getIS ((hW.c hk).i.trans q2) dL_isWhole_138 fl_L_106 (by decide) rfl ?_
  refine R.istore dL_isWhole_141 (Nat.le_of_ble_eq_true rfl) (by decide) (by first | rfl | simp [lft, rf_cat]) rfl ?_
  refine R.aload_n dL_isWhole_143 rfl (by first | rfl | exact rfv_rf _) ?_
  refine R.iload dL_isWhole_144 rfl ?_
  refine cl_L_109 rfl rfl (by first | exact Nat.le_of_ble_eq_true rfl | simp [rf_cat, Value.category]) dL_isWhole_146 ?_
  refine c_grossOf (d := d) hC (QA_s q1 (congrArg Sum.inl q4) ?_)
  refine R.aload_n dL_isWhole_149 rfl (by first | rfl | exact rfv_rf _) ?_
  refine cl_L_112 rfl rfl (by first | exact Nat.le_of_ble_eq_true rfl | simp [rf_cat, Value.category]) dL_isWhole_150 ?_
  refine s_gross 5 k (d + 11) hk q3 hW (fun M3 hW3 F3 => ?_)
  refine R.icmp_ne (tgt := 258) dL_isWhole_153 (by decide) (fun c => absurd rfl c) (fun _ => ?_)
  skip
  have hC3 := hC.fz F3
  have c := hW3.c hk
  have tail : WP mL_isWhole (d + 21) 196 [.ref (rf 10 0), .ref (rf 32 0), .ref (rf 34 t), .ref (rf 11 k), .int (nI k), v5] [] M3 Q := by
    refine R.aload_n dL_isWhole_196 rfl (by first | rfl | exact rfv_rf _) ?_
    refine R.iload dL_isWhole_197 rfl ?_
    refine cl_L_128 rfl rfl (by first | exact Nat.le_of_ble_eq_true rfl | simp [rf_cat, Value.category]) dL_isWhole_199 ?_
    refine c_depthOf (d := d) hC3 hA (QA_s q1 (congrArg (fun n : Nat => (Sum.inl (nI n) : An)) q8) ?_)
    refine R.aload_n dL_isWhole_202 rfl (by first | rfl | exact rfv_rf _) ?_
    refine cl_L_131 rfl rfl (by first | exact Nat.le_of_ble_eq_true rfl | simp [rf_cat, Value.category]) dL_isWhole_203 ?_
    refine s_ldep 5 k (d + 15) (by decide) hk q7 hW3 ?_
    refine R.icmp_ne (tgt := 258) dL_isWhole_206 (by decide) (fun c => absurd rfl c) (fun _ => ?_)
    refine R.aload_n dL_isWhole_209 rfl (by first | rfl | exact rfv_rf _) ?_
    refine R.iload dL_isWhole_210 rfl ?_
    refine cl_L_134 rfl rfl (by first | exact Nat.le_of_ble_eq_true rfl | simp [rf_cat, Value.category]) dL_isWhole_212 ?_
    refine c_childCount (d := d) hC3 hE (QA_s q1 (congrArg (fun n : Nat => (Sum.inl (nI n) : An)) q9) ?_)
    refine R.aload_n dL_isWhole_215 rfl (by first | rfl | exact rfv_rf _) ?_
    refine R.getS (c.r7) dL_isWhole_216 fl_L_137 (by decide) rfl ?_
    refine ic_L_140 rfl (by first | exact Nat.le_of_ble_eq_true rfl | simp [rf_cat, Value.category]) dL_isWhole_219 ?_
    refine s_alSize c.ch ?_
    rw [List.length_map]
    refine ⟨_, rfl, ?_⟩
    refine R.icmp_ne (tgt := 258) dL_isWhole_224 (by decide) (fun c => absurd rfl c) (fun _ => ?_)
    refine R.aload_n dL_isWhole_227 rfl (by first | rfl | exact rfv_rf _) ?_
    refine R.iload dL_isWhole_228 rfl ?_
    refine cl_L_143 rfl rfl (by first | exact Nat.le_of_ble_eq_true rfl | simp [rf_cat, Value.category]) dL_isWhole_230 ?_
    refine c_isInYard (d := d) hC3 hG (QA_s q1 rfl ?_)
    refine R.aload_n dL_isWhole_233 rfl (by first | rfl | exact rfv_rf _) ?_
    refine R.getIS (c.i) dL_isWhole_234 fl_L_146 (by decide) rfl ?_
    refine R.icmp_eq (tgt := 258) dL_isWhole_237 (by decide) (fun z => absurd z q10) (fun _ => ?_)
    refine R.aload_n dL_isWhole_240 rfl (by first | rfl | exact rfv_rf _) ?_
    refine R.iload dL_isWhole_241 rfl ?_
    refine cl_L_150 rfl rfl (by first | exact Nat.le_of_ble_eq_true rfl | simp [rf_cat, Value.category]) dL_isWhole_243 ?_
    refine c_readingCount (d := d) hC3 (QA_s q1 (congrArg Sum.inl q11) ?_)
    refine R.aload_n dL_isWhole_246 rfl (by first | rfl | exact rfv_rf _) ?_
    refine R.getS (c.r8) dL_isWhole_247 fl_L_153 (by decide) rfl ?_
    refine ic_L_140 rfl (by first | exact Nat.le_of_ble_eq_true rfl | simp [rf_cat, Value.category]) dL_isWhole_250 ?_
    refine s_alSize c.rd ?_
    rw [List.length_map]
    refine ⟨_, rfl, ?_⟩
    refine R.icmp_eq (tgt := 260) dL_isWhole_255 (by decide) (fun _ => ?_) (fun c => absurd rfl c)
    refine R.iconst (v := nI 0) dL_isWhole_260 rfl ?_
    refine R.istore dL_isWhole_261 (Nat.le_of_ble_eq_true rfl) (by decide) (by first | rfl | simp [lft, rf_cat]) rfl ?_
    refine iw_ch hC3 hW3 hk h9 (fun v => ?_) (wC W k).length 0 (by omega)
    refine iw_rd hC3 hW3 hk h9 (fun M4 hW4 F4 => ?_)
    exact hq M4 v hW4 ((F3.trz F4).le (by omega) (by omega))
  cases e : wP W k with
  | none =>
    have e6 := c.p
    rw [e] at e6
    have ep : pIx (kY S) k = -1 := by rw [q6]; unfold pxW; rw [e]
    refine R.aload_n dL_isWhole_156 rfl (by first | rfl | exact rfv_rf _) ?_
    refine R.iload dL_isWhole_157 rfl ?_
    refine cl_L_115 rfl rfl (by first | exact Nat.le_of_ble_eq_true rfl | simp [rf_cat, Value.category]) dL_isWhole_159 ?_
    refine c_goodsOf (d := d) hC3 (QA_s q1 (congrArg Sum.inl q5) ?_)
    refine R.aload_n dL_isWhole_162 rfl (by first | rfl | exact rfv_rf _) ?_
    refine R.getIS (c.i) dL_isWhole_163 fl_L_118 (by decide) rfl ?_
    refine R.icmp_ne (tgt := 258) dL_isWhole_166 (by decide) (fun c => absurd rfl c) (fun _ => ?_)
    refine R.aload_n dL_isWhole_169 rfl (by first | rfl | exact rfv_rf _) ?_
    refine R.iload dL_isWhole_170 rfl ?_
    refine cl_L_121 rfl rfl (by first | exact Nat.le_of_ble_eq_true rfl | simp [rf_cat, Value.category]) dL_isWhole_172 ?_
    refine c_parentOf (d := d) hC3 (QA_s q1 (congrArg Sum.inl ep) ?_)
    refine R.aload_n dL_isWhole_175 rfl (by first | rfl | exact rfv_rf _) ?_
    refine R.getN (e6) dL_isWhole_176 fl_L_124 (by decide) rfl ?_
    refine R.ifnonnullN (tgt := 186) dL_isWhole_179 (by decide) ?_
    refine R.iconst (v := (-1)) dL_isWhole_182 rfl ?_
    refine R.goto (tgt := 193) dL_isWhole_183 (by decide) ?_
    refine R.icmp_ne (tgt := 258) dL_isWhole_193 (by decide) (fun c => absurd rfl c) (fun _ => ?_)
    exact tail
  | some j =>
    have e6 := c.p
    rw [e] at e6
    have hj := c.pn j e
    have ep : pIx (kY S) k = nI j := by rw [q6]; unfold pxW; rw [e]
    refine R.aload_n dL_isWhole_156 rfl (by first | rfl | exact rfv_rf _) ?_
    refine R.iload dL_isWhole_157 rfl ?_
    refine cl_L_115 rfl rfl (by first | exact Nat.le_of_ble_eq_true rfl | simp [rf_cat, Value.category]) dL_isWhole_159 ?_
    refine c_goodsOf (d := d) hC3 (QA_s q1 (congrArg Sum.inl q5) ?_)
    refine R.aload_n dL_isWhole_162 rfl (by first | rfl | exact rfv_rf _) ?_
    refine R.getIS (c.i) dL_isWhole_163 fl_L_118 (by decide) rfl ?_
    refine R.icmp_ne (tgt := 258) dL_isWhole_166 (by decide) (fun c => absurd rfl c) (fun _ => ?_)
    refine R.aload_n dL_isWhole_169 rfl (by first | rfl | exact rfv_rf _) ?_
    refine R.iload dL_isWhole_170 rfl ?_
    refine cl_L_121 rfl rfl (by first | exact Nat.le_of_ble_eq_true rfl | simp [rf_cat, Value.category]) dL_isWhole_172 ?_
    refine c_parentOf (d := d) hC3 (QA_s q1 (congrArg Sum.inl ep) ?_)
    refine R.aload_n dL_isWhole_175 rfl (by first | rfl | exact rfv_rf _) ?_
    refine R.getS (e6) dL_isWhole_176 fl_L_124 (by decide) rfl ?_
    refine R.ifnonnullS (tgt := 186) (by rw [kd_rf _ _ (by decide)]; decide) dL_isWhole_179 (by decide) ?_
    refine R.aload_n dL_isWhole_186 rfl (by first | rfl | exact rfv_rf _) ?_
    refine R.getS (e6) dL_isWhole_187 fl_L_124 (by decide) rfl ?_
    refine R.getIS ((hW3.c hj).i.trans (hh j hj).2.1) dL_isWhole_190 fl_L_106 (by decide) rfl ?_
    refine R.icmp_ne (tgt := 258) dL_isWhole_193 (by decide) (fun c => absurd rfl c) (fun _ => ?_)
    exact tail
theorem rg_at {n c : Nat} (h : c < n) : ((List.range n).map (rf 11))[c]? = some (rf 11 c) := map_at (g := rf 11) (by rw [List.getElem?_range h])
set_option maxHeartbeats 1000000 in
set_option maxRecDepth 8000 in
theorem iw_loop {S : KS} {p t d : Nat} {W : LW} {M0 : Mem} {Q : Out → Mem → Prop} (h : WH (kY S) W) (hq : ∀ M', LM M' W → Fx Sz 91 364 M0 M' → Q (.inl (some (.int 1))) M') : ∀ (f c0 : Nat) (v3 v4 v5 : Value) (M1 : Mem), c0 + f = wN W → CSt M1 S p → LM M1 W → It M1 t 0 c0 → mC M0 34 ≤ t → Fx Sz (1 + 10 * c0) (4 + 40 * c0) M0 M1 → WP mL_isWhole (d + 21) 118 [.ref (rf 10 0), .ref (rf 32 0), .ref (rf 34 t), v3, v4, v5] [] M1 Q := by
  intro f
  induction f with
  | zero =>
    intro c0 v3 v4 v5 M1 hc hC hW hI ht hF
    have hn := hW.n
    refine R.aload_n dL_isWhole_118 rfl (by first | rfl | exact rfv_rf _) ?_
    refine ic_L_94 rfl (by first | exact Nat.le_of_ble_eq_true rfl | simp [rf_cat, Value.category]) dL_isWhole_119 ?_
    refine s_itHas hI hW.all (by rw [List.length_map, List.length_range]; omega) ?_
    rw [if_pos (by rw [List.length_map, List.length_range]; omega)]
    refine ⟨_, rfl, ?_⟩
    refine R.if_eq (tgt := 378) dL_isWhole_124 (by decide) (fun _ => ?_) (fun z => absurd rfl z)
    refine R.iconst (v := 1) dL_isWhole_378 rfl ?_
    refine WP.ret (ov := some (.int _)) dL_isWhole_379 ⟨rfl, _, rfl, by first | rfl | assumption | exact nar_b01 (by assumption)⟩ ?_
    exact hq _ hW (hF.le (by omega) (by omega))
  | succ f ih =>
    intro c0 v3 v4 v5 M1 hc hC hW hI ht hF
    have hk : c0 < wN W := by omega
    refine R.aload_n dL_isWhole_118 rfl (by first | rfl | exact rfv_rf _) ?_
    refine ic_L_94 rfl (by first | exact Nat.le_of_ble_eq_true rfl | simp [rf_cat, Value.category]) dL_isWhole_119 ?_
    refine s_itHas hI hW.all (by rw [List.length_map, List.length_range]; omega) ?_
    rw [if_neg (by rw [List.length_map, List.length_range]; omega)]
    refine ⟨_, rfl, ?_⟩
    refine R.if_eq (tgt := 378) dL_isWhole_124 (by decide) (fun z => absurd z (by decide)) (fun _ => ?_)
    refine R.aload_n dL_isWhole_127 rfl (by first | rfl | exact rfv_rf _) ?_
    refine ic_L_100 rfl (by first | exact Nat.le_of_ble_eq_true rfl | simp [rf_cat, Value.category]) dL_isWhole_128 ?_
    refine s_itNext (d := d + 19) hI hW.all (rg_at hk) (fun M2 hI2 F2 hC2 => ?_)
    refine ⟨_, rfl, ?_⟩
    refine R.cast (k0 := 11) rfl (rcv_own (k := 11) rfl) cw_L_104 dL_isWhole_133 ?_
    refine R.astore_n dL_isWhole_136 (by first | rfl | exact rfv_rf _) (Nat.le_of_ble_eq_true rfl) (by decide) (by first | rfl | simp [lft, rf_cat]) rfl ?_
    refine iw_one (hC.fx F2 (fun k i z => by rw [z.1]; unfold inK; omega)) (hW.fy F2 (fun k j z => z.1)) hk h (fun M3 v hW3 F3 => ?_)
    refine ih (c0 + 1) _ _ _ M3 (by omega) ((hC.fx F2 (fun k i z => by rw [z.1]; unfold inK; omega)).fz F3) hW3 (hI2.fx F3 (fun z => z) (fun z => z)) ht ?_
    exact ((hF.tr F2 (fun k j z => Or.inr ⟨by rw [z.1]; unfold inG; omega, by rw [z.1]; omega⟩)).trz F3).le (by omega) (by omega)
set_option maxHeartbeats 1000000 in
set_option maxRecDepth 8000 in
theorem s_isWhole {S : KS} {p d : Nat} {W : LW} {M : Mem} {Q : Out → Mem → Prop} (hC : CSt M S p) (hW : LM M W) (h : WH (kY S) W) (hq : ∀ M', LM M' W → Fx Sz 91 364 M M' → Q (.inl (some (.int 1))) M') : WPc (d + 21) mL_isWhole [.ref (rf 10 0), .ref (rf 32 0)] M Q := by
  refine WPc.of (by decide +kernel) (Nat.le_of_ble_eq_true rfl) rfl ?_
  have h9 := h
  obtain ⟨hA, hG, hE, hu, hag, y1, y2, y3, y4, y5, y6, y7, y8, y9, hh⟩ := h
  refine R.aload_n dL_isWhole_0 rfl (by first | rfl | exact rfv_rf _) ?_
  refine cl_L_27 rfl rfl (by first | exact Nat.le_of_ble_eq_true rfl | simp [rf_cat, Value.category]) dL_isWhole_1 ?_
  refine c_springAge (d := d) hC ?_
  rw [y1]
  refine R.aload_n dL_isWhole_4 rfl (by first | rfl | exact rfv_rf _) ?_
  refine R.getIS (hW.yi (by decide)) dL_isWhole_5 fl_L_30 (by decide) rfl ?_
  refine R.icmp_ne (tgt := 106) dL_isWhole_8 (by decide) (fun c => absurd rfl c) (fun _ => ?_)
  refine R.aload_n dL_isWhole_11 rfl (by first | rfl | exact rfv_rf _) ?_
  refine cl_L_36 rfl rfl (by first | exact Nat.le_of_ble_eq_true rfl | simp [rf_cat, Value.category]) dL_isWhole_12 ?_
  refine c_springSag (d := d) hC ?_
  rw [y2]
  refine R.aload_n dL_isWhole_15 rfl (by first | rfl | exact rfv_rf _) ?_
  refine R.getIS (hW.yi (by decide)) dL_isWhole_16 fl_L_30 (by decide) rfl ?_
  refine R.aload_n dL_isWhole_19 rfl (by first | rfl | exact rfv_rf _) ?_
  refine R.getIS (hW.yi (by decide)) dL_isWhole_20 fl_L_39 (by decide) rfl ?_
  refine R.idiv dL_isWhole_23 hag ?_
  refine R.icmp_ne (tgt := 106) dL_isWhole_24 (by decide) (fun c => absurd rfl c) (fun _ => ?_)
  refine R.aload_n dL_isWhole_27 rfl (by first | rfl | exact rfv_rf _) ?_
  refine cl_L_42 rfl rfl (by first | exact Nat.le_of_ble_eq_true rfl | simp [rf_cat, Value.category]) dL_isWhole_28 ?_
  refine c_totalReadings (d := d) hC ?_
  rw [y3]
  refine R.aload_n dL_isWhole_31 rfl (by first | rfl | exact rfv_rf _) ?_
  refine R.getIS (hW.yi (by decide)) dL_isWhole_32 fl_L_45 (by decide) rfl ?_
  refine R.icmp_ne (tgt := 106) dL_isWhole_35 (by decide) (fun c => absurd rfl c) (fun _ => ?_)
  refine R.aload_n dL_isWhole_38 rfl (by first | rfl | exact rfv_rf _) ?_
  refine cl_L_48 rfl rfl (by first | exact Nat.le_of_ble_eq_true rfl | simp [rf_cat, Value.category]) dL_isWhole_39 ?_
  refine c_totalDiscarded (d := d) hC ?_
  rw [y4]
  refine R.aload_n dL_isWhole_42 rfl (by first | rfl | exact rfv_rf _) ?_
  refine R.getIS (hW.yi (by decide)) dL_isWhole_43 fl_L_51 (by decide) rfl ?_
  refine R.icmp_ne (tgt := 106) dL_isWhole_46 (by decide) (fun c => absurd rfl c) (fun _ => ?_)
  refine R.aload_n dL_isWhole_49 rfl (by first | rfl | exact rfv_rf _) ?_
  refine R.iconst (v := 0) dL_isWhole_50 rfl ?_
  refine cl_L_54 rfl rfl (by first | exact Nat.le_of_ble_eq_true rfl | simp [rf_cat, Value.category]) dL_isWhole_51 ?_
  refine c_moneyOf (d := d) hC (QA_u hu (congrArg Sum.inl y5) ?_)
  refine R.aload_n dL_isWhole_54 rfl (by first | rfl | exact rfv_rf _) ?_
  refine R.getIS (hW.yi (by decide)) dL_isWhole_55 fl_L_58 (by decide) rfl ?_
  refine R.icmp_ne (tgt := 106) dL_isWhole_58 (by decide) (fun c => absurd rfl c) (fun _ => ?_)
  refine R.aload_n dL_isWhole_61 rfl (by first | rfl | exact rfv_rf _) ?_
  refine R.iconst (v := 0) dL_isWhole_62 rfl ?_
  refine cl_L_61 rfl rfl (by first | exact Nat.le_of_ble_eq_true rfl | simp [rf_cat, Value.category]) dL_isWhole_63 ?_
  refine c_trustOf (d := d) hC (QA_u hu (congrArg Sum.inl y6) ?_)
  refine R.aload_n dL_isWhole_66 rfl (by first | rfl | exact rfv_rf _) ?_
  refine R.getIS (hW.yi (by decide)) dL_isWhole_67 fl_L_64 (by decide) rfl ?_
  refine R.icmp_ne (tgt := 106) dL_isWhole_70 (by decide) (fun c => absurd rfl c) (fun _ => ?_)
  refine R.aload_n dL_isWhole_73 rfl (by first | rfl | exact rfv_rf _) ?_
  refine cl_L_67 rfl rfl (by first | exact Nat.le_of_ble_eq_true rfl | simp [rf_cat, Value.category]) dL_isWhole_74 ?_
  refine c_totalPrices (d := d) hC ?_
  rw [y7]
  refine R.aload_n dL_isWhole_77 rfl (by first | rfl | exact rfv_rf _) ?_
  refine R.getIS (hW.yi (by decide)) dL_isWhole_78 fl_L_70 (by decide) rfl ?_
  refine R.icmp_ne (tgt := 106) dL_isWhole_81 (by decide) (fun c => absurd rfl c) (fun _ => ?_)
  refine R.aload_n dL_isWhole_84 rfl (by first | rfl | exact rfv_rf _) ?_
  refine cl_L_73 rfl rfl (by first | exact Nat.le_of_ble_eq_true rfl | simp [rf_cat, Value.category]) dL_isWhole_85 ?_
  refine c_totalRefunds (d := d) hC ?_
  rw [y8]
  refine R.aload_n dL_isWhole_88 rfl (by first | rfl | exact rfv_rf _) ?_
  refine R.getIS (hW.yi (by decide)) dL_isWhole_89 fl_L_76 (by decide) rfl ?_
  refine R.icmp_ne (tgt := 106) dL_isWhole_92 (by decide) (fun c => absurd rfl c) (fun _ => ?_)
  refine R.aload_n dL_isWhole_95 rfl (by first | rfl | exact rfv_rf _) ?_
  refine cl_L_79 rfl rfl (by first | exact Nat.le_of_ble_eq_true rfl | simp [rf_cat, Value.category]) dL_isWhole_96 ?_
  refine c_amplitude (d := d) hC ?_
  rw [y9]
  refine R.aload_n dL_isWhole_99 rfl (by first | rfl | exact rfv_rf _) ?_
  refine R.getIS (hW.yi (by decide)) dL_isWhole_100 fl_L_82 (by decide) rfl ?_
  refine R.icmp_eq (tgt := 108) dL_isWhole_103 (by decide) (fun _ => ?_) (fun c => absurd rfl c)
  refine R.aload_n dL_isWhole_108 rfl (by first | rfl | exact rfv_rf _) ?_
  refine R.getS (hW.y) dL_isWhole_109 fl_L_84 (by decide) rfl ?_
  refine ic_L_88 rfl (by first | exact Nat.le_of_ble_eq_true rfl | simp [rf_cat, Value.category]) dL_isWhole_112 ?_
  refine s_alIter hW.all (fun M1 t ht hI F1 hC1 => ?_)
  refine ⟨_, rfl, ?_⟩
  refine R.astore_n dL_isWhole_117 (by first | rfl | exact rfv_rf _) (Nat.le_of_ble_eq_true rfl) (by decide) (by first | rfl | simp [lft, rf_cat]) rfl ?_
  refine iw_loop h9 (M0 := M) (fun M3 hW3 F3 => hq M3 hW3 F3) (wN W) 0 _ _ _ M1 (by omega) (hC.fz F1) (hW.fx F1) hI (by omega) (F1.le (by omega) (by omega))
