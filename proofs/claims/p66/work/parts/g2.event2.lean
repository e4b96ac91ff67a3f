/-! an event: a crate put into another, or taken out -/
theorem IV.dpe {Y : Yd} {W : LW} {T k : Nat} (h : IV Y W T) : dp Y k = depO 5 (wP W) (wP W k) := by
  unfold dp
  rw [h.pw]
theorem IV.cl9 {Y : Yd} {W : LW} {T k : Nat} (h : IV Y W T) (hk : k < wN W) : (wC W k).length ≤ 16 := nd_len 16 _ (h.rc hk).ch.nd fun x hx => (((h.rc hk).ch.1 x).mp hx).1
theorem len_er {l : List Nat} {p : Nat} : (l.eraseIdx p).length ≤ l.length := (List.eraseIdx_sublist l p).length_le
theorem mem_er {l : List Nat} {p c : Nat} (h : c ∈ l.eraseIdx p) : c ∈ l := (List.eraseIdx_sublist l p).subset h
set_option maxHeartbeats 2000000 in
set_option maxRecDepth 8000 in
theorem mv_tail {S : KS} {p k v0 d T : Nat} {W : LW} {x : Int32} {M : Mem} {Q : Out → Mem → Prop} {o : Nat} {V : LW} (hC : CSt M S p) (hI : IV (kY S) W T) (hT : T + 1 ≤ 39) (hp : p < 2 ^ 30) (hk : k < wN W) (ho : o < wN W) (hcan : ¬ yCan (kY S) k o = 0) {M3 : Mem} (hM3 : LM M3 V) (hN : wN V = wN W) (hl : (wC V o).length ≤ 16) (h9 : ∀ e, IV (neY (kY S) k o) (fgY 5 (hangW V k o e) o) (T + 1)) (hi : wI V k 0 = nI k ∧ wI V o 0 = nI o) (F3 : Fx SWl 310 1240 M M3) (hq : EQ M p T Q) : WP mL_event (d + 22) 389 [.ref (rf 10 0), .ref (rf 32 0), .int x, .ref (rf 11 k), .int (nI (1 + v0)), .ref (rf 11 o)] [] M3 Q := by
  have hkV : k < wN V := by rw [hN]; exact hk
  have hoV : o < wN V := by rw [hN]; exact ho
  refine R.aload_n dL_event_389 rfl (by first | rfl | exact rfv_rf _) ?_
  refine R.aload dL_event_390 rfl (by first | rfl | exact rfv_rf _) ?_
  first | refine R.putA dL_event_392 fl_L_124 (fun q hq => by cases hq; exact Or.inl rfl) rfl ?_ | refine R.putN dL_event_392 fl_L_124 (fun q hq => by cases hq; exact Or.inl rfl) rfl ?_ | refine R.putR dL_event_392 fl_L_124 (fun q hq => by cases hq; exact Or.inl rfl) rfl ?_
  skip
  have hM4 : LM (sR M3 11 k 6 (some (rf 11 o))) (vP V k (some o)) := hM3.sP (k := k) (o := some o) (fun j e => by cases e; exact hoV)
  have F4 : Fx SWl 310 1240 M (sR M3 11 k 6 (some (rf 11 o))) := F3.sR (Or.inl (Or.inl rfl))
  generalize sR M3 11 k 6 (some (rf 11 o)) = M4 at hM4 F4 ⊢
  have ho4 : o < wN (vP V k (some o)) := hoV
  have c4 := hM4.c ho4
  refine R.aload dL_event_395 rfl (by first | rfl | exact rfv_rf _) ?_
  refine R.getS (c4.r7) dL_event_397 fl_L_137 (by decide) rfl ?_
  refine R.aload_n dL_event_400 rfl (by first | rfl | exact rfv_rf _) ?_
  refine ic_L_213 rfl (by first | exact Nat.le_of_ble_eq_true rfl | simp [rf_cat, Value.category]) dL_event_401 ?_
  refine s_alAdd c4.ch (by rw [List.length_map]; exact Nat.le_trans hl (by decide)) elc_all (fun M9 => el_cr) (fun M5 E5 hA => ?_)
  refine ⟨_, rfl, ?_⟩
  refine R.pop dL_event_406 (by first | rfl | exact rf_cat _) ?_
  skip
  obtain ⟨a1, a2, a3, a4⟩ := hA
  have hM5 : LM M5 (hangW V k o E5) := by
    refine hM4.sC ho4 a2 (by rw [List.map_append]; exact a1) a3 (fun x hx => ?_)
    rcases List.mem_append.mp hx with hx | hx
    · exact c4.cn x hx
    · rw [List.mem_singleton.mp hx]; exact hkV
  have F5 : Fx SWl 311 1330 M M5 := (F4.tr a2 (fun i j z => Or.inl (SL_SWl i j z))).le (by omega) (by omega)
  have h9 := h9 E5
  obtain ⟨f1, f2, f3, f4, f5, f6, f7⟩ := fgY_f 5 (hangW V k o E5) o
  have hN9 : wN (fgY 5 (hangW V k o E5) o) = wN W := f1.trans hN
  have hk9 : k < wN (fgY 5 (hangW V k o E5) o) := by rw [hN9]; exact hk
  have ho9 : o < wN (fgY 5 (hangW V k o E5) o) := by rw [hN9]; exact ho
  have ha9 := h9.ac ho9
  rw [f2] at ha9
  refine R.aload_n dL_event_407 rfl (by first | rfl | exact rfv_rf _) ?_
  refine R.dup dL_event_408 (by first | rfl | exact rf_cat _) ?_
  refine R.getIS (hM5.yi (by decide)) dL_event_409 fl_L_51 (by decide) rfl ?_
  refine R.aload dL_event_412 rfl (by first | rfl | exact rfv_rf _) ?_
  refine cl_L_187 rfl rfl (by first | exact Nat.le_of_ble_eq_true rfl | simp [rf_cat, Value.category]) dL_event_414 ?_
  refine s_forg 5 o (d + 15) (show o < wN (hangW V k o E5) from hoV) ha9 hM5 (fun M6 hM6 F6 => ?_)
  refine R.iadd dL_event_417 ?_
  refine R.putI dL_event_418 fl_L_51 (fun q hq => by cases hq; exact Or.inl rfl) (by decide) rfl rfl rfl ?_
  have hM7 : LM _ (fgY 5 (hangW V k o E5) o) := hM6.sY (f := 6) (v := wYs (hangW V k o E5) 6 + (fgF 5 (hangW V k o E5) o).1)
  skip
  have F7 : Fx SWl 311 1330 M (sI M6 32 0 6 (wYs (hangW V k o E5) 6 + (fgF 5 (hangW V k o E5) o).1)) := ((F5.tr F6 (fun _ _ z => Or.inl z)).le (by omega) (by omega)).y (Or.inr (Or.inr (Or.inl rfl)))
  generalize sI M6 32 0 6 (wYs (hangW V k o E5) 6 + (fgF 5 (hangW V k o E5) o).1) = M7 at hM7 F7 ⊢
  have hC7 := hC.fx F7 (fun _ _ z => SWl_K z)
  refine R.aload_n dL_event_421 rfl (by first | rfl | exact rfv_rf _) ?_
  refine R.aload_n dL_event_422 rfl (by first | rfl | exact rfv_rf _) ?_
  refine R.getIS ((hM7.c hk9).i.trans (h9.rc hk9).1) dL_event_423 fl_L_106 (by decide) rfl ?_
  refine R.aload dL_event_426 rfl (by first | rfl | exact rfv_rf _) ?_
  refine R.getIS ((hM7.c ho9).i.trans (h9.rc ho9).1) dL_event_428 fl_L_106 (by decide) rfl ?_
  refine cl_L_217 rfl rfl (by first | exact Nat.le_of_ble_eq_true rfl | simp [rf_cat, Value.category]) dL_event_431 ?_
  refine c_moveInto (d := d + 1) hC7 hp hI.pv.kg (QR_c (S := S) (p := p) (hI.kc hk) (v := nI (dp (neY (kY S) k o) k)) (Y := neY (kY S) k o) ?_ (fun M8 hC8 F8 => ?_))
  · show rC S (nI o) _ = _
    rw [rC_s (hI.kc ho)]
    show (if yCan (kY S) k o = 0 then _ else _) = _
    rw [if_neg hcan]
  have hM8 := hM7.fk F8
  refine R.aload_n dL_event_434 rfl (by first | rfl | exact rfv_rf _) ?_
  refine cl_L_131 rfl rfl (by first | exact Nat.le_of_ble_eq_true rfl | simp [rf_cat, Value.category]) dL_event_435 ?_
  refine s_ldep 5 k (d + 16) (by decide) hk9 (h9.ac hk9) hM8 ?_
  rw [← h9.dpe]
  refine R.icmp_ne (tgt := 445) dL_event_438 (by decide) (fun c => absurd rfl c) (fun _ => ?_)
  refine R.iconst (v := 1) dL_event_441 rfl ?_
  refine R.goto (tgt := 446) dL_event_442 (by decide) ?_
  refine WP.ret (ov := some (.int _)) dL_event_446 ⟨rfl, _, rfl, by first | rfl | assumption | exact nar_b01 (by assumption)⟩ ?_
  have b1 := F7.2.2.2.1
  have b2 := F7.2.2.2.2
  have b3 := F8.2.2.1
  have b4 := F8.2.2.2
  exact hq M8 _ (p + 1) _ hC8 hM8 h9 (by omega) (by omega) (by omega)
theorem IV.i0 {Y : Yd} {W : LW} {T i j p : Nat} (h : IV Y W T) (hi : i < wN W) : wI (cutW W j p) i 0 = nI i := ((fgY_f 4 W j).2.2.2.2.2.1 i 0 (by decide)).trans (h.rc hi).1
set_option maxHeartbeats 2000000 in
set_option maxRecDepth 8000 in
theorem ev_mov {S : KS} {p k v0 d T : Nat} {W : LW} {x : Int32} {M : Mem} {Q : Out → Mem → Prop} (h : EH M S p W T) (hk : k < wN W) (hv : v0 < 32) (hq : EQ M p T Q) : WP mL_event (d + 22) 268 [.ref (rf 10 0), .ref (rf 32 0), .int x, .ref (rf 11 k), .int (nI (1 + v0)), UN] [] M Q := by
  obtain ⟨hC, hW, hI, hT, hp⟩ := h
  have c := hW.c hk
  have r := hI.rc hk
  have hns := hI.ns hk
  have hk16 : k < 16 := by have := hI.n9; omega
  have n9 := hI.n9
  have n2 := hI.n2
  obtain ⟨o, ho9⟩ : ∃ o, o = (1 + v0) % wN W := ⟨_, rfl⟩
  have ho : o < wN W := by rw [ho9]; exact Nat.mod_lt _ (by omega)
  have ho16 : o < 16 := by omega
  have hh := nh_le (W := W) 5 k
  refine R.aload_n dL_event_268 rfl (by first | rfl | exact rfv_rf _) ?_
  refine R.getS (hW.y) dL_event_269 fl_L_84 (by decide) rfl ?_
  refine R.iload dL_event_272 rfl ?_
  refine R.aload_n dL_event_274 rfl (by first | rfl | exact rfv_rf _) ?_
  refine R.getS (hW.y) dL_event_275 fl_L_84 (by decide) rfl ?_
  refine ic_L_140 rfl (by first | exact Nat.le_of_ble_eq_true rfl | simp [rf_cat, Value.category]) dL_event_278 ?_
  refine s_alSize hW.all ?_
  rw [List.length_map, List.length_range]
  refine ⟨_, rfl, ?_⟩
  refine R.irem dL_event_283 (fun z => by have := (nI_inj (b := 0) (by omega) (by omega)).mp z; omega) ?_
  rw [rm_nI (by omega) (by omega) (by omega), ← ho9]
  refine ic_L_160 rfl (by first | exact Nat.le_of_ble_eq_true rfl | simp [rf_cat, Value.category]) dL_event_284 ?_
  refine s_alGet hW.all (rg_at ho) ?_
  refine ⟨_, rfl, ?_⟩
  refine R.cast (k0 := 11) rfl (rcv_own (k := 11) rfl) cw_L_104 dL_event_289 ?_
  refine R.astore dL_event_292 (by first | rfl | exact rfv_rf _) (Nat.le_of_ble_eq_true rfl) (by decide) (by first | rfl | simp [lft, rf_cat]) rfl ?_
  skip
  have no : ∀ M', LM M' W → Fx Sz 300 1200 M M' → WP mL_event (d + 22) 334 [.ref (rf 10 0), .ref (rf 32 0), .int x, .ref (rf 11 k), .int (nI (1 + v0)), .ref (rf 11 o)] [] M' Q := by
    intro M' hM' F'
    refine R.aload_n dL_event_334 rfl (by first | rfl | exact rfv_rf _) ?_
    refine R.aload_n dL_event_335 rfl (by first | rfl | exact rfv_rf _) ?_
    refine R.getIS ((hM'.c hk).i.trans r.1) dL_event_336 fl_L_106 (by decide) rfl ?_
    refine cl_L_128 rfl rfl (by first | exact Nat.le_of_ble_eq_true rfl | simp [rf_cat, Value.category]) dL_event_339 ?_
    refine c_depthOf (d := d + 1) (hC.fz F') hI.pv.acy (QA_s (hI.kc hk) (congrArg (fun n : Nat => (Sum.inl (nI n) : An)) hI.dpe) ?_)
    refine R.aload_n dL_event_342 rfl (by first | rfl | exact rfv_rf _) ?_
    refine cl_L_131 rfl rfl (by first | exact Nat.le_of_ble_eq_true rfl | simp [rf_cat, Value.category]) dL_event_343 ?_
    refine s_ldep 5 k (d + 16) (by decide) hk (hI.ac hk) hM' ?_
    refine R.icmp_ne (tgt := 353) dL_event_346 (by decide) (fun c => absurd rfl c) (fun _ => ?_)
    refine R.iconst (v := 1) dL_event_349 rfl ?_
    refine R.goto (tgt := 354) dL_event_350 (by decide) ?_
    refine WP.ret (ov := some (.int _)) dL_event_354 ⟨rfl, _, rfl, by first | rfl | assumption | exact nar_b01 (by assumption)⟩ ?_
    have b1 := F'.2.2.2.1
    have b2 := F'.2.2.2.2
    exact hq M' S p W (hC.fz F') hM' (hI.mono (Nat.le_succ T) hT) (by omega) (by omega) (by omega)
  by_cases zg : wI W k 4 = 0
  · by_cases zo : wI W o 4 = 0
    · skip
      refine R.aload_n dL_event_294 rfl (by first | rfl | exact rfv_rf _) ?_
      refine R.getIS (c.i.trans zg) dL_event_295 fl_L_146 (by decide) rfl ?_
      refine R.if_ne (tgt := 334) dL_event_298 (by decide) (fun z => absurd rfl z) (fun _ => ?_)
      refine R.aload dL_event_301 rfl (by first | rfl | exact rfv_rf _) ?_
      refine R.getIS ((hW.c ho).i.trans zo) dL_event_303 fl_L_146 (by decide) rfl ?_
      refine R.if_ne (tgt := 334) dL_event_306 (by decide) (fun z => absurd rfl z) (fun _ => ?_)
      refine R.aload_n dL_event_309 rfl (by first | rfl | exact rfv_rf _) ?_
      refine R.aload dL_event_310 rfl (by first | rfl | exact rfv_rf _) ?_
      refine cl_L_202 rfl rfl (by first | exact Nat.le_of_ble_eq_true rfl | simp [rf_cat, Value.category]) dL_event_312 ?_
      refine s_holds (t0 := o) 5 k (d + 12) hk (hI.hg hk) hW (fun M1 hM1 F1 => ?_)
      skip
      by_cases zh : hoF W o 5 k = true
      · rw [if_pos zh]
        refine R.if_ne (tgt := 334) dL_event_315 (by decide) (fun _ => ?_) (fun z => absurd z (by decide))
        exact no M1 hM1 (F1.le (by omega) (by omega))
      · rw [if_neg zh]
        refine R.if_ne (tgt := 334) dL_event_315 (by decide) (fun z => absurd rfl z) (fun _ => ?_)
        refine R.aload dL_event_318 rfl (by first | rfl | exact rfv_rf _) ?_
        refine cl_L_131 rfl rfl (by first | exact Nat.le_of_ble_eq_true rfl | simp [rf_cat, Value.category]) dL_event_320 ?_
        refine s_ldep 5 o (d + 16) (by decide) ho (hI.ac ho) hM1 ?_
        refine R.iconst (v := 1) dL_event_323 rfl ?_
        refine R.iadd dL_event_324 ?_
        rw [nI_s1]
        refine R.aload_n dL_event_325 rfl (by first | rfl | exact rfv_rf _) ?_
        refine cl_L_206 rfl rfl (by first | exact Nat.le_of_ble_eq_true rfl | simp [rf_cat, Value.category]) dL_event_326 ?_
        refine s_height 5 k (d + 12) (by decide) hk (hI.hg hk) hM1 (fun M2 hM2 F2 => ?_)
        refine R.iadd dL_event_329 ?_
        rw [nI_add]
        refine R.iconst (v := nI 5) dL_event_330 rfl ?_
        skip
        have F12 : Fx Sz 300 1200 M M2 := (F1.trz F2).le (by omega) (by omega)
        have hD : depO 5 (wP W) (wP W o) ≤ 5 := by rw [← hI.dpe]; exact dp_le _ _
        have hH : heF W 5 k ≤ 5 := heF_le W 5 k
        by_cases zd : depO 5 (wP W) (wP W o) + 1 + heF W 5 k ≤ 5
        · have c3 : ¬ ins (kY S) o k = true := by rw [← ho_5 hI.tr9 ho16 hk]; exact zh
          have c4 : dp (kY S) o + 1 + lvN (kY S) k 16 0 0 ≤ 5 := by rw [hI.dpe, ← he_5 hI.tr9 hk]; exact zd
          have h7 : ∀ i, i < wN W → wI W i 4 = 0 → ¬ yC (kY S) i 7 = 0 := fun i hi zi z => by
            have q := (hI.rc hi).2.2.2.1
            rw [z, zi] at q
            exact absurd q (by decide)
          have hcan : ¬ yCan (kY S) k o = 0 := (can_iff hI.pv.acy hk16).mpr ⟨h7 k hk zg, h7 o ho zo, c3, c4⟩
          cases e : wP W k with
          | none =>
            have e6 := (hM2.c hk).p
            rw [e] at e6
            refine R.icmp_le (tgt := 355) dL_event_331 (by decide) (fun _ => ?_) (fun z => absurd (Int32.not_lt.mp (nI_nlt zd (by omega))) z)
            refine R.aload_n dL_event_355 rfl (by first | rfl | exact rfv_rf _) ?_
            refine R.getN (e6) dL_event_356 fl_L_124 (by decide) rfl ?_
            refine R.ifnullN (tgt := 389) dL_event_359 (by decide) ?_
            exact mv_tail hC hI hT hp hk ho hcan hM2 rfl (hI.cl9 ho) (fun e9 => hI.move0 hT hk ho e c3 c4) ⟨r.1, (hI.rc ho).1⟩ (F12.mono (fun _ _ z => z.elim) (by decide) (by decide)) hq
          | some j =>
            have e6 := (hM2.c hk).p
            rw [e] at e6
            obtain ⟨ey, hj, ha⟩ := hI.a4 hk e
            obtain ⟨p9, hp9, hn9⟩ := hI.at hk e
            rw [hI.pw] at ha
            refine R.icmp_le (tgt := 355) dL_event_331 (by decide) (fun _ => ?_) (fun z => absurd (Int32.not_lt.mp (nI_nlt zd (by omega))) z)
            refine R.aload_n dL_event_355 rfl (by first | rfl | exact rfv_rf _) ?_
            refine R.getS (e6) dL_event_356 fl_L_124 (by decide) rfl ?_
            refine R.ifnullS (tgt := 389) (by first | decide | exact Nat.lt_of_le_of_lt (Nat.le_of_eq (kd_rf _ _ (by decide))) (by decide)) dL_event_359 (by decide) ?_
            refine R.aload_n dL_event_362 rfl (by first | rfl | exact rfv_rf _) ?_
            refine R.dup dL_event_363 (by first | rfl | exact rf_cat _) ?_
            refine R.getIS (hM2.yi (by decide)) dL_event_364 fl_L_51 (by decide) rfl ?_
            refine R.aload_n dL_event_367 rfl (by first | rfl | exact rfv_rf _) ?_
            refine R.getS (e6) dL_event_368 fl_L_124 (by decide) rfl ?_
            refine cl_L_187 rfl rfl (by first | exact Nat.le_of_ble_eq_true rfl | simp [rf_cat, Value.category]) dL_event_371 ?_
            refine s_forg 4 j (d + 16) hj ha hM2 (fun M3 hM3 F3 => ?_)
            refine R.iadd dL_event_374 ?_
            refine R.putI dL_event_375 fl_L_51 (fun q hq => by cases hq; exact Or.inl rfl) (by decide) rfl rfl rfl ?_
            have hM4 : LM _ (fgY 4 W j) := hM3.sY (f := 6) (v := wYs W 6 + (fgF 4 W j).1)
            skip
            have F4 : Fx SWl 300 1200 M (sI M3 32 0 6 (wYs W 6 + (fgF 4 W j).1)) := (((F12.mono (S' := SWl) (fun _ _ z => z.elim) (Nat.le_refl _) (Nat.le_refl _)).tr F3 (fun _ _ z => Or.inl z)).le (by omega) (by omega)).y (Or.inr (Or.inr (Or.inl rfl)))
            generalize sI M3 32 0 6 (wYs W 6 + (fgF 4 W j).1) = M4 at hM4 F4 ⊢
            obtain ⟨f1, f2, f3, f4, f5, f6, f7⟩ := fgY_f 4 W j
            have hk4 : k < wN (fgY 4 W j) := by rw [f1]; exact hk
            have hj4 : j < wN (fgY 4 W j) := by rw [f1]; exact hj
            have e64 := (hM4.c hk4).p
            rw [f2, e] at e64
            have ch4 := (hM4.c hj4).ch
            rw [f3, f4] at ch4
            refine R.aload_n dL_event_378 rfl (by first | rfl | exact rfv_rf _) ?_
            refine R.getS (e64) dL_event_379 fl_L_124 (by decide) rfl ?_
            refine R.getS ((hM4.c hj4).r7) dL_event_382 fl_L_137 (by decide) rfl ?_
            refine R.aload_n dL_event_385 rfl (by first | rfl | exact rfv_rf _) ?_
            refine cl_L_209 rfl rfl (by first | exact Nat.le_of_ble_eq_true rfl | simp [rf_cat, Value.category]) dL_event_386 ?_
            refine s_drops (d := d + 17) ch4 hp9 hn9 (fun M5 hL5 F5 => ?_)
            skip
            have hM5 : LM M5 (cutW W j p9) := by
              refine hM4.sC (l := (wC W j).eraseIdx p9) (e9 := wE W (1 + 2 * j)) hj4 (by rw [f4]; exact F5) hL5 (Or.inl (by rw [f4])) (fun x hx => ?_)
              rw [f1]
              exact (hW.c hj).cn x (mem_er hx)
            have hlo : (wC (cutW W j p9) o).length ≤ 16 := by
              show (if o = j then (wC W j).eraseIdx p9 else wC (fgY 4 W j) o).length ≤ 16
              by_cases zj : o = j
              · rw [if_pos zj]; exact Nat.le_trans len_er (hI.cl9 hj)
              · rw [if_neg zj, f3]; exact hI.cl9 ho
            exact mv_tail hC hI hT hp hk ho hcan hM5 f1 hlo (fun e9 => hI.move1 hT hk ho e hp9 c3 c4) ⟨hI.i0 hk, hI.i0 ho⟩ ((F4.tr F5 (fun i j z => Or.inl (SL_SWl i j z))).le (by omega) (by omega)) hq
        · skip
          refine R.icmp_le (tgt := 355) dL_event_331 (by decide) (fun z => absurd (nI_lt (Nat.not_le.mp zd) (by omega)) (Int32.not_lt.mpr z)) (fun _ => ?_)
          exact no M2 hM2 F12
    · skip
      refine R.aload_n dL_event_294 rfl (by first | rfl | exact rfv_rf _) ?_
      refine R.getIS (c.i.trans zg) dL_event_295 fl_L_146 (by decide) rfl ?_
      refine R.if_ne (tgt := 334) dL_event_298 (by decide) (fun z => absurd rfl z) (fun _ => ?_)
      refine R.aload dL_event_301 rfl (by first | rfl | exact rfv_rf _) ?_
      refine R.getIS ((hW.c ho).i) dL_event_303 fl_L_146 (by decide) rfl ?_
      refine R.if_ne (tgt := 334) dL_event_306 (by decide) (fun _ => ?_) (fun z => absurd z zo)
      exact no M hW (Fx.rf _ _ _ _)
  · skip
    refine R.aload_n dL_event_294 rfl (by first | rfl | exact rfv_rf _) ?_
    refine R.getIS (c.i) dL_event_295 fl_L_146 (by decide) rfl ?_
    refine R.if_ne (tgt := 334) dL_event_298 (by decide) (fun _ => ?_) (fun z => absurd z zg)
    exact no M hW (Fx.rf _ _ _ _)
theorem co_m1 {Y : Yd} {W : LW} {T k : Nat} (h : IV Y W T) : coF Y 17 (fCh Y k) 0 (-1) = -1 := by
  have hT := h.t39
  have hD : SbD Y := h.pv.sb (by omega)
  have e0 := nL_0 (o := k) hD
  have := coF_n (o := k) hD (-1) 17 0 (Nat.lt_succ_of_le (nG_le Y k 0)) (fun x hx p q => by
    intro z
    have hb : pl Y k x ≤ 16 := sm_le (b := 1) (fun i _ => by split <;> omega)
    have := congrArg Int32.toInt z
    rw [nI_toInt (by omega), show (-1 : Int32).toInt = -1 by decide] at this
    omega)
  rw [e0] at this
  exact this
set_option maxHeartbeats 2000000 in
set_option maxRecDepth 8000 in
theorem ev_out {S : KS} {p k v0 d T : Nat} {W : LW} {x : Int32} {M : Mem} {Q : Out → Mem → Prop} (h : EH M S p W T) (hk : k < wN W) (hv : v0 < 32) (hq : EQ M p T Q) : WP mL_event (d + 22) 447 [.ref (rf 10 0), .ref (rf 32 0), .int x, .ref (rf 11 k), .int (nI (1 + v0)), UN] [] M Q := by
  obtain ⟨hC, hW, hI, hT, hp⟩ := h
  have c := hW.c hk
  have r := hI.rc hk
  have hns := hI.ns hk
  have hk16 : k < 16 := by have := hI.n9; omega

  have no : WP mL_event (d + 22) 461 [.ref (rf 10 0), .ref (rf 32 0), .int x, .ref (rf 11 k), .int (nI (1 + v0)), UN] [] M Q := by
    refine R.aload_n dL_event_461 rfl (by first | rfl | exact rfv_rf _) ?_
    refine R.aload_n dL_event_462 rfl (by first | rfl | exact rfv_rf _) ?_
    refine R.getIS (c.i.trans r.1) dL_event_463 fl_L_106 (by decide) rfl ?_
    refine R.iconst (v := (-1)) dL_event_466 rfl ?_
    refine cl_L_156 rfl rfl (by first | exact Nat.le_of_ble_eq_true rfl | simp [rf_cat, Value.category]) dL_event_467 ?_
    refine c_childOf (d := d + 1) hC (chE_all (hI.pv.sb (by omega))) (QA_s (hI.kc hk) (congrArg Sum.inl (co_m1 hI)) ?_)
    refine R.iconst (v := (-1)) dL_event_470 rfl ?_
    refine R.icmp_ne (tgt := 478) dL_event_471 (by decide) (fun c => absurd rfl c) (fun _ => ?_)
    refine R.iconst (v := 1) dL_event_474 rfl ?_
    refine R.goto (tgt := 479) dL_event_475 (by decide) ?_
    refine WP.ret (ov := some (.int _)) dL_event_479 ⟨rfl, _, rfl, by first | rfl | assumption | exact nar_b01 (by assumption)⟩ ?_
    exact hq M S p W hC hW (hI.mono (Nat.le_succ T) hT) (by omega) (by omega) (by omega)
  by_cases zg : wI W k 4 = 0
  · cases e : wP W k with
    | none =>
      have e6 := c.p
      rw [e] at e6
      refine R.aload_n dL_event_447 rfl (by first | rfl | exact rfv_rf _) ?_
      refine R.getIS (c.i.trans zg) dL_event_448 fl_L_146 (by decide) rfl ?_
      refine R.if_ne (tgt := 461) dL_event_451 (by decide) (fun z => absurd rfl z) (fun _ => ?_)
      refine R.aload_n dL_event_454 rfl (by first | rfl | exact rfv_rf _) ?_
      refine R.getN (e6) dL_event_455 fl_L_124 (by decide) rfl ?_
      refine R.ifnonnullN (tgt := 480) dL_event_458 (by decide) ?_
      exact no
    | some j =>
      have e6 := c.p
      rw [e] at e6
      obtain ⟨ey, hj, ha⟩ := hI.a4 hk e
      obtain ⟨p9, hp9, hn9⟩ := hI.at hk e
      rw [hI.pw] at ha
      have h7 : ¬ yC (kY S) k 7 = 0 := fun z => by
        have q := r.2.2.2.1
        rw [z, zg] at q
        exact absurd q (by decide)
      refine R.aload_n dL_event_447 rfl (by first | rfl | exact rfv_rf _) ?_
      refine R.getIS (c.i.trans zg) dL_event_448 fl_L_146 (by decide) rfl ?_
      refine R.if_ne (tgt := 461) dL_event_451 (by decide) (fun z => absurd rfl z) (fun _ => ?_)
      refine R.aload_n dL_event_454 rfl (by first | rfl | exact rfv_rf _) ?_
      refine R.getS (e6) dL_event_455 fl_L_124 (by decide) rfl ?_
      refine R.ifnonnullS (tgt := 480) (by first | decide | exact Nat.lt_of_le_of_lt (Nat.le_of_eq (kd_rf _ _ (by decide))) (by decide)) dL_event_458 (by decide) ?_
      refine R.aload_n dL_event_480 rfl (by first | rfl | exact rfv_rf _) ?_
      refine R.getS (e6) dL_event_481 fl_L_124 (by decide) rfl ?_
      refine R.astore dL_event_484 (by first | rfl | exact rfv_rf _) (Nat.le_of_ble_eq_true rfl) (by decide) (by first | rfl | simp [lft, rf_cat]) rfl ?_
      refine R.aload_n dL_event_486 rfl (by first | rfl | exact rfv_rf _) ?_
      refine R.dup dL_event_487 (by first | rfl | exact rf_cat _) ?_
      refine R.getIS (hW.yi (by decide)) dL_event_488 fl_L_51 (by decide) rfl ?_
      refine R.aload dL_event_491 rfl (by first | rfl | exact rfv_rf _) ?_
      refine cl_L_187 rfl rfl (by first | exact Nat.le_of_ble_eq_true rfl | simp [rf_cat, Value.category]) dL_event_493 ?_
      refine s_forg 4 j (d + 16) hj ha hW (fun M3 hM3 F3 => ?_)
      refine R.iadd dL_event_496 ?_
      refine R.putI dL_event_497 fl_L_51 (fun q hq => by cases hq; exact Or.inl rfl) (by decide) rfl rfl rfl ?_
      have hM4 : LM _ (fgY 4 W j) := hM3.sY (f := 6) (v := wYs W 6 + (fgF 4 W j).1)
      skip
      have F4 : Fx SWl 0 0 M (sI M3 32 0 6 (wYs W 6 + (fgF 4 W j).1)) := F3.y (Or.inr (Or.inr (Or.inl rfl)))
      generalize sI M3 32 0 6 (wYs W 6 + (fgF 4 W j).1) = M4 at hM4 F4 ⊢
      obtain ⟨f1, f2, f3, f4, f5, f6, f7⟩ := fgY_f 4 W j
      have hj4 : j < wN (fgY 4 W j) := by rw [f1]; exact hj
      have ch4 := (hM4.c hj4).ch
      rw [f3, f4] at ch4
      refine R.aload dL_event_500 rfl (by first | rfl | exact rfv_rf _) ?_
      refine R.getS ((hM4.c hj4).r7) dL_event_502 fl_L_137 (by decide) rfl ?_
      refine R.aload_n dL_event_505 rfl (by first | rfl | exact rfv_rf _) ?_
      refine cl_L_209 rfl rfl (by first | exact Nat.le_of_ble_eq_true rfl | simp [rf_cat, Value.category]) dL_event_506 ?_
      refine s_drops (d := d + 17) ch4 hp9 hn9 (fun M5 hL5 F5 => ?_)
      skip
      have hM5 : LM M5 (cutW W j p9) := by
        refine hM4.sC (l := (wC W j).eraseIdx p9) (e9 := wE W (1 + 2 * j)) hj4 (by rw [f4]; exact F5) hL5 (Or.inl (by rw [f4])) (fun x hx => ?_)
        rw [f1]
        exact (hW.c hj).cn x (mem_er hx)
      have F5' : Fx SWl 0 0 M M5 := (F4.tr F5 (fun i j z => Or.inl (SL_SWl i j z))).le (by omega) (by omega)
      have h9 := hI.out hk e hp9
      have hN9 : wN (vP (cutW W j p9) k none) = wN W := f1
      have hk9 : k < wN (vP (cutW W j p9) k none) := by rw [hN9]; exact hk
      have hj9 : j < wN (vP (cutW W j p9) k none) := by rw [hN9]; exact hj
      have hns9 := h9.ns hj9
      refine R.aload_n dL_event_509 rfl (by first | rfl | exact rfv_rf _) ?_
      refine R.null dL_event_510 ?_
      first | refine R.putA dL_event_511 fl_L_124 (fun q hq => by cases hq; exact Or.inl rfl) rfl ?_ | refine R.putN dL_event_511 fl_L_124 (fun q hq => by cases hq; exact Or.inl rfl) rfl ?_ | refine R.putR dL_event_511 fl_L_124 (fun q hq => by cases hq; exact Or.inl rfl) rfl ?_
      skip
      have hM6 : LM (sR M5 11 k 6 none) (vP (cutW W j p9) k none) := hM5.sP (k := k) (o := none) (fun j e => by cases e)
      have F6 : Fx SWl 0 0 M (sR M5 11 k 6 none) := F5'.sR (Or.inl (Or.inl rfl))
      generalize sR M5 11 k 6 none = M6 at hM6 F6 ⊢
      have hC6 := hC.fx F6 (fun _ _ z => SWl_K z)
      refine R.aload_n dL_event_514 rfl (by first | rfl | exact rfv_rf _) ?_
      refine R.aload_n dL_event_515 rfl (by first | rfl | exact rfv_rf _) ?_
      refine R.getIS ((hM6.c hk9).i.trans (h9.rc hk9).1) dL_event_516 fl_L_106 (by decide) rfl ?_
      refine cl_L_220 rfl rfl (by first | exact Nat.le_of_ble_eq_true rfl | simp [rf_cat, Value.category]) dL_event_519 ?_
      refine c_takeOut (d := d + 1) hC6 hp hI.pv.kg (QR_c (S := S) (p := p) (hI.kc hk) (v := yC (unY (kY S) k) j 4) (Y := unY (kY S) k) ?_ (fun M8 hC8 F8 => ?_))
      · show rOut S p k = _
        unfold rOut
        rw [ey]
        show (if yC (kY S) k 7 = 0 then _ else _) = _
        rw [if_neg h7]
      have hM8 := hM6.fk F8
      refine R.aload dL_event_522 rfl (by first | rfl | exact rfv_rf _) ?_
      refine cl_L_112 rfl rfl (by first | exact Nat.le_of_ble_eq_true rfl | simp [rf_cat, Value.category]) dL_event_524 ?_
      refine s_gross 5 j (d + 12) hj9 (h9.hg hj9) hM8 (fun M9 hM9 F9 => ?_)
      rw [h9.gr hj9]
      refine R.icmp_ne (tgt := 534) dL_event_527 (by decide) (fun c => absurd rfl c) (fun _ => ?_)
      refine R.iconst (v := 1) dL_event_530 rfl ?_
      refine R.goto (tgt := 535) dL_event_531 (by decide) ?_
      refine WP.ret (ov := some (.int _)) dL_event_535 ⟨rfl, _, rfl, by first | rfl | assumption | exact nar_b01 (by assumption)⟩ ?_
      have b1 := F6.2.2.2.1
      have b2 := F6.2.2.2.2
      have b3 := F8.2.2.1
      have b4 := F8.2.2.2
      have b5 := F9.2.2.2.1
      have b6 := F9.2.2.2.2
      exact hq M9 _ (p + 1) _ (hC8.fz F9) hM9 (h9.mono (Nat.le_succ T) hT) (by omega) (by omega) (by omega)
  · skip
    refine R.aload_n dL_event_447 rfl (by first | rfl | exact rfv_rf _) ?_
    refine R.getIS (c.i) dL_event_448 fl_L_146 (by decide) rfl ?_
    refine R.if_ne (tgt := 461) dL_event_451 (by decide) (fun _ => ?_) (fun z => absurd z zg)
    exact no
