set_option maxHeartbeats 2000000 in
set_option maxRecDepth 8000 in
theorem lk_errorCode {d n p p' T T' : Nat} {M0 M : Mem} {S S' : KS} {v : Int32} {u6 u7 u8 u9 : Value} {Q : Out → Mem → Prop} (h : LW M0 M S p T n) (hlen : 6 * n + 6 ≤ mN M0 27 0) (hb9 : n < 512) (hxc : WPc (d + 21) mX12_errorCode [.ref (rf 10 0)] M (OU9 M (.inr (v, S', p')))) (hT : T ≤ T') (ha : 9 * T' + 50 * kN S' ≤ 9 * T + 50 * kN S + 1000) (hp : p' ≤ p + 1) (hmd : ∀ {M1 : Mem} {Q1 : Out → Mem → Prop}, MSt M1 S T → QMb Q1 M1 T' (.inr (v, S', p')) → WPc (d + 21) mX13_errorCode [.ref (rf 11 0)] M1 Q1) (k : KLW d M0 n Q) : WP mL_law (d + 22) 436 [.ref (rf 27 0), .ref (rf 10 0), .ref (rf 11 0), .ref (rf 15 0), .ref (rf 16 0), .int (nI (6 * n)), u6, u7, u8, u9] [] M Q := by
  refine R.aload_n dL_law_436 rfl (by first | rfl | exact rfv_rf _) ?_
  refine cl_L_157 rfl rfl (by first | exact Nat.le_of_ble_eq_true rfl | simp [rf_cat, Value.category]) dL_law_437 ?_
  refine WPc.mono hxc (fun o9 M1 hm ho => ?_)
  obtain ⟨rfl, c1, F⟩ := ho
  show WP _ _ _ _ _ _ _
  refine R.aload_n dL_law_440 rfl (by first | rfl | exact rfv_rf _) ?_
  refine cl_L_160 rfl rfl (by first | exact Nat.le_of_ble_eq_true rfl | simp [rf_cat, Value.category]) dL_law_441 ?_
  refine hmd (h.m.frK F) ?_
  intro M2 m2 t2 F2
  refine R.icmp_eq (tgt := 3039) dL_law_444 (by decide) (fun _ => ?_) (fun c9 => absurd (rfl) c9)
  exact k M2 S' p' T' _ _ _ _ (h.yes c1 F hm (Fr.rf _ _) m2 F2 hT ha hp)
theorem lw_errorCode {d n p T : Nat} {M0 M : Mem} {S : KS} {u6 u7 u8 u9 : Value} {Q : Out → Mem → Prop} (h : LW M0 M S p T n) (hn : n < 512) (hlen : 6 * n + 6 ≤ mN M0 27 0) (k : KLW d M0 n Q) : WP mL_law (d + 22) 436 [.ref (rf 27 0), .ref (rf 10 0), .ref (rf 11 0), .ref (rf 15 0), .ref (rf 16 0), .int (nI (6 * n)), u6, u7, u8, u9] [] M Q :=
  lk_errorCode (v := kE S) (S' := S) (p' := p) (T' := T) h hlen hn (c_errorCode h.c ⟨rfl, h.c, FrK.rf⟩) (Nat.le_refl _) (by omega) (by omega) (fun m1 q => n_errorCode m1 (by have := h.t hn; omega) q) k
set_option maxHeartbeats 2000000 in
set_option maxRecDepth 8000 in
theorem lk_errorOffset {d n p p' T T' : Nat} {M0 M : Mem} {S S' : KS} {v : Int32} {u6 u7 u8 u9 : Value} {Q : Out → Mem → Prop} (h : LW M0 M S p T n) (hlen : 6 * n + 6 ≤ mN M0 27 0) (hb9 : n < 512) (hxc : WPc (d + 21) mX12_errorOffset [.ref (rf 10 0)] M (OU9 M (.inr (v, S', p')))) (hT : T ≤ T') (ha : 9 * T' + 50 * kN S' ≤ 9 * T + 50 * kN S + 1000) (hp : p' ≤ p + 1) (hmd : ∀ {M1 : Mem} {Q1 : Out → Mem → Prop}, MSt M1 S T → QMb Q1 M1 T' (.inr (v, S', p')) → WPc (d + 21) mX13_errorOffset [.ref (rf 11 0)] M1 Q1) (k : KLW d M0 n Q) : WP mL_law (d + 22) 449 [.ref (rf 27 0), .ref (rf 10 0), .ref (rf 11 0), .ref (rf 15 0), .ref (rf 16 0), .int (nI (6 * n)), u6, u7, u8, u9] [] M Q := by
  refine R.aload_n dL_law_449 rfl (by first | rfl | exact rfv_rf _) ?_
  refine cl_L_161 rfl rfl (by first | exact Nat.le_of_ble_eq_true rfl | simp [rf_cat, Value.category]) dL_law_450 ?_
  refine WPc.mono hxc (fun o9 M1 hm ho => ?_)
  obtain ⟨rfl, c1, F⟩ := ho
  show WP _ _ _ _ _ _ _
  refine R.aload_n dL_law_453 rfl (by first | rfl | exact rfv_rf _) ?_
  refine cl_L_164 rfl rfl (by first | exact Nat.le_of_ble_eq_true rfl | simp [rf_cat, Value.category]) dL_law_454 ?_
  refine hmd (h.m.frK F) ?_
  intro M2 m2 t2 F2
  refine R.icmp_eq (tgt := 3039) dL_law_457 (by decide) (fun _ => ?_) (fun c9 => absurd (rfl) c9)
  exact k M2 S' p' T' _ _ _ _ (h.yes c1 F hm (Fr.rf _ _) m2 F2 hT ha hp)
theorem lw_errorOffset {d n p T : Nat} {M0 M : Mem} {S : KS} {u6 u7 u8 u9 : Value} {Q : Out → Mem → Prop} (h : LW M0 M S p T n) (hn : n < 512) (hlen : 6 * n + 6 ≤ mN M0 27 0) (k : KLW d M0 n Q) : WP mL_law (d + 22) 449 [.ref (rf 27 0), .ref (rf 10 0), .ref (rf 11 0), .ref (rf 15 0), .ref (rf 16 0), .int (nI (6 * n)), u6, u7, u8, u9] [] M Q :=
  lk_errorOffset (v := kQ S) (S' := S) (p' := p) (T' := T) h hlen hn (c_errorOffset h.c ⟨rfl, h.c, FrK.rf⟩) (Nat.le_refl _) (by omega) (by omega) (fun m1 q => n_errorOffset m1 (by have := h.t hn; omega) q) k
set_option maxHeartbeats 2000000 in
set_option maxRecDepth 8000 in
theorem lk_crateCount {d n p p' T T' : Nat} {M0 M : Mem} {S S' : KS} {v : Int32} {u6 u7 u8 u9 : Value} {Q : Out → Mem → Prop} (h : LW M0 M S p T n) (hlen : 6 * n + 6 ≤ mN M0 27 0) (hb9 : n < 512) (hxc : WPc (d + 21) mX12_crateCount [.ref (rf 10 0)] M (OU9 M (.inr (v, S', p')))) (hT : T ≤ T') (ha : 9 * T' + 50 * kN S' ≤ 9 * T + 50 * kN S + 1000) (hp : p' ≤ p + 1) (hmd : ∀ {M1 : Mem} {Q1 : Out → Mem → Prop}, MSt M1 S T → QMb Q1 M1 T' (.inr (v, S', p')) → WPc (d + 21) mX13_crateCount [.ref (rf 11 0)] M1 Q1) (k : KLW d M0 n Q) : WP mL_law (d + 22) 462 [.ref (rf 27 0), .ref (rf 10 0), .ref (rf 11 0), .ref (rf 15 0), .ref (rf 16 0), .int (nI (6 * n)), u6, u7, u8, u9] [] M Q := by
  refine R.aload_n dL_law_462 rfl (by first | rfl | exact rfv_rf _) ?_
  refine cl_L_165 rfl rfl (by first | exact Nat.le_of_ble_eq_true rfl | simp [rf_cat, Value.category]) dL_law_463 ?_
  refine WPc.mono hxc (fun o9 M1 hm ho => ?_)
  obtain ⟨rfl, c1, F⟩ := ho
  show WP _ _ _ _ _ _ _
  refine R.aload_n dL_law_466 rfl (by first | rfl | exact rfv_rf _) ?_
  refine cl_L_168 rfl rfl (by first | exact Nat.le_of_ble_eq_true rfl | simp [rf_cat, Value.category]) dL_law_467 ?_
  refine hmd (h.m.frK F) ?_
  intro M2 m2 t2 F2
  refine R.icmp_eq (tgt := 3039) dL_law_470 (by decide) (fun _ => ?_) (fun c9 => absurd (rfl) c9)
  exact k M2 S' p' T' _ _ _ _ (h.yes c1 F hm (Fr.rf _ _) m2 F2 hT ha hp)
theorem lw_crateCount {d n p T : Nat} {M0 M : Mem} {S : KS} {u6 u7 u8 u9 : Value} {Q : Out → Mem → Prop} (h : LW M0 M S p T n) (hn : n < 512) (hlen : 6 * n + 6 ≤ mN M0 27 0) (k : KLW d M0 n Q) : WP mL_law (d + 22) 462 [.ref (rf 27 0), .ref (rf 10 0), .ref (rf 11 0), .ref (rf 15 0), .ref (rf 16 0), .int (nI (6 * n)), u6, u7, u8, u9] [] M Q :=
  lk_crateCount (v := yF (kY S) 4) (S' := S) (p' := p) (T' := T) h hlen hn (c_crateCount h.c ⟨rfl, h.c, FrK.rf⟩) (Nat.le_refl _) (by omega) (by omega) (fun m1 q => n_crateCount m1 (by have := h.t hn; omega) q) k
set_option maxHeartbeats 2000000 in
set_option maxRecDepth 8000 in
theorem lk_buyerCount {d n p p' T T' : Nat} {M0 M : Mem} {S S' : KS} {v : Int32} {u6 u7 u8 u9 : Value} {Q : Out → Mem → Prop} (h : LW M0 M S p T n) (hlen : 6 * n + 6 ≤ mN M0 27 0) (hb9 : n < 512) (hxc : WPc (d + 21) mX12_buyerCount [.ref (rf 10 0)] M (OU9 M (.inr (v, S', p')))) (hT : T ≤ T') (ha : 9 * T' + 50 * kN S' ≤ 9 * T + 50 * kN S + 1000) (hp : p' ≤ p + 1) (hmd : ∀ {M1 : Mem} {Q1 : Out → Mem → Prop}, MSt M1 S T → QMb Q1 M1 T' (.inr (v, S', p')) → WPc (d + 21) mX13_buyerCount [.ref (rf 11 0)] M1 Q1) (k : KLW d M0 n Q) : WP mL_law (d + 22) 475 [.ref (rf 27 0), .ref (rf 10 0), .ref (rf 11 0), .ref (rf 15 0), .ref (rf 16 0), .int (nI (6 * n)), u6, u7, u8, u9] [] M Q := by
  refine R.aload_n dL_law_475 rfl (by first | rfl | exact rfv_rf _) ?_
  refine cl_L_169 rfl rfl (by first | exact Nat.le_of_ble_eq_true rfl | simp [rf_cat, Value.category]) dL_law_476 ?_
  refine WPc.mono hxc (fun o9 M1 hm ho => ?_)
  obtain ⟨rfl, c1, F⟩ := ho
  show WP _ _ _ _ _ _ _
  refine R.aload_n dL_law_479 rfl (by first | rfl | exact rfv_rf _) ?_
  refine cl_L_172 rfl rfl (by first | exact Nat.le_of_ble_eq_true rfl | simp [rf_cat, Value.category]) dL_law_480 ?_
  refine hmd (h.m.frK F) ?_
  intro M2 m2 t2 F2
  refine R.icmp_eq (tgt := 3039) dL_law_483 (by decide) (fun _ => ?_) (fun c9 => absurd (rfl) c9)
  exact k M2 S' p' T' _ _ _ _ (h.yes c1 F hm (Fr.rf _ _) m2 F2 hT ha hp)
theorem lw_buyerCount {d n p T : Nat} {M0 M : Mem} {S : KS} {u6 u7 u8 u9 : Value} {Q : Out → Mem → Prop} (h : LW M0 M S p T n) (hn : n < 512) (hlen : 6 * n + 6 ≤ mN M0 27 0) (k : KLW d M0 n Q) : WP mL_law (d + 22) 475 [.ref (rf 27 0), .ref (rf 10 0), .ref (rf 11 0), .ref (rf 15 0), .ref (rf 16 0), .int (nI (6 * n)), u6, u7, u8, u9] [] M Q :=
  lk_buyerCount (v := yF (kY S) 5) (S' := S) (p' := p) (T' := T) h hlen hn (c_buyerCount h.c ⟨rfl, h.c, FrK.rf⟩) (Nat.le_refl _) (by omega) (by omega) (fun m1 q => n_buyerCount m1 (by have := h.t hn; omega) q) k
set_option maxHeartbeats 2000000 in
set_option maxRecDepth 8000 in
theorem lk_springAge {d n p p' T T' : Nat} {M0 M : Mem} {S S' : KS} {v : Int32} {u6 u7 u8 u9 : Value} {Q : Out → Mem → Prop} (h : LW M0 M S p T n) (hlen : 6 * n + 6 ≤ mN M0 27 0) (hb9 : n < 512) (hxc : WPc (d + 21) mX12_springAge [.ref (rf 10 0)] M (OU9 M (.inr (v, S', p')))) (hT : T ≤ T') (ha : 9 * T' + 50 * kN S' ≤ 9 * T + 50 * kN S + 1000) (hp : p' ≤ p + 1) (hmd : ∀ {M1 : Mem} {Q1 : Out → Mem → Prop}, MSt M1 S T → QMb Q1 M1 T' (.inr (v, S', p')) → WPc (d + 21) mX13_springAge [.ref (rf 11 0)] M1 Q1) (k : KLW d M0 n Q) : WP mL_law (d + 22) 1392 [.ref (rf 27 0), .ref (rf 10 0), .ref (rf 11 0), .ref (rf 15 0), .ref (rf 16 0), .int (nI (6 * n)), u6, u7, u8, u9] [] M Q := by
  refine R.aload_n dL_law_1392 rfl (by first | rfl | exact rfv_rf _) ?_
  refine cl_L_226 rfl rfl (by first | exact Nat.le_of_ble_eq_true rfl | simp [rf_cat, Value.category]) dL_law_1393 ?_
  refine WPc.mono hxc (fun o9 M1 hm ho => ?_)
  obtain ⟨rfl, c1, F⟩ := ho
  show WP _ _ _ _ _ _ _
  refine R.aload_n dL_law_1396 rfl (by first | rfl | exact rfv_rf _) ?_
  refine cl_L_229 rfl rfl (by first | exact Nat.le_of_ble_eq_true rfl | simp [rf_cat, Value.category]) dL_law_1397 ?_
  refine hmd (h.m.frK F) ?_
  intro M2 m2 t2 F2
  refine R.icmp_eq (tgt := 3039) dL_law_1400 (by decide) (fun _ => ?_) (fun c9 => absurd (rfl) c9)
  exact k M2 S' p' T' _ _ _ _ (h.yes c1 F hm (Fr.rf _ _) m2 F2 hT ha hp)
theorem lw_springAge {d n p T : Nat} {M0 M : Mem} {S : KS} {u6 u7 u8 u9 : Value} {Q : Out → Mem → Prop} (h : LW M0 M S p T n) (hn : n < 512) (hlen : 6 * n + 6 ≤ mN M0 27 0) (k : KLW d M0 n Q) : WP mL_law (d + 22) 1392 [.ref (rf 27 0), .ref (rf 10 0), .ref (rf 11 0), .ref (rf 15 0), .ref (rf 16 0), .int (nI (6 * n)), u6, u7, u8, u9] [] M Q :=
  lk_springAge (v := yS (kY S) 3) (S' := S) (p' := p) (T' := T) h hlen hn (c_springAge h.c ⟨rfl, h.c, FrK.rf⟩) (Nat.le_refl _) (by omega) (by omega) (fun m1 q => n_springAge m1 (by have := h.t hn; omega) q) k
set_option maxHeartbeats 2000000 in
set_option maxRecDepth 8000 in
theorem lk_springSag {d n p p' T T' : Nat} {M0 M : Mem} {S S' : KS} {v : Int32} {u6 u7 u8 u9 : Value} {Q : Out → Mem → Prop} (h : LW M0 M S p T n) (hlen : 6 * n + 6 ≤ mN M0 27 0) (hb9 : n < 512) (hxc : WPc (d + 21) mX12_springSag [.ref (rf 10 0)] M (OU9 M (.inr (v, S', p')))) (hT : T ≤ T') (ha : 9 * T' + 50 * kN S' ≤ 9 * T + 50 * kN S + 1000) (hp : p' ≤ p + 1) (hmd : ∀ {M1 : Mem} {Q1 : Out → Mem → Prop}, MSt M1 S T → QMb Q1 M1 T' (.inr (v, S', p')) → WPc (d + 21) mX13_springSag [.ref (rf 11 0)] M1 Q1) (k : KLW d M0 n Q) : WP mL_law (d + 22) 1405 [.ref (rf 27 0), .ref (rf 10 0), .ref (rf 11 0), .ref (rf 15 0), .ref (rf 16 0), .int (nI (6 * n)), u6, u7, u8, u9] [] M Q := by
  refine R.aload_n dL_law_1405 rfl (by first | rfl | exact rfv_rf _) ?_
  refine cl_L_230 rfl rfl (by first | exact Nat.le_of_ble_eq_true rfl | simp [rf_cat, Value.category]) dL_law_1406 ?_
  refine WPc.mono hxc (fun o9 M1 hm ho => ?_)
  obtain ⟨rfl, c1, F⟩ := ho
  show WP _ _ _ _ _ _ _
  refine R.aload_n dL_law_1409 rfl (by first | rfl | exact rfv_rf _) ?_
  refine cl_L_233 rfl rfl (by first | exact Nat.le_of_ble_eq_true rfl | simp [rf_cat, Value.category]) dL_law_1410 ?_
  refine hmd (h.m.frK F) ?_
  intro M2 m2 t2 F2
  refine R.icmp_eq (tgt := 3039) dL_law_1413 (by decide) (fun _ => ?_) (fun c9 => absurd (rfl) c9)
  exact k M2 S' p' T' _ _ _ _ (h.yes c1 F hm (Fr.rf _ _) m2 F2 hT ha hp)
theorem lw_springSag {d n p T : Nat} {M0 M : Mem} {S : KS} {u6 u7 u8 u9 : Value} {Q : Out → Mem → Prop} (h : LW M0 M S p T n) (hn : n < 512) (hlen : 6 * n + 6 ≤ mN M0 27 0) (k : KLW d M0 n Q) : WP mL_law (d + 22) 1405 [.ref (rf 27 0), .ref (rf 10 0), .ref (rf 11 0), .ref (rf 15 0), .ref (rf 16 0), .int (nI (6 * n)), u6, u7, u8, u9] [] M Q :=
  lk_springSag (v := fSag (yS (kY S) 2) (yS (kY S) 3)) (S' := S) (p' := p) (T' := T) h hlen hn (c_springSag h.c ⟨rfl, h.c, FrK.rf⟩) (Nat.le_refl _) (by omega) (by omega) (fun m1 q => n_springSag m1 (by have := h.t hn; omega) q) k
set_option maxHeartbeats 2000000 in
set_option maxRecDepth 8000 in
theorem lk_amplitude {d n p p' T T' : Nat} {M0 M : Mem} {S S' : KS} {v : Int32} {u6 u7 u8 u9 : Value} {Q : Out → Mem → Prop} (h : LW M0 M S p T n) (hlen : 6 * n + 6 ≤ mN M0 27 0) (hb9 : n < 512) (hxc : WPc (d + 21) mX12_amplitude [.ref (rf 10 0)] M (OU9 M (.inr (v, S', p')))) (hT : T ≤ T') (ha : 9 * T' + 50 * kN S' ≤ 9 * T + 50 * kN S + 1000) (hp : p' ≤ p + 1) (hmd : ∀ {M1 : Mem} {Q1 : Out → Mem → Prop}, MSt M1 S T → QMb Q1 M1 T' (.inr (v, S', p')) → WPc (d + 21) mX13_amplitude [.ref (rf 11 0)] M1 Q1) (k : KLW d M0 n Q) : WP mL_law (d + 22) 1418 [.ref (rf 27 0), .ref (rf 10 0), .ref (rf 11 0), .ref (rf 15 0), .ref (rf 16 0), .int (nI (6 * n)), u6, u7, u8, u9] [] M Q := by
  refine R.aload_n dL_law_1418 rfl (by first | rfl | exact rfv_rf _) ?_
  refine cl_L_234 rfl rfl (by first | exact Nat.le_of_ble_eq_true rfl | simp [rf_cat, Value.category]) dL_law_1419 ?_
  refine WPc.mono hxc (fun o9 M1 hm ho => ?_)
  obtain ⟨rfl, c1, F⟩ := ho
  show WP _ _ _ _ _ _ _
  refine R.aload_n dL_law_1422 rfl (by first | rfl | exact rfv_rf _) ?_
  refine cl_L_237 rfl rfl (by first | exact Nat.le_of_ble_eq_true rfl | simp [rf_cat, Value.category]) dL_law_1423 ?_
  refine hmd (h.m.frK F) ?_
  intro M2 m2 t2 F2
  refine R.icmp_eq (tgt := 3039) dL_law_1426 (by decide) (fun _ => ?_) (fun c9 => absurd (rfl) c9)
  exact k M2 S' p' T' _ _ _ _ (h.yes c1 F hm (Fr.rf _ _) m2 F2 hT ha hp)
theorem lw_amplitude {d n p T : Nat} {M0 M : Mem} {S : KS} {u6 u7 u8 u9 : Value} {Q : Out → Mem → Prop} (h : LW M0 M S p T n) (hn : n < 512) (hlen : 6 * n + 6 ≤ mN M0 27 0) (k : KLW d M0 n Q) : WP mL_law (d + 22) 1418 [.ref (rf 27 0), .ref (rf 10 0), .ref (rf 11 0), .ref (rf 15 0), .ref (rf 16 0), .int (nI (6 * n)), u6, u7, u8, u9] [] M Q :=
  lk_amplitude (v := yS (kY S) 1) (S' := S) (p' := p) (T' := T) h hlen hn (c_amplitude h.c ⟨rfl, h.c, FrK.rf⟩) (Nat.le_refl _) (by omega) (by omega) (fun m1 q => n_amplitude m1 (by have := h.t hn; omega) q) k
set_option maxHeartbeats 2000000 in
set_option maxRecDepth 8000 in
theorem lk_aging {d n p p' T T' : Nat} {M0 M : Mem} {S S' : KS} {v : Int32} {u6 u7 u8 u9 : Value} {Q : Out → Mem → Prop} (h : LW M0 M S p T n) (hlen : 6 * n + 6 ≤ mN M0 27 0) (hb9 : n < 512) (hxc : WPc (d + 21) mX12_aging [.ref (rf 10 0)] M (OU9 M (.inr (v, S', p')))) (hT : T ≤ T') (ha : 9 * T' + 50 * kN S' ≤ 9 * T + 50 * kN S + 1000) (hp : p' ≤ p + 1) (hmd : ∀ {M1 : Mem} {Q1 : Out → Mem → Prop}, MSt M1 S T → QMb Q1 M1 T' (.inr (v, S', p')) → WPc (d + 21) mX13_aging [.ref (rf 11 0)] M1 Q1) (k : KLW d M0 n Q) : WP mL_law (d + 22) 1431 [.ref (rf 27 0), .ref (rf 10 0), .ref (rf 11 0), .ref (rf 15 0), .ref (rf 16 0), .int (nI (6 * n)), u6, u7, u8, u9] [] M Q := by
  refine R.aload_n dL_law_1431 rfl (by first | rfl | exact rfv_rf _) ?_
  refine cl_L_238 rfl rfl (by first | exact Nat.le_of_ble_eq_true rfl | simp [rf_cat, Value.category]) dL_law_1432 ?_
  refine WPc.mono hxc (fun o9 M1 hm ho => ?_)
  obtain ⟨rfl, c1, F⟩ := ho
  show WP _ _ _ _ _ _ _
  refine R.aload_n dL_law_1435 rfl (by first | rfl | exact rfv_rf _) ?_
  refine cl_L_241 rfl rfl (by first | exact Nat.le_of_ble_eq_true rfl | simp [rf_cat, Value.category]) dL_law_1436 ?_
  refine hmd (h.m.frK F) ?_
  intro M2 m2 t2 F2
  refine R.icmp_eq (tgt := 3039) dL_law_1439 (by decide) (fun _ => ?_) (fun c9 => absurd (rfl) c9)
  exact k M2 S' p' T' _ _ _ _ (h.yes c1 F hm (Fr.rf _ _) m2 F2 hT ha hp)
theorem lw_aging {d n p T : Nat} {M0 M : Mem} {S : KS} {u6 u7 u8 u9 : Value} {Q : Out → Mem → Prop} (h : LW M0 M S p T n) (hn : n < 512) (hlen : 6 * n + 6 ≤ mN M0 27 0) (k : KLW d M0 n Q) : WP mL_law (d + 22) 1431 [.ref (rf 27 0), .ref (rf 10 0), .ref (rf 11 0), .ref (rf 15 0), .ref (rf 16 0), .int (nI (6 * n)), u6, u7, u8, u9] [] M Q :=
  lk_aging (v := yS (kY S) 2) (S' := S) (p' := p) (T' := T) h hlen hn (c_aging h.c ⟨rfl, h.c, FrK.rf⟩) (Nat.le_refl _) (by omega) (by omega) (fun m1 q => n_aging m1 (by have := h.t hn; omega) q) k
set_option maxHeartbeats 2000000 in
set_option maxRecDepth 8000 in
theorem lk_requiredReadings {d n p p' T T' : Nat} {M0 M : Mem} {S S' : KS} {v : Int32} {u6 u7 u8 u9 : Value} {Q : Out → Mem → Prop} (h : LW M0 M S p T n) (hlen : 6 * n + 6 ≤ mN M0 27 0) (hb9 : n < 512) (hxc : WPc (d + 21) mX12_requiredReadings [.ref (rf 10 0)] M (OU9 M (.inr (v, S', p')))) (hT : T ≤ T') (ha : 9 * T' + 50 * kN S' ≤ 9 * T + 50 * kN S + 1000) (hp : p' ≤ p + 1) (hmd : ∀ {M1 : Mem} {Q1 : Out → Mem → Prop}, MSt M1 S T → QMb Q1 M1 T' (.inr (v, S', p')) → WPc (d + 21) mX13_requiredReadings [.ref (rf 11 0)] M1 Q1) (k : KLW d M0 n Q) : WP mL_law (d + 22) 1444 [.ref (rf 27 0), .ref (rf 10 0), .ref (rf 11 0), .ref (rf 15 0), .ref (rf 16 0), .int (nI (6 * n)), u6, u7, u8, u9] [] M Q := by
  refine R.aload_n dL_law_1444 rfl (by first | rfl | exact rfv_rf _) ?_
  refine cl_L_242 rfl rfl (by first | exact Nat.le_of_ble_eq_true rfl | simp [rf_cat, Value.category]) dL_law_1445 ?_
  refine WPc.mono hxc (fun o9 M1 hm ho => ?_)
  obtain ⟨rfl, c1, F⟩ := ho
  show WP _ _ _ _ _ _ _
  refine R.aload_n dL_law_1448 rfl (by first | rfl | exact rfv_rf _) ?_
  refine cl_L_245 rfl rfl (by first | exact Nat.le_of_ble_eq_true rfl | simp [rf_cat, Value.category]) dL_law_1449 ?_
  refine hmd (h.m.frK F) ?_
  intro M2 m2 t2 F2
  refine R.icmp_eq (tgt := 3039) dL_law_1452 (by decide) (fun _ => ?_) (fun c9 => absurd (rfl) c9)
  exact k M2 S' p' T' _ _ _ _ (h.yes c1 F hm (Fr.rf _ _) m2 F2 hT ha hp)
theorem lw_requiredReadings {d n p T : Nat} {M0 M : Mem} {S : KS} {u6 u7 u8 u9 : Value} {Q : Out → Mem → Prop} (h : LW M0 M S p T n) (hn : n < 512) (hlen : 6 * n + 6 ≤ mN M0 27 0) (k : KLW d M0 n Q) : WP mL_law (d + 22) 1444 [.ref (rf 27 0), .ref (rf 10 0), .ref (rf 11 0), .ref (rf 15 0), .ref (rf 16 0), .int (nI (6 * n)), u6, u7, u8, u9] [] M Q :=
  lk_requiredReadings (v := yF (kY S) 6) (S' := S) (p' := p) (T' := T) h hlen hn (c_requiredReadings h.c ⟨rfl, h.c, FrK.rf⟩) (Nat.le_refl _) (by omega) (by omega) (fun m1 q => n_requiredReadings m1 (by have := h.t hn; omega) q) k
set_option maxHeartbeats 2000000 in
set_option maxRecDepth 8000 in
theorem lk_requiredTrust {d n p p' T T' : Nat} {M0 M : Mem} {S S' : KS} {v : Int32} {u6 u7 u8 u9 : Value} {Q : Out → Mem → Prop} (h : LW M0 M S p T n) (hlen : 6 * n + 6 ≤ mN M0 27 0) (hb9 : n < 512) (hxc : WPc (d + 21) mX12_requiredTrust [.ref (rf 10 0)] M (OU9 M (.inr (v, S', p')))) (hT : T ≤ T') (ha : 9 * T' + 50 * kN S' ≤ 9 * T + 50 * kN S + 1000) (hp : p' ≤ p + 1) (hmd : ∀ {M1 : Mem} {Q1 : Out → Mem → Prop}, MSt M1 S T → QMb Q1 M1 T' (.inr (v, S', p')) → WPc (d + 21) mX13_requiredTrust [.ref (rf 11 0)] M1 Q1) (k : KLW d M0 n Q) : WP mL_law (d + 22) 1457 [.ref (rf 27 0), .ref (rf 10 0), .ref (rf 11 0), .ref (rf 15 0), .ref (rf 16 0), .int (nI (6 * n)), u6, u7, u8, u9] [] M Q := by
  refine R.aload_n dL_law_1457 rfl (by first | rfl | exact rfv_rf _) ?_
  refine cl_L_246 rfl rfl (by first | exact Nat.le_of_ble_eq_true rfl | simp [rf_cat, Value.category]) dL_law_1458 ?_
  refine WPc.mono hxc (fun o9 M1 hm ho => ?_)
  obtain ⟨rfl, c1, F⟩ := ho
  show WP _ _ _ _ _ _ _
  refine R.aload_n dL_law_1461 rfl (by first | rfl | exact rfv_rf _) ?_
  refine cl_L_249 rfl rfl (by first | exact Nat.le_of_ble_eq_true rfl | simp [rf_cat, Value.category]) dL_law_1462 ?_
  refine hmd (h.m.frK F) ?_
  intro M2 m2 t2 F2
  refine R.icmp_eq (tgt := 3039) dL_law_1465 (by decide) (fun _ => ?_) (fun c9 => absurd (rfl) c9)
  exact k M2 S' p' T' _ _ _ _ (h.yes c1 F hm (Fr.rf _ _) m2 F2 hT ha hp)
theorem lw_requiredTrust {d n p T : Nat} {M0 M : Mem} {S : KS} {u6 u7 u8 u9 : Value} {Q : Out → Mem → Prop} (h : LW M0 M S p T n) (hn : n < 512) (hlen : 6 * n + 6 ≤ mN M0 27 0) (k : KLW d M0 n Q) : WP mL_law (d + 22) 1457 [.ref (rf 27 0), .ref (rf 10 0), .ref (rf 11 0), .ref (rf 15 0), .ref (rf 16 0), .int (nI (6 * n)), u6, u7, u8, u9] [] M Q :=
  lk_requiredTrust (v := yF (kY S) 7) (S' := S) (p' := p) (T' := T) h hlen hn (c_requiredTrust h.c ⟨rfl, h.c, FrK.rf⟩) (Nat.le_refl _) (by omega) (by omega) (fun m1 q => n_requiredTrust m1 (by have := h.t hn; omega) q) k
set_option maxHeartbeats 2000000 in
set_option maxRecDepth 8000 in
theorem lk_totalReadings {d n p p' T T' : Nat} {M0 M : Mem} {S S' : KS} {v : Int32} {u6 u7 u8 u9 : Value} {Q : Out → Mem → Prop} (h : LW M0 M S p T n) (hlen : 6 * n + 6 ≤ mN M0 27 0) (hb9 : n < 512) (hxc : WPc (d + 21) mX12_totalReadings [.ref (rf 10 0)] M (OU9 M (.inr (v, S', p')))) (hT : T ≤ T') (ha : 9 * T' + 50 * kN S' ≤ 9 * T + 50 * kN S + 1000) (hp : p' ≤ p + 1) (hmd : ∀ {M1 : Mem} {Q1 : Out → Mem → Prop}, MSt M1 S T → QMb Q1 M1 T' (.inr (v, S', p')) → WPc (d + 21) mX13_totalReadings [.ref (rf 11 0)] M1 Q1) (k : KLW d M0 n Q) : WP mL_law (d + 22) 2214 [.ref (rf 27 0), .ref (rf 10 0), .ref (rf 11 0), .ref (rf 15 0), .ref (rf 16 0), .int (nI (6 * n)), u6, u7, u8, u9] [] M Q := by
  refine R.aload_n dL_law_2214 rfl (by first | rfl | exact rfv_rf _) ?_
  refine cl_L_286 rfl rfl (by first | exact Nat.le_of_ble_eq_true rfl | simp [rf_cat, Value.category]) dL_law_2215 ?_
  refine WPc.mono hxc (fun o9 M1 hm ho => ?_)
  obtain ⟨rfl, c1, F⟩ := ho
  show WP _ _ _ _ _ _ _
  refine R.aload_n dL_law_2218 rfl (by first | rfl | exact rfv_rf _) ?_
  refine cl_L_289 rfl rfl (by first | exact Nat.le_of_ble_eq_true rfl | simp [rf_cat, Value.category]) dL_law_2219 ?_
  refine hmd (h.m.frK F) ?_
  intro M2 m2 t2 F2
  refine R.icmp_eq (tgt := 3039) dL_law_2222 (by decide) (fun _ => ?_) (fun c9 => absurd (rfl) c9)
  exact k M2 S' p' T' _ _ _ _ (h.yes c1 F hm (Fr.rf _ _) m2 F2 hT ha hp)
theorem lw_totalReadings {d n p T : Nat} {M0 M : Mem} {S : KS} {u6 u7 u8 u9 : Value} {Q : Out → Mem → Prop} (h : LW M0 M S p T n) (hn : n < 512) (hlen : 6 * n + 6 ≤ mN M0 27 0) (k : KLW d M0 n Q) : WP mL_law (d + 22) 2214 [.ref (rf 27 0), .ref (rf 10 0), .ref (rf 11 0), .ref (rf 15 0), .ref (rf 16 0), .int (nI (6 * n)), u6, u7, u8, u9] [] M Q :=
  lk_totalReadings (v := yT (kY S) 0) (S' := S) (p' := p) (T' := T) h hlen hn (c_totalReadings h.c ⟨rfl, h.c, FrK.rf⟩) (Nat.le_refl _) (by omega) (by omega) (fun m1 q => n_totalReadings m1 (by have := h.t hn; omega) q) k
set_option maxHeartbeats 2000000 in
set_option maxRecDepth 8000 in
theorem lk_totalDiscarded {d n p p' T T' : Nat} {M0 M : Mem} {S S' : KS} {v : Int32} {u6 u7 u8 u9 : Value} {Q : Out → Mem → Prop} (h : LW M0 M S p T n) (hlen : 6 * n + 6 ≤ mN M0 27 0) (hb9 : n < 512) (hxc : WPc (d + 21) mX12_totalDiscarded [.ref (rf 10 0)] M (OU9 M (.inr (v, S', p')))) (hT : T ≤ T') (ha : 9 * T' + 50 * kN S' ≤ 9 * T + 50 * kN S + 1000) (hp : p' ≤ p + 1) (hmd : ∀ {M1 : Mem} {Q1 : Out → Mem → Prop}, MSt M1 S T → QMb Q1 M1 T' (.inr (v, S', p')) → WPc (d + 21) mX13_totalDiscarded [.ref (rf 11 0)] M1 Q1) (k : KLW d M0 n Q) : WP mL_law (d + 22) 2227 [.ref (rf 27 0), .ref (rf 10 0), .ref (rf 11 0), .ref (rf 15 0), .ref (rf 16 0), .int (nI (6 * n)), u6, u7, u8, u9] [] M Q := by
  refine R.aload_n dL_law_2227 rfl (by first | rfl | exact rfv_rf _) ?_
  refine cl_L_290 rfl rfl (by first | exact Nat.le_of_ble_eq_true rfl | simp [rf_cat, Value.category]) dL_law_2228 ?_
  refine WPc.mono hxc (fun o9 M1 hm ho => ?_)
  obtain ⟨rfl, c1, F⟩ := ho
  show WP _ _ _ _ _ _ _
  refine R.aload_n dL_law_2231 rfl (by first | rfl | exact rfv_rf _) ?_
  refine cl_L_293 rfl rfl (by first | exact Nat.le_of_ble_eq_true rfl | simp [rf_cat, Value.category]) dL_law_2232 ?_
  refine hmd (h.m.frK F) ?_
  intro M2 m2 t2 F2
  refine R.icmp_eq (tgt := 3039) dL_law_2235 (by decide) (fun _ => ?_) (fun c9 => absurd (rfl) c9)
  exact k M2 S' p' T' _ _ _ _ (h.yes c1 F hm (Fr.rf _ _) m2 F2 hT ha hp)
theorem lw_totalDiscarded {d n p T : Nat} {M0 M : Mem} {S : KS} {u6 u7 u8 u9 : Value} {Q : Out → Mem → Prop} (h : LW M0 M S p T n) (hn : n < 512) (hlen : 6 * n + 6 ≤ mN M0 27 0) (k : KLW d M0 n Q) : WP mL_law (d + 22) 2227 [.ref (rf 27 0), .ref (rf 10 0), .ref (rf 11 0), .ref (rf 15 0), .ref (rf 16 0), .int (nI (6 * n)), u6, u7, u8, u9] [] M Q :=
  lk_totalDiscarded (v := yT (kY S) 1) (S' := S) (p' := p) (T' := T) h hlen hn (c_totalDiscarded h.c ⟨rfl, h.c, FrK.rf⟩) (Nat.le_refl _) (by omega) (by omega) (fun m1 q => n_totalDiscarded m1 (by have := h.t hn; omega) q) k
set_option maxHeartbeats 2000000 in
set_option maxRecDepth 8000 in
theorem lk_springsReplaced {d n p p' T T' : Nat} {M0 M : Mem} {S S' : KS} {v : Int32} {u6 u7 u8 u9 : Value} {Q : Out → Mem → Prop} (h : LW M0 M S p T n) (hlen : 6 * n + 6 ≤ mN M0 27 0) (hb9 : n < 512) (hxc : WPc (d + 21) mX12_springsReplaced [.ref (rf 10 0)] M (OU9 M (.inr (v, S', p')))) (hT : T ≤ T') (ha : 9 * T' + 50 * kN S' ≤ 9 * T + 50 * kN S + 1000) (hp : p' ≤ p + 1) (hmd : ∀ {M1 : Mem} {Q1 : Out → Mem → Prop}, MSt M1 S T → QMb Q1 M1 T' (.inr (v, S', p')) → WPc (d + 21) mX13_springsReplaced [.ref (rf 11 0)] M1 Q1) (k : KLW d M0 n Q) : WP mL_law (d + 22) 2240 [.ref (rf 27 0), .ref (rf 10 0), .ref (rf 11 0), .ref (rf 15 0), .ref (rf 16 0), .int (nI (6 * n)), u6, u7, u8, u9] [] M Q := by
  refine R.aload_n dL_law_2240 rfl (by first | rfl | exact rfv_rf _) ?_
  refine cl_L_294 rfl rfl (by first | exact Nat.le_of_ble_eq_true rfl | simp [rf_cat, Value.category]) dL_law_2241 ?_
  refine WPc.mono hxc (fun o9 M1 hm ho => ?_)
  obtain ⟨rfl, c1, F⟩ := ho
  show WP _ _ _ _ _ _ _
  refine R.aload_n dL_law_2244 rfl (by first | rfl | exact rfv_rf _) ?_
  refine cl_L_297 rfl rfl (by first | exact Nat.le_of_ble_eq_true rfl | simp [rf_cat, Value.category]) dL_law_2245 ?_
  refine hmd (h.m.frK F) ?_
  intro M2 m2 t2 F2
  refine R.icmp_eq (tgt := 3039) dL_law_2248 (by decide) (fun _ => ?_) (fun c9 => absurd (rfl) c9)
  exact k M2 S' p' T' _ _ _ _ (h.yes c1 F hm (Fr.rf _ _) m2 F2 hT ha hp)
theorem lw_springsReplaced {d n p T : Nat} {M0 M : Mem} {S : KS} {u6 u7 u8 u9 : Value} {Q : Out → Mem → Prop} (h : LW M0 M S p T n) (hn : n < 512) (hlen : 6 * n + 6 ≤ mN M0 27 0) (k : KLW d M0 n Q) : WP mL_law (d + 22) 2240 [.ref (rf 27 0), .ref (rf 10 0), .ref (rf 11 0), .ref (rf 15 0), .ref (rf 16 0), .int (nI (6 * n)), u6, u7, u8, u9] [] M Q :=
  lk_springsReplaced (v := yT (kY S) 2) (S' := S) (p' := p) (T' := T) h hlen hn (c_springsReplaced h.c ⟨rfl, h.c, FrK.rf⟩) (Nat.le_refl _) (by omega) (by omega) (fun m1 q => n_springsReplaced m1 (by have := h.t hn; omega) q) k
set_option maxHeartbeats 2000000 in
set_option maxRecDepth 8000 in
theorem lk_salesCount {d n p p' T T' : Nat} {M0 M : Mem} {S S' : KS} {v : Int32} {u6 u7 u8 u9 : Value} {Q : Out → Mem → Prop} (h : LW M0 M S p T n) (hlen : 6 * n + 6 ≤ mN M0 27 0) (hb9 : n < 512) (hxc : WPc (d + 21) mX12_salesCount [.ref (rf 10 0)] M (OU9 M (.inr (v, S', p')))) (hT : T ≤ T') (ha : 9 * T' + 50 * kN S' ≤ 9 * T + 50 * kN S + 1000) (hp : p' ≤ p + 1) (hmd : ∀ {M1 : Mem} {Q1 : Out → Mem → Prop}, MSt M1 S T → QMb Q1 M1 T' (.inr (v, S', p')) → WPc (d + 21) mX13_salesCount [.ref (rf 11 0)] M1 Q1) (k : KLW d M0 n Q) : WP mL_law (d + 22) 2253 [.ref (rf 27 0), .ref (rf 10 0), .ref (rf 11 0), .ref (rf 15 0), .ref (rf 16 0), .int (nI (6 * n)), u6, u7, u8, u9] [] M Q := by
  refine R.aload_n dL_law_2253 rfl (by first | rfl | exact rfv_rf _) ?_
  refine cl_L_298 rfl rfl (by first | exact Nat.le_of_ble_eq_true rfl | simp [rf_cat, Value.category]) dL_law_2254 ?_
  refine WPc.mono hxc (fun o9 M1 hm ho => ?_)
  obtain ⟨rfl, c1, F⟩ := ho
  show WP _ _ _ _ _ _ _
  refine R.aload_n dL_law_2257 rfl (by first | rfl | exact rfv_rf _) ?_
  refine cl_L_301 rfl rfl (by first | exact Nat.le_of_ble_eq_true rfl | simp [rf_cat, Value.category]) dL_law_2258 ?_
  refine hmd (h.m.frK F) ?_
  intro M2 m2 t2 F2
  refine R.icmp_eq (tgt := 3039) dL_law_2261 (by decide) (fun _ => ?_) (fun c9 => absurd (rfl) c9)
  exact k M2 S' p' T' _ _ _ _ (h.yes c1 F hm (Fr.rf _ _) m2 F2 hT ha hp)
theorem lw_salesCount {d n p T : Nat} {M0 M : Mem} {S : KS} {u6 u7 u8 u9 : Value} {Q : Out → Mem → Prop} (h : LW M0 M S p T n) (hn : n < 512) (hlen : 6 * n + 6 ≤ mN M0 27 0) (k : KLW d M0 n Q) : WP mL_law (d + 22) 2253 [.ref (rf 27 0), .ref (rf 10 0), .ref (rf 11 0), .ref (rf 15 0), .ref (rf 16 0), .int (nI (6 * n)), u6, u7, u8, u9] [] M Q :=
  lk_salesCount (v := yT (kY S) 3) (S' := S) (p' := p) (T' := T) h hlen hn (c_salesCount h.c ⟨rfl, h.c, FrK.rf⟩) (Nat.le_refl _) (by omega) (by omega) (fun m1 q => n_salesCount m1 (by have := h.t hn; omega) q) k
set_option maxHeartbeats 2000000 in
set_option maxRecDepth 8000 in
theorem lk_totalPrices {d n p p' T T' : Nat} {M0 M : Mem} {S S' : KS} {v : Int32} {u6 u7 u8 u9 : Value} {Q : Out → Mem → Prop} (h : LW M0 M S p T n) (hlen : 6 * n + 6 ≤ mN M0 27 0) (hb9 : n < 512) (hxc : WPc (d + 21) mX12_totalPrices [.ref (rf 10 0)] M (OU9 M (.inr (v, S', p')))) (hT : T ≤ T') (ha : 9 * T' + 50 * kN S' ≤ 9 * T + 50 * kN S + 1000) (hp : p' ≤ p + 1) (hmd : ∀ {M1 : Mem} {Q1 : Out → Mem → Prop}, MSt M1 S T → QMb Q1 M1 T' (.inr (v, S', p')) → WPc (d + 21) mX13_totalPrices [.ref (rf 11 0)] M1 Q1) (k : KLW d M0 n Q) : WP mL_law (d + 22) 2266 [.ref (rf 27 0), .ref (rf 10 0), .ref (rf 11 0), .ref (rf 15 0), .ref (rf 16 0), .int (nI (6 * n)), u6, u7, u8, u9] [] M Q := by
  refine R.aload_n dL_law_2266 rfl (by first | rfl | exact rfv_rf _) ?_
  refine cl_L_302 rfl rfl (by first | exact Nat.le_of_ble_eq_true rfl | simp [rf_cat, Value.category]) dL_law_2267 ?_
  refine WPc.mono hxc (fun o9 M1 hm ho => ?_)
  obtain ⟨rfl, c1, F⟩ := ho
  show WP _ _ _ _ _ _ _
  refine R.aload_n dL_law_2270 rfl (by first | rfl | exact rfv_rf _) ?_
  refine cl_L_305 rfl rfl (by first | exact Nat.le_of_ble_eq_true rfl | simp [rf_cat, Value.category]) dL_law_2271 ?_
  refine hmd (h.m.frK F) ?_
  intro M2 m2 t2 F2
  refine R.icmp_eq (tgt := 3039) dL_law_2274 (by decide) (fun _ => ?_) (fun c9 => absurd (rfl) c9)
  exact k M2 S' p' T' _ _ _ _ (h.yes c1 F hm (Fr.rf _ _) m2 F2 hT ha hp)
theorem lw_totalPrices {d n p T : Nat} {M0 M : Mem} {S : KS} {u6 u7 u8 u9 : Value} {Q : Out → Mem → Prop} (h : LW M0 M S p T n) (hn : n < 512) (hlen : 6 * n + 6 ≤ mN M0 27 0) (k : KLW d M0 n Q) : WP mL_law (d + 22) 2266 [.ref (rf 27 0), .ref (rf 10 0), .ref (rf 11 0), .ref (rf 15 0), .ref (rf 16 0), .int (nI (6 * n)), u6, u7, u8, u9] [] M Q :=
  lk_totalPrices (v := yT (kY S) 4) (S' := S) (p' := p) (T' := T) h hlen hn (c_totalPrices h.c ⟨rfl, h.c, FrK.rf⟩) (Nat.le_refl _) (by omega) (by omega) (fun m1 q => n_totalPrices m1 (by have := h.t hn; omega) q) k
set_option maxHeartbeats 2000000 in
set_option maxRecDepth 8000 in
theorem lk_totalRefunds {d n p p' T T' : Nat} {M0 M : Mem} {S S' : KS} {v : Int32} {u6 u7 u8 u9 : Value} {Q : Out → Mem → Prop} (h : LW M0 M S p T n) (hlen : 6 * n + 6 ≤ mN M0 27 0) (hb9 : n < 512) (hxc : WPc (d + 21) mX12_totalRefunds [.ref (rf 10 0)] M (OU9 M (.inr (v, S', p')))) (hT : T ≤ T') (ha : 9 * T' + 50 * kN S' ≤ 9 * T + 50 * kN S + 1000) (hp : p' ≤ p + 1) (hmd : ∀ {M1 : Mem} {Q1 : Out → Mem → Prop}, MSt M1 S T → QMb Q1 M1 T' (.inr (v, S', p')) → WPc (d + 21) mX13_totalRefunds [.ref (rf 11 0)] M1 Q1) (k : KLW d M0 n Q) : WP mL_law (d + 22) 2279 [.ref (rf 27 0), .ref (rf 10 0), .ref (rf 11 0), .ref (rf 15 0), .ref (rf 16 0), .int (nI (6 * n)), u6, u7, u8, u9] [] M Q := by
  refine R.aload_n dL_law_2279 rfl (by first | rfl | exact rfv_rf _) ?_
  refine cl_L_306 rfl rfl (by first | exact Nat.le_of_ble_eq_true rfl | simp [rf_cat, Value.category]) dL_law_2280 ?_
  refine WPc.mono hxc (fun o9 M1 hm ho => ?_)
  obtain ⟨rfl, c1, F⟩ := ho
  show WP _ _ _ _ _ _ _
  refine R.aload_n dL_law_2283 rfl (by first | rfl | exact rfv_rf _) ?_
  refine cl_L_309 rfl rfl (by first | exact Nat.le_of_ble_eq_true rfl | simp [rf_cat, Value.category]) dL_law_2284 ?_
  refine hmd (h.m.frK F) ?_
  intro M2 m2 t2 F2
  refine R.icmp_eq (tgt := 3039) dL_law_2287 (by decide) (fun _ => ?_) (fun c9 => absurd (rfl) c9)
  exact k M2 S' p' T' _ _ _ _ (h.yes c1 F hm (Fr.rf _ _) m2 F2 hT ha hp)
theorem lw_totalRefunds {d n p T : Nat} {M0 M : Mem} {S : KS} {u6 u7 u8 u9 : Value} {Q : Out → Mem → Prop} (h : LW M0 M S p T n) (hn : n < 512) (hlen : 6 * n + 6 ≤ mN M0 27 0) (k : KLW d M0 n Q) : WP mL_law (d + 22) 2279 [.ref (rf 27 0), .ref (rf 10 0), .ref (rf 11 0), .ref (rf 15 0), .ref (rf 16 0), .int (nI (6 * n)), u6, u7, u8, u9] [] M Q :=
  lk_totalRefunds (v := yT (kY S) 5) (S' := S) (p' := p) (T' := T) h hlen hn (c_totalRefunds h.c ⟨rfl, h.c, FrK.rf⟩) (Nat.le_refl _) (by omega) (by omega) (fun m1 q => n_totalRefunds m1 (by have := h.t hn; omega) q) k
set_option maxHeartbeats 2000000 in
set_option maxRecDepth 8000 in
theorem lk_isConsistent {d n p p' T T' : Nat} {M0 M : Mem} {S S' : KS} {v : Int32} {u6 u7 u8 u9 : Value} {Q : Out → Mem → Prop} (h : LW M0 M S p T n) (hlen : 6 * n + 6 ≤ mN M0 27 0) (hb9 : n < 512) (hxc : WPc (d + 21) mX12_isConsistent [.ref (rf 10 0)] M (OU9 M (.inr (v, S', p')))) (hT : T ≤ T') (ha : 9 * T' + 50 * kN S' ≤ 9 * T + 50 * kN S + 1000) (hp : p' ≤ p + 1) (hmd : ∀ {M1 : Mem} {Q1 : Out → Mem → Prop}, MSt M1 S T → QMb Q1 M1 T' (.inr (v, S', p')) → WPc (d + 21) mX13_isConsistent [.ref (rf 11 0)] M1 Q1) (k : KLW d M0 n Q) : WP mL_law (d + 22) 2292 [.ref (rf 27 0), .ref (rf 10 0), .ref (rf 11 0), .ref (rf 15 0), .ref (rf 16 0), .int (nI (6 * n)), u6, u7, u8, u9] [] M Q := by
  refine R.aload_n dL_law_2292 rfl (by first | rfl | exact rfv_rf _) ?_
  refine cl_L_310 rfl rfl (by first | exact Nat.le_of_ble_eq_true rfl | simp [rf_cat, Value.category]) dL_law_2293 ?_
  refine WPc.mono hxc (fun o9 M1 hm ho => ?_)
  obtain ⟨rfl, c1, F⟩ := ho
  show WP _ _ _ _ _ _ _
  refine R.aload_n dL_law_2296 rfl (by first | rfl | exact rfv_rf _) ?_
  refine cl_L_314 rfl rfl (by first | exact Nat.le_of_ble_eq_true rfl | simp [rf_cat, Value.category]) dL_law_2297 ?_
  refine hmd (h.m.frK F) ?_
  intro M2 m2 t2 F2
  refine R.icmp_eq (tgt := 3039) dL_law_2300 (by decide) (fun _ => ?_) (fun c9 => absurd (rfl) c9)
  exact k M2 S' p' T' _ _ _ _ (h.yes c1 F hm (Fr.rf _ _) m2 F2 hT ha hp)
theorem lw_isConsistent {d n p T : Nat} {M0 M : Mem} {S : KS} {u6 u7 u8 u9 : Value} {Q : Out → Mem → Prop} (h : LW M0 M S p T n) (hn : n < 512) (hlen : 6 * n + 6 ≤ mN M0 27 0) (k : KLW d M0 n Q) : WP mL_law (d + 22) 2292 [.ref (rf 27 0), .ref (rf 10 0), .ref (rf 11 0), .ref (rf 15 0), .ref (rf 16 0), .int (nI (6 * n)), u6, u7, u8, u9] [] M Q :=
  lk_isConsistent (v := coY (kY S)) (S' := S) (p' := p) (T' := T) h hlen hn (c_isConsistent h.c h.acy (h.che hn) ⟨rfl, h.c, FrK.rf⟩) (Nat.le_refl _) (by omega) (by omega) (fun m1 q => n_isConsistent m1 (by have := h.t hn; omega) q) k
set_option maxHeartbeats 2000000 in
set_option maxRecDepth 8000 in
theorem lk_outputByte {d n p p' T T' : Nat} {M0 M : Mem} {S S' : KS} {v : Int32} {x1 : Int32} {u6 u7 u8 u9 : Value} {Q : Out → Mem → Prop} (h : LW M0 M S p T n) (hlen : 6 * n + 6 ≤ mN M0 27 0) (hb9 : n < 512) (hx1 : x1 = mI M0 27 0 (6 * n + 1)) (hxc : WPc (d + 21) mX12_outputByte [.ref (rf 10 0), .int x1] M (OU9 M (.inr (v, S', p')))) (hT : T ≤ T') (ha : 9 * T' + 50 * kN S' ≤ 9 * T + 50 * kN S + 1000) (hp : p' ≤ p + 1) (hmd : ∀ {M1 : Mem} {Q1 : Out → Mem → Prop}, MSt M1 S T → QMb Q1 M1 T' (.inr (v, S', p')) → WPc (d + 21) mX13_outputByte [.ref (rf 11 0), .int x1] M1 Q1) (k : KLW d M0 n Q) : WP mL_law (d + 22) 2957 [.ref (rf 27 0), .ref (rf 10 0), .ref (rf 11 0), .ref (rf 15 0), .ref (rf 16 0), .int (nI (6 * n)), u6, u7, u8, u9] [] M Q := by
  refine R.aload_n dL_law_2957 rfl (by first | rfl | exact rfv_rf _) ?_
  refine R.aload_n dL_law_2958 rfl (by first | rfl | exact rfv_rf _) ?_
  refine R.iload dL_law_2959 rfl ?_
  refine R.iconst (v := nI 1) dL_law_2961 rfl ?_
  refine R.iadd dL_law_2962 ?_
  rw [nI_add9]
  refine R.scrIald dL_law_2963 (nI_pos (by omega)) (by rw [nI_clamp (by omega)]; show _ < mN _ 27 0; rw [h.l27]; omega) ?_
  rw [h.x27, nI_clamp (by omega), ← hx1]
  refine cl_L_355 rfl rfl (by first | exact Nat.le_of_ble_eq_true rfl | simp [rf_cat, Value.category]) dL_law_2964 ?_
  refine WPc.mono hxc (fun o9 M1 hm ho => ?_)
  obtain ⟨rfl, c1, F⟩ := ho
  show WP _ _ _ _ _ _ _
  refine R.aload_n dL_law_2967 rfl (by first | rfl | exact rfv_rf _) ?_
  refine R.aload_n dL_law_2968 rfl (by first | rfl | exact rfv_rf _) ?_
  refine R.iload dL_law_2969 rfl ?_
  refine R.iconst (v := nI 1) dL_law_2971 rfl ?_
  refine R.iadd dL_law_2972 ?_
  rw [nI_add9]
  refine R.scrIald dL_law_2973 (nI_pos (by omega)) (by rw [nI_clamp (by omega)]; show _ < mN _ 27 0; rw [show mN M1 27 0 = mN M0 27 0 from hm.2.2.2.1.trans h.l27]; omega) ?_
  rw [show mI M1 27 0 = mI M0 27 0 from hm.2.2.2.2.trans h.x27, nI_clamp (by omega), ← hx1]
  refine cl_L_358 rfl rfl (by first | exact Nat.le_of_ble_eq_true rfl | simp [rf_cat, Value.category]) dL_law_2974 ?_
  refine hmd (h.m.frK F) ?_
  intro M2 m2 t2 F2
  refine R.icmp_eq (tgt := 3039) dL_law_2977 (by decide) (fun _ => ?_) (fun c9 => absurd (rfl) c9)
  exact k M2 S' p' T' _ _ _ _ (h.yes c1 F hm (Fr.rf _ _) m2 F2 hT ha hp)
theorem lw_outputByte {d n p T : Nat} {M0 M : Mem} {S : KS} {u6 u7 u8 u9 : Value} {Q : Out → Mem → Prop} (h : LW M0 M S p T n) (hn : n < 512) (hlen : 6 * n + 6 ≤ mN M0 27 0) (k : KLW d M0 n Q) : WP mL_law (d + 22) 2957 [.ref (rf 27 0), .ref (rf 10 0), .ref (rf 11 0), .ref (rf 15 0), .ref (rf 16 0), .int (nI (6 * n)), u6, u7, u8, u9] [] M Q :=
  lk_outputByte (v := aOut S (mI M0 27 0 (6 * n + 1))) (S' := S) (p' := p) (T' := T) h hlen hn rfl (c_outputByte h.c h.m.ob.2 ⟨rfl, h.c, FrK.rf⟩) (Nat.le_refl _) (by omega) (by omega) (fun m1 q => n_outputByte m1 (by have := h.t hn; omega) q) k
set_option maxHeartbeats 2000000 in
set_option maxRecDepth 8000 in
theorem lk_loadYard {d n p p' T T' : Nat} {M0 M : Mem} {S S' : KS} {v : Int32} {u6 u7 u8 u9 : Value} {Q : Out → Mem → Prop} (h : LW M0 M S p T n) (hlen : 6 * n + 6 ≤ mN M0 27 0) (hb9 : n < 512) (hxc : WPc (d + 21) mX12_loadYard [.ref (rf 10 0)] M (OU9 M (.inr (v, S', p')))) (hT : T ≤ T') (ha : 9 * T' + 50 * kN S' ≤ 9 * T + 50 * kN S + 1000) (hp : p' ≤ p + 1) (hmd : ∀ {M1 : Mem} {Q1 : Out → Mem → Prop}, MSt M1 S T → QMb Q1 M1 T' (.inr (v, S', p')) → WPc (d + 21) mX13_loadYard [.ref (rf 11 0)] M1 Q1) (k : KLW d M0 n Q) : WP mL_law (d + 22) 410 [.ref (rf 27 0), .ref (rf 10 0), .ref (rf 11 0), .ref (rf 15 0), .ref (rf 16 0), .int (nI (6 * n)), u6, u7, u8, u9] [] M Q := by
  refine R.aload_n dL_law_410 rfl (by first | rfl | exact rfv_rf _) ?_
  refine cl_L_149 rfl rfl (by first | exact Nat.le_of_ble_eq_true rfl | simp [rf_cat, Value.category]) dL_law_411 ?_
  refine WPc.mono hxc (fun o9 M1 hm ho => ?_)
  obtain ⟨rfl, c1, F⟩ := ho
  show WP _ _ _ _ _ _ _
  refine R.aload_n dL_law_414 rfl (by first | rfl | exact rfv_rf _) ?_
  refine cl_L_152 rfl rfl (by first | exact Nat.le_of_ble_eq_true rfl | simp [rf_cat, Value.category]) dL_law_415 ?_
  refine hmd (h.m.frK F) ?_
  intro M2 m2 t2 F2
  refine R.icmp_eq (tgt := 3039) dL_law_418 (by decide) (fun _ => ?_) (fun c9 => absurd (rfl) c9)
  exact k M2 S' p' T' _ _ _ _ (h.yes c1 F hm (Fr.rf _ _) m2 F2 hT ha hp)
theorem lw_loadYard {d n p T : Nat} {M0 M : Mem} {S : KS} {u6 u7 u8 u9 : Value} {Q : Out → Mem → Prop} (h : LW M0 M S p T n) (hn : n < 512) (hlen : 6 * n + 6 ≤ mN M0 27 0) (k : KLW d M0 n Q) : WP mL_law (d + 22) 410 [.ref (rf 27 0), .ref (rf 10 0), .ref (rf 11 0), .ref (rf 15 0), .ref (rf 16 0), .int (nI (6 * n)), u6, u7, u8, u9] [] M Q := by
  obtain ⟨v, S', e, e1⟩ := rLod_i S p
  have hc : WPc (d + 1 + 20) mX12_loadYard [.ref (rf 10 0)] M (OU9 M (rLod S p)) := c_loadYard h.c QR9.ou
  rw [e] at hc
  exact lk_loadYard (T' := T) h hlen hn hc (Nat.le_refl _) (by omega) (by omega) (fun m1 q => n_loadYard m1 (by have := h.t hn; omega) h.t16 (p := p) (by rw [e]; exact q)) k
set_option maxHeartbeats 2000000 in
set_option maxRecDepth 8000 in
theorem lk_runScript {d n p p' T T' : Nat} {M0 M : Mem} {S S' : KS} {v : Int32} {u6 u7 u8 u9 : Value} {Q : Out → Mem → Prop} (h : LW M0 M S p T n) (hlen : 6 * n + 6 ≤ mN M0 27 0) (hb9 : n < 512) (hxc : WPc (d + 21) mX12_runScript [.ref (rf 10 0)] M (OU9 M (.inr (v, S', p')))) (hT : T ≤ T') (ha : 9 * T' + 50 * kN S' ≤ 9 * T + 50 * kN S + 1000) (hp : p' ≤ p + 1) (hmd : ∀ {M1 : Mem} {Q1 : Out → Mem → Prop}, MSt M1 S T → QMb Q1 M1 T' (.inr (v, S', p')) → WPc (d + 21) mX13_runScript [.ref (rf 11 0)] M1 Q1) (k : KLW d M0 n Q) : WP mL_law (d + 22) 423 [.ref (rf 27 0), .ref (rf 10 0), .ref (rf 11 0), .ref (rf 15 0), .ref (rf 16 0), .int (nI (6 * n)), u6, u7, u8, u9] [] M Q := by
  refine R.aload_n dL_law_423 rfl (by first | rfl | exact rfv_rf _) ?_
  refine cl_L_153 rfl rfl (by first | exact Nat.le_of_ble_eq_true rfl | simp [rf_cat, Value.category]) dL_law_424 ?_
  refine WPc.mono hxc (fun o9 M1 hm ho => ?_)
  obtain ⟨rfl, c1, F⟩ := ho
  show WP _ _ _ _ _ _ _
  refine R.aload_n dL_law_427 rfl (by first | rfl | exact rfv_rf _) ?_
  refine cl_L_156 rfl rfl (by first | exact Nat.le_of_ble_eq_true rfl | simp [rf_cat, Value.category]) dL_law_428 ?_
  refine hmd (h.m.frK F) ?_
  intro M2 m2 t2 F2
  refine R.icmp_eq (tgt := 3039) dL_law_431 (by decide) (fun _ => ?_) (fun c9 => absurd (rfl) c9)
  exact k M2 S' p' T' _ _ _ _ (h.yes c1 F hm (Fr.rf _ _) m2 F2 hT ha hp)
theorem lw_runScript {d n p T : Nat} {M0 M : Mem} {S : KS} {u6 u7 u8 u9 : Value} {Q : Out → Mem → Prop} (h : LW M0 M S p T n) (hn : n < 512) (hlen : 6 * n + 6 ≤ mN M0 27 0) (k : KLW d M0 n Q) : WP mL_law (d + 22) 423 [.ref (rf 27 0), .ref (rf 10 0), .ref (rf 11 0), .ref (rf 15 0), .ref (rf 16 0), .int (nI (6 * n)), u6, u7, u8, u9] [] M Q := by
  obtain ⟨v, S', p', e, e1, e2⟩ := rRun_i S p
  have hc : WPc (d + 1 + 20) mX12_runScript [.ref (rf 10 0)] M (OU9 M (rRun S p)) := c_runScript h.c (h.p30 hn) h.kg QR9.ou
  rw [e] at hc
  have hr := h.hr hn
  obtain ⟨m9, b9, hcb⟩ := h.crb
  have h9 := ctS_b hcb h.kn
  exact lk_runScript (T' := T + ctS S) h hlen hn hc (Nat.le_add_right _ _) (by omega) e2 (fun m1 q => n_runScript m1 (by have := h.t hn; omega) (by omega) (p := p) (by rw [e]; exact q)) k
set_option maxHeartbeats 2000000 in
set_option maxRecDepth 8000 in
theorem lk_truncateInput {d n p p' T T' : Nat} {M0 M : Mem} {S S' : KS} {v : Int32} {x1 : Int32} {u6 u7 u8 u9 : Value} {Q : Out → Mem → Prop} (h : LW M0 M S p T n) (hlen : 6 * n + 6 ≤ mN M0 27 0) (hb9 : n < 512) (hx1 : x1 = mI M0 27 0 (6 * n + 1)) (hxc : WPc (d + 21) mX12_truncateInput [.ref (rf 10 0), .int x1] M (OU9 M (.inr (v, S', p')))) (hT : T ≤ T') (ha : 9 * T' + 50 * kN S' ≤ 9 * T + 50 * kN S + 1000) (hp : p' ≤ p + 1) (hmd : ∀ {M1 : Mem} {Q1 : Out → Mem → Prop}, MSt M1 S T → QMb Q1 M1 T' (.inr (v, S', p')) → WPc (d + 21) mX13_truncateInput [.ref (rf 11 0), .int x1] M1 Q1) (k : KLW d M0 n Q) : WP mL_law (d + 22) 385 [.ref (rf 27 0), .ref (rf 10 0), .ref (rf 11 0), .ref (rf 15 0), .ref (rf 16 0), .int (nI (6 * n)), u6, u7, u8, u9] [] M Q := by
  refine R.aload_n dL_law_385 rfl (by first | rfl | exact rfv_rf _) ?_
  refine R.aload_n dL_law_386 rfl (by first | rfl | exact rfv_rf _) ?_
  refine R.iload dL_law_387 rfl ?_
  refine R.iconst (v := nI 1) dL_law_389 rfl ?_
  refine R.iadd dL_law_390 ?_
  rw [nI_add9]
  refine R.scrIald dL_law_391 (nI_pos (by omega)) (by rw [nI_clamp (by omega)]; show _ < mN _ 27 0; rw [h.l27]; omega) ?_
  rw [h.x27, nI_clamp (by omega), ← hx1]
  refine cl_L_145 rfl rfl (by first | exact Nat.le_of_ble_eq_true rfl | simp [rf_cat, Value.category]) dL_law_392 ?_
  refine WPc.mono hxc (fun o9 M1 hm ho => ?_)
  obtain ⟨rfl, c1, F⟩ := ho
  show WP _ _ _ _ _ _ _
  refine R.aload_n dL_law_395 rfl (by first | rfl | exact rfv_rf _) ?_
  refine R.aload_n dL_law_396 rfl (by first | rfl | exact rfv_rf _) ?_
  refine R.iload dL_law_397 rfl ?_
  refine R.iconst (v := nI 1) dL_law_399 rfl ?_
  refine R.iadd dL_law_400 ?_
  rw [nI_add9]
  refine R.scrIald dL_law_401 (nI_pos (by omega)) (by rw [nI_clamp (by omega)]; show _ < mN _ 27 0; rw [show mN M1 27 0 = mN M0 27 0 from hm.2.2.2.1.trans h.l27]; omega) ?_
  rw [show mI M1 27 0 = mI M0 27 0 from hm.2.2.2.2.trans h.x27, nI_clamp (by omega), ← hx1]
  refine cl_L_148 rfl rfl (by first | exact Nat.le_of_ble_eq_true rfl | simp [rf_cat, Value.category]) dL_law_402 ?_
  refine hmd (h.m.frK F) ?_
  intro M2 m2 t2 F2
  refine R.icmp_eq (tgt := 3039) dL_law_405 (by decide) (fun _ => ?_) (fun c9 => absurd (rfl) c9)
  exact k M2 S' p' T' _ _ _ _ (h.yes c1 F hm (Fr.rf _ _) m2 F2 hT ha hp)
theorem lw_truncateInput {d n p T : Nat} {M0 M : Mem} {S : KS} {u6 u7 u8 u9 : Value} {Q : Out → Mem → Prop} (h : LW M0 M S p T n) (hn : n < 512) (hlen : 6 * n + 6 ≤ mN M0 27 0) (k : KLW d M0 n Q) : WP mL_law (d + 22) 385 [.ref (rf 27 0), .ref (rf 10 0), .ref (rf 11 0), .ref (rf 15 0), .ref (rf 16 0), .int (nI (6 * n)), u6, u7, u8, u9] [] M Q := by
  obtain ⟨x, hx⟩ : ∃ x, x = mI M0 27 0 (6 * n + 1) := ⟨_, rfl⟩
  obtain ⟨v, S', e, e1⟩ := rTru_i S p x h.kn
  have hc : WPc (d + 1 + 20) mX12_truncateInput [.ref (rf 10 0), .int x] M (OU9 M (rTru S p x)) := c_truncateInput h.c QR9.ou
  rw [e] at hc
  exact lk_truncateInput (T' := T) h hlen hn hx hc (Nat.le_refl _) (by omega) (by omega) (fun m1 q => n_truncateInput m1 (by have := h.t hn; omega) (p := p) (by rw [e]; exact q)) k
set_option maxHeartbeats 2000000 in
set_option maxRecDepth 8000 in
theorem lk_appendInput {d n p p' T T' : Nat} {M0 M : Mem} {S S' : KS} {v : Int32} {x1 x2 x3 x4 x5 : Int32} {u6 u7 u8 u9 : Value} {Q : Out → Mem → Prop} (h : LW M0 M S p T n) (hlen : 6 * n + 6 ≤ mN M0 27 0) (hb9 : n < 512) (hx1 : x1 = mI M0 27 0 (6 * n + 1)) (hx2 : x2 = mI M0 27 0 (6 * n + 2)) (hx3 : x3 = mI M0 27 0 (6 * n + 3)) (hx4 : x4 = mI M0 27 0 (6 * n + 4)) (hx5 : x5 = mI M0 27 0 (6 * n + 5)) (hxc : WPc (d + 21) mX12_appendInput [.ref (rf 10 0), .int x1, .int x2, .int x3, .int x4, .int x5] M (OU9 M (.inr (v, S', p')))) (hT : T ≤ T') (ha : 9 * T' + 50 * kN S' ≤ 9 * T + 50 * kN S + 1000) (hp : p' ≤ p + 1) (hmd : ∀ {M1 : Mem} {Q1 : Out → Mem → Prop}, MSt M1 S T → QMb Q1 M1 T' (.inr (v, S', p')) → WPc (d + 21) mX13_appendInput [.ref (rf 11 0), .int x1, .int x2, .int x3, .int x4, .int x5] M1 Q1) (k : KLW d M0 n Q) : WP mL_law (d + 22) 312 [.ref (rf 27 0), .ref (rf 10 0), .ref (rf 11 0), .ref (rf 15 0), .ref (rf 16 0), .int (nI (6 * n)), u6, u7, u8, u9] [] M Q := by
  refine R.aload_n dL_law_312 rfl (by first | rfl | exact rfv_rf _) ?_
  refine R.aload_n dL_law_313 rfl (by first | rfl | exact rfv_rf _) ?_
  refine R.iload dL_law_314 rfl ?_
  refine R.iconst (v := nI 1) dL_law_316 rfl ?_
  refine R.iadd dL_law_317 ?_
  rw [nI_add9]
  refine R.scrIald dL_law_318 (nI_pos (by omega)) (by rw [nI_clamp (by omega)]; show _ < mN _ 27 0; rw [h.l27]; omega) ?_
  rw [h.x27, nI_clamp (by omega), ← hx1]
  refine R.aload_n dL_law_319 rfl (by first | rfl | exact rfv_rf _) ?_
  refine R.iload dL_law_320 rfl ?_
  refine R.iconst (v := nI 2) dL_law_322 rfl ?_
  refine R.iadd dL_law_323 ?_
  rw [nI_add9]
  refine R.scrIald dL_law_324 (nI_pos (by omega)) (by rw [nI_clamp (by omega)]; show _ < mN _ 27 0; rw [h.l27]; omega) ?_
  rw [h.x27, nI_clamp (by omega), ← hx2]
  refine R.aload_n dL_law_325 rfl (by first | rfl | exact rfv_rf _) ?_
  refine R.iload dL_law_326 rfl ?_
  refine R.iconst (v := nI 3) dL_law_328 rfl ?_
  refine R.iadd dL_law_329 ?_
  rw [nI_add9]
  refine R.scrIald dL_law_330 (nI_pos (by omega)) (by rw [nI_clamp (by omega)]; show _ < mN _ 27 0; rw [h.l27]; omega) ?_
  rw [h.x27, nI_clamp (by omega), ← hx3]
  refine R.aload_n dL_law_331 rfl (by first | rfl | exact rfv_rf _) ?_
  refine R.iload dL_law_332 rfl ?_
  refine R.iconst (v := nI 4) dL_law_334 rfl ?_
  refine R.iadd dL_law_335 ?_
  rw [nI_add9]
  refine R.scrIald dL_law_336 (nI_pos (by omega)) (by rw [nI_clamp (by omega)]; show _ < mN _ 27 0; rw [h.l27]; omega) ?_
  rw [h.x27, nI_clamp (by omega), ← hx4]
  refine R.aload_n dL_law_337 rfl (by first | rfl | exact rfv_rf _) ?_
  refine R.iload dL_law_338 rfl ?_
  refine R.iconst (v := nI 5) dL_law_340 rfl ?_
  refine R.iadd dL_law_341 ?_
  rw [nI_add9]
  refine R.scrIald dL_law_342 (nI_pos (by omega)) (by rw [nI_clamp (by omega)]; show _ < mN _ 27 0; rw [h.l27]; omega) ?_
  rw [h.x27, nI_clamp (by omega), ← hx5]
  refine cl_L_140 rfl rfl (by first | exact Nat.le_of_ble_eq_true rfl | simp [rf_cat, Value.category]) dL_law_343 ?_
  refine WPc.mono hxc (fun o9 M1 hm ho => ?_)
  obtain ⟨rfl, c1, F⟩ := ho
  show WP _ _ _ _ _ _ _
  refine R.aload_n dL_law_346 rfl (by first | rfl | exact rfv_rf _) ?_
  refine R.aload_n dL_law_347 rfl (by first | rfl | exact rfv_rf _) ?_
  refine R.iload dL_law_348 rfl ?_
  refine R.iconst (v := nI 1) dL_law_350 rfl ?_
  refine R.iadd dL_law_351 ?_
  rw [nI_add9]
  refine R.scrIald dL_law_352 (nI_pos (by omega)) (by rw [nI_clamp (by omega)]; show _ < mN _ 27 0; rw [show mN M1 27 0 = mN M0 27 0 from hm.2.2.2.1.trans h.l27]; omega) ?_
  rw [show mI M1 27 0 = mI M0 27 0 from hm.2.2.2.2.trans h.x27, nI_clamp (by omega), ← hx1]
  refine R.aload_n dL_law_353 rfl (by first | rfl | exact rfv_rf _) ?_
  refine R.iload dL_law_354 rfl ?_
  refine R.iconst (v := nI 2) dL_law_356 rfl ?_
  refine R.iadd dL_law_357 ?_
  rw [nI_add9]
  refine R.scrIald dL_law_358 (nI_pos (by omega)) (by rw [nI_clamp (by omega)]; show _ < mN _ 27 0; rw [show mN M1 27 0 = mN M0 27 0 from hm.2.2.2.1.trans h.l27]; omega) ?_
  rw [show mI M1 27 0 = mI M0 27 0 from hm.2.2.2.2.trans h.x27, nI_clamp (by omega), ← hx2]
  refine R.aload_n dL_law_359 rfl (by first | rfl | exact rfv_rf _) ?_
  refine R.iload dL_law_360 rfl ?_
  refine R.iconst (v := nI 3) dL_law_362 rfl ?_
  refine R.iadd dL_law_363 ?_
  rw [nI_add9]
  refine R.scrIald dL_law_364 (nI_pos (by omega)) (by rw [nI_clamp (by omega)]; show _ < mN _ 27 0; rw [show mN M1 27 0 = mN M0 27 0 from hm.2.2.2.1.trans h.l27]; omega) ?_
  rw [show mI M1 27 0 = mI M0 27 0 from hm.2.2.2.2.trans h.x27, nI_clamp (by omega), ← hx3]
  refine R.aload_n dL_law_365 rfl (by first | rfl | exact rfv_rf _) ?_
  refine R.iload dL_law_366 rfl ?_
  refine R.iconst (v := nI 4) dL_law_368 rfl ?_
  refine R.iadd dL_law_369 ?_
  rw [nI_add9]
  refine R.scrIald dL_law_370 (nI_pos (by omega)) (by rw [nI_clamp (by omega)]; show _ < mN _ 27 0; rw [show mN M1 27 0 = mN M0 27 0 from hm.2.2.2.1.trans h.l27]; omega) ?_
  rw [show mI M1 27 0 = mI M0 27 0 from hm.2.2.2.2.trans h.x27, nI_clamp (by omega), ← hx4]
  refine R.aload_n dL_law_371 rfl (by first | rfl | exact rfv_rf _) ?_
  refine R.iload dL_law_372 rfl ?_
  refine R.iconst (v := nI 5) dL_law_374 rfl ?_
  refine R.iadd dL_law_375 ?_
  rw [nI_add9]
  refine R.scrIald dL_law_376 (nI_pos (by omega)) (by rw [nI_clamp (by omega)]; show _ < mN _ 27 0; rw [show mN M1 27 0 = mN M0 27 0 from hm.2.2.2.1.trans h.l27]; omega) ?_
  rw [show mI M1 27 0 = mI M0 27 0 from hm.2.2.2.2.trans h.x27, nI_clamp (by omega), ← hx5]
  refine cl_L_144 rfl rfl (by first | exact Nat.le_of_ble_eq_true rfl | simp [rf_cat, Value.category]) dL_law_377 ?_
  refine hmd (h.m.frK F) ?_
  intro M2 m2 t2 F2
  refine R.icmp_eq (tgt := 3039) dL_law_380 (by decide) (fun _ => ?_) (fun c9 => absurd (rfl) c9)
  exact k M2 S' p' T' _ _ _ _ (h.yes c1 F hm (Fr.rf _ _) m2 F2 hT ha hp)
theorem lw_appendInput {d n p T : Nat} {M0 M : Mem} {S : KS} {u6 u7 u8 u9 : Value} {Q : Out → Mem → Prop} (h : LW M0 M S p T n) (hn : n < 512) (hlen : 6 * n + 6 ≤ mN M0 27 0) (k : KLW d M0 n Q) : WP mL_law (d + 22) 312 [.ref (rf 27 0), .ref (rf 10 0), .ref (rf 11 0), .ref (rf 15 0), .ref (rf 16 0), .int (nI (6 * n)), u6, u7, u8, u9] [] M Q := by
  obtain ⟨x1, hx1⟩ : ∃ x, x = mI M0 27 0 (6 * n + 1) := ⟨_, rfl⟩
  obtain ⟨x2, hx2⟩ : ∃ x, x = mI M0 27 0 (6 * n + 2) := ⟨_, rfl⟩
  obtain ⟨x3, hx3⟩ : ∃ x, x = mI M0 27 0 (6 * n + 3) := ⟨_, rfl⟩
  obtain ⟨x4, hx4⟩ : ∃ x, x = mI M0 27 0 (6 * n + 4) := ⟨_, rfl⟩
  obtain ⟨x5, hx5⟩ : ∃ x, x = mI M0 27 0 (6 * n + 5) := ⟨_, rfl⟩
  obtain ⟨v, S', e, e1⟩ := rApp_i S p x1 x2 x3 x4 x5
  have hc : WPc (d + 1 + 20) mX12_appendInput [.ref (rf 10 0), .int x1, .int x2, .int x3, .int x4, .int x5] M (OU9 M (rApp S p x1 x2 x3 x4 x5)) := c_appendInput h.c QR9.ou
  rw [e] at hc
  exact lk_appendInput (T' := T) h hlen hn hx1 hx2 hx3 hx4 hx5 hc (Nat.le_refl _) (by omega) (by omega) (fun m1 q => n_appendInput m1 (by have := h.t hn; omega) (p := p) (by rw [e]; exact q)) k
set_option maxHeartbeats 2000000 in
set_option maxRecDepth 8000 in
theorem lk_replaceSpring {d n p p' T T' : Nat} {M0 M : Mem} {S S' : KS} {v : Int32} {u6 u7 u8 u9 : Value} {Q : Out → Mem → Prop} (h : LW M0 M S p T n) (hlen : 6 * n + 6 ≤ mN M0 27 0) (hb9 : n < 512) (hxc : WPc (d + 21) mX12_replaceSpring [.ref (rf 10 0)] M (OU9 M (.inr (v, S', p')))) (hT : T ≤ T') (ha : 9 * T' + 50 * kN S' ≤ 9 * T + 50 * kN S + 1000) (hp : p' ≤ p + 1) (hmd : ∀ {M1 : Mem} {Q1 : Out → Mem → Prop}, MSt M1 S T → QMb Q1 M1 T' (.inr (v, S', p')) → WPc (d + 21) mX13_replaceSpring [.ref (rf 11 0)] M1 Q1) (k : KLW d M0 n Q) : WP mL_law (d + 22) 2664 [.ref (rf 27 0), .ref (rf 10 0), .ref (rf 11 0), .ref (rf 15 0), .ref (rf 16 0), .int (nI (6 * n)), u6, u7, u8, u9] [] M Q := by
  refine R.aload_n dL_law_2664 rfl (by first | rfl | exact rfv_rf _) ?_
  refine cl_L_335 rfl rfl (by first | exact Nat.le_of_ble_eq_true rfl | simp [rf_cat, Value.category]) dL_law_2665 ?_
  refine WPc.mono hxc (fun o9 M1 hm ho => ?_)
  obtain ⟨rfl, c1, F⟩ := ho
  show WP _ _ _ _ _ _ _
  refine R.aload_n dL_law_2668 rfl (by first | rfl | exact rfv_rf _) ?_
  refine cl_L_338 rfl rfl (by first | exact Nat.le_of_ble_eq_true rfl | simp [rf_cat, Value.category]) dL_law_2669 ?_
  refine hmd (h.m.frK F) ?_
  intro M2 m2 t2 F2
  refine R.icmp_eq (tgt := 3039) dL_law_2672 (by decide) (fun _ => ?_) (fun c9 => absurd (rfl) c9)
  exact k M2 S' p' T' _ _ _ _ (h.yes c1 F hm (Fr.rf _ _) m2 F2 hT ha hp)
theorem lw_replaceSpring {d n p T : Nat} {M0 M : Mem} {S : KS} {u6 u7 u8 u9 : Value} {Q : Out → Mem → Prop} (h : LW M0 M S p T n) (hn : n < 512) (hlen : 6 * n + 6 ≤ mN M0 27 0) (k : KLW d M0 n Q) : WP mL_law (d + 22) 2664 [.ref (rf 27 0), .ref (rf 10 0), .ref (rf 11 0), .ref (rf 15 0), .ref (rf 16 0), .int (nI (6 * n)), u6, u7, u8, u9] [] M Q :=
  lk_replaceSpring (v := yS (kY S) 3) (S' := kSy (kR S) (spY (kY S))) (p' := p + 1) (T' := T + 1) h hlen hn (c_replaceSpring h.c (h.p30 hn) h.kg QR9.ou) (Nat.le_succ _) (by show 9 * (T + 1) + 50 * kN S ≤ _; omega) (Nat.le_refl _) (fun m1 q => n_replaceSpring (p := p) m1 (by have := h.t hn; omega) q) k
set_option maxHeartbeats 2000000 in
set_option maxRecDepth 8000 in
theorem lk_saveState {d n p p' T T' : Nat} {M0 M : Mem} {S S' : KS} {v : Int32} {u6 u7 u8 u9 : Value} {Q : Out → Mem → Prop} (h : LW M0 M S p T n) (hlen : 6 * n + 6 ≤ mN M0 27 0) (hb9 : n < 512) (hxc : WPc (d + 21) mX12_saveState [.ref (rf 10 0)] M (OU9 M (.inr (v, S', p')))) (hT : T ≤ T') (ha : 9 * T' + 50 * kN S' ≤ 9 * T + 50 * kN S + 1000) (hp : p' ≤ p + 1) (hmd : ∀ {M1 : Mem} {Q1 : Out → Mem → Prop}, MSt M1 S T → QMb Q1 M1 T' (.inr (v, S', p')) → WPc (d + 21) mX13_saveState [.ref (rf 11 0)] M1 Q1) (k : KLW d M0 n Q) : WP mL_law (d + 22) 2982 [.ref (rf 27 0), .ref (rf 10 0), .ref (rf 11 0), .ref (rf 15 0), .ref (rf 16 0), .int (nI (6 * n)), u6, u7, u8, u9] [] M Q := by
  refine R.aload_n dL_law_2982 rfl (by first | rfl | exact rfv_rf _) ?_
  refine cl_L_359 rfl rfl (by first | exact Nat.le_of_ble_eq_true rfl | simp [rf_cat, Value.category]) dL_law_2983 ?_
  refine WPc.mono hxc (fun o9 M1 hm ho => ?_)
  obtain ⟨rfl, c1, F⟩ := ho
  show WP _ _ _ _ _ _ _
  refine R.aload_n dL_law_2986 rfl (by first | rfl | exact rfv_rf _) ?_
  refine cl_L_362 rfl rfl (by first | exact Nat.le_of_ble_eq_true rfl | simp [rf_cat, Value.category]) dL_law_2987 ?_
  refine hmd (h.m.frK F) ?_
  intro M2 m2 t2 F2
  refine R.icmp_eq (tgt := 3039) dL_law_2990 (by decide) (fun _ => ?_) (fun c9 => absurd (rfl) c9)
  exact k M2 S' p' T' _ _ _ _ (h.yes c1 F hm (Fr.rf _ _) m2 F2 hT ha hp)
theorem lw_saveState {d n p T : Nat} {M0 M : Mem} {S : KS} {u6 u7 u8 u9 : Value} {Q : Out → Mem → Prop} (h : LW M0 M S p T n) (hn : n < 512) (hlen : 6 * n + 6 ≤ mN M0 27 0) (k : KLW d M0 n Q) : WP mL_law (d + 22) 2982 [.ref (rf 27 0), .ref (rf 10 0), .ref (rf 11 0), .ref (rf 15 0), .ref (rf 16 0), .int (nI (6 * n)), u6, u7, u8, u9] [] M Q :=
  lk_saveState (v := stF (kY S) 16 0 0) (S' := kSv S (some (kY S))) (p' := p) (T' := T + 1) h hlen hn (c_saveState h.c h.kg QR9.ou) (Nat.le_succ _) (by show 9 * (T + 1) + 50 * kN S ≤ _; omega) (Nat.le_succ _) (fun m1 q => n_saveState (p := p) m1 (by have := h.t hn; omega) q) k
