set_option maxHeartbeats 2000000 in
set_option maxRecDepth 8000 in
theorem lk_isInYard {d n p T : Nat} {M0 M : Mem} {S : KS} {r : Rr} {x1 : Int32} {u6 u7 u8 u9 : Value} {Q : Out → Mem → Prop} (h : LW M0 M S p T n) (hlen : 6 * n + 6 ≤ mN M0 27 0) (hb9 : n < 512) (hx1 : x1 = mI M0 27 0 (6 * n + 1)) (hxc : WPc (d + 20) mX12_isInYard [.ref (rf 10 0), .int x1] M (OU9 M r)) (hR : RO [eI] S p r) (hv : ∀ v S' p', r = .inr (v, S', p') → v = 0 ∨ v = 1) (hmd : ∀ {M1 : Mem} {Q1 : Out → Mem → Prop}, MSt M1 S T → QMr Q1 M1 S T cdA r → WPc (d + 21) mX13_isInYard [.ref (rf 11 0), .int x1] M1 Q1) (k : KLW d M0 n Q) : WP mL_law (d + 22) 1028 [.ref (rf 27 0), .ref (rf 10 0), .ref (rf 11 0), .ref (rf 15 0), .ref (rf 16 0), .int (nI (6 * n)), u6, u7, u8, u9] [] M Q := by
  have hE : ∀ E, r = .inl E → E = eI := fun E e => by
    rw [e] at hR
    have hR : E ∈ [eI] := hR
    simp only [List.mem_cons, List.mem_nil_iff, or_false] at hR
    exact hR
  cases r with
  | inl E =>
    refine R.aload_n dL_law_1028 rfl (by first | rfl | exact rfv_rf _) ?_
    refine R.aload_n dL_law_1029 rfl (by first | rfl | exact rfv_rf _) ?_
    refine R.iload dL_law_1030 rfl ?_
    refine R.iconst (v := nI 1) dL_law_1032 rfl ?_
    refine R.iadd dL_law_1033 ?_
    rw [nI_add9]
    refine R.scrIald dL_law_1034 (nI_pos (by omega)) (by rw [nI_clamp (by omega)]; show _ < mN _ 27 0; rw [h.l27]; omega) ?_
    rw [h.x27, nI_clamp (by omega), ← hx1]
    refine R.aload_n dL_law_1035 rfl (by first | rfl | exact rfv_rf _) ?_
    refine cl_L_207 rfl rfl (by first | exact Nat.le_of_ble_eq_true rfl | simp [rf_cat, Value.category]) dL_law_1036 ?_
    refine h_isInYard hxc h.n15 hE hv ?_
    show WP _ _ _ _ _ _ _
    refine R.istore dL_law_1039 (Nat.le_of_ble_eq_true rfl) (by decide) (by first | rfl | simp [lft, rf_cat]) rfl ?_
    refine R.aload_n dL_law_1041 rfl (by first | rfl | exact rfv_rf _) ?_
    refine R.aload_n dL_law_1042 rfl (by first | rfl | exact rfv_rf _) ?_
    refine R.iload dL_law_1043 rfl ?_
    refine R.iconst (v := nI 1) dL_law_1045 rfl ?_
    refine R.iadd dL_law_1046 ?_
    rw [nI_add9]
    refine R.scrIald dL_law_1047 (nI_pos (by omega)) (by rw [nI_clamp (by omega)]; show _ < mN _ 27 0; rw [show mN (ax M) 27 0 = mN M0 27 0 from h.l27]; omega) ?_
    rw [show mI (ax M) 27 0 = mI M0 27 0 from h.x27, nI_clamp (by omega), ← hx1]
    refine cl_L_209 rfl rfl (by first | exact Nat.le_of_ble_eq_true rfl | simp [rf_cat, Value.category]) dL_law_1048 ?_
    refine hmd h.m.ax9 ?_
    intro M2 m2 t2 F2
    refine R.istore dL_law_1051 (Nat.le_of_ble_eq_true rfl) (by decide) (by first | rfl | simp [lft, rf_cat]) rfl ?_
    refine R.aload_n dL_law_1053 rfl (by first | rfl | exact rfv_rf _) ?_
    refine cl_L_179 rfl rfl (by first | exact Nat.le_of_ble_eq_true rfl | simp [rf_cat, Value.category]) dL_law_1054 ?_
    refine n_thrown ?_
    rw [t2]
    refine R.iload dL_law_1057 rfl ?_
    refine R.icmp_eq (tgt := 1064) dL_law_1059 (by decide) (fun _ => ?_) (fun c9 => absurd (rfl) c9)
    refine R.iload dL_law_1064 rfl ?_
    refine R.if_ne (tgt := 1088) dL_law_1066 (by decide) (fun _ => ?_) (fun c9 => absurd c9 (cdA_ne E))
    refine R.goto (tgt := 3039) dL_law_1088 (by decide) ?_
    exact k M2 S p T _ _ _ _ (h.no m2 F2)
  | inr t9 =>
    obtain ⟨v, S', p'⟩ := t9
    have hR1 : kN S' = kN S := hR.1
    rcases hv v S' p' rfl with rfl | rfl
    · refine R.aload_n dL_law_1028 rfl (by first | rfl | exact rfv_rf _) ?_
      refine R.aload_n dL_law_1029 rfl (by first | rfl | exact rfv_rf _) ?_
      refine R.iload dL_law_1030 rfl ?_
      refine R.iconst (v := nI 1) dL_law_1032 rfl ?_
      refine R.iadd dL_law_1033 ?_
      rw [nI_add9]
      refine R.scrIald dL_law_1034 (nI_pos (by omega)) (by rw [nI_clamp (by omega)]; show _ < mN _ 27 0; rw [h.l27]; omega) ?_
      rw [h.x27, nI_clamp (by omega), ← hx1]
      refine R.aload_n dL_law_1035 rfl (by first | rfl | exact rfv_rf _) ?_
      refine cl_L_207 rfl rfl (by first | exact Nat.le_of_ble_eq_true rfl | simp [rf_cat, Value.category]) dL_law_1036 ?_
      refine h_isInYard hxc h.n15 hE hv ?_
      intro M1 c1 F hm
      have hN1 : mN M1 15 0 = 1 := by rw [(F.1 15 0 (Or.inr (Or.inr (Or.inl rfl)))).2.2.2.2]; exact h.n15
      have m1 := (h.m.frK F).f9 (Fr9_L M1 (0 : Int32).toInt64)
      refine R.istore dL_law_1039 (Nat.le_of_ble_eq_true rfl) (by decide) (by first | rfl | simp [lft, rf_cat]) rfl ?_
      refine R.aload_n dL_law_1041 rfl (by first | rfl | exact rfv_rf _) ?_
      refine R.aload_n dL_law_1042 rfl (by first | rfl | exact rfv_rf _) ?_
      refine R.iload dL_law_1043 rfl ?_
      refine R.iconst (v := nI 1) dL_law_1045 rfl ?_
      refine R.iadd dL_law_1046 ?_
      rw [nI_add9]
      refine R.scrIald dL_law_1047 (nI_pos (by omega)) (by rw [nI_clamp (by omega)]; show _ < mN _ 27 0; rw [show mN (sL M1 15 0 0 (0 : Int32).toInt64) 27 0 = mN M0 27 0 from hm.2.2.2.1.trans h.l27]; omega) ?_
      rw [show mI (sL M1 15 0 0 (0 : Int32).toInt64) 27 0 = mI M0 27 0 from hm.2.2.2.2.trans h.x27, nI_clamp (by omega), ← hx1]
      refine cl_L_209 rfl rfl (by first | exact Nat.le_of_ble_eq_true rfl | simp [rf_cat, Value.category]) dL_law_1048 ?_
      refine hmd m1 ?_
      intro M2 m2 t2 F2
      refine R.istore dL_law_1051 (Nat.le_of_ble_eq_true rfl) (by decide) (by first | rfl | simp [lft, rf_cat]) rfl ?_
      refine R.aload_n dL_law_1053 rfl (by first | rfl | exact rfv_rf _) ?_
      refine cl_L_179 rfl rfl (by first | exact Nat.le_of_ble_eq_true rfl | simp [rf_cat, Value.category]) dL_law_1054 ?_
      refine n_thrown ?_
      rw [t2]
      refine R.iload dL_law_1057 rfl ?_
      refine R.icmp_eq (tgt := 1064) dL_law_1059 (by decide) (fun _ => ?_) (fun c9 => absurd (rfl) c9)
      refine R.iload dL_law_1064 rfl ?_
      refine R.if_ne (tgt := 1088) dL_law_1066 (by decide) (fun c9 => absurd (rfl) c9) (fun _ => ?_)
      refine R.aload_n dL_law_1069 rfl (by first | rfl | exact rfv_rf _) ?_
      refine R.iconst (v := 0) dL_law_1070 rfl ?_
      refine R.lald (i := 0) dL_law_1071 (by decide) (by rw [F2.2.1]; show _ < mN M1 15 0; rw [hN1]; decide) ?_
      rw [show mL M2 15 0 (Int32.toNatClampNeg 0) = (0 : Int32).toInt64 from (congrFun (F2.2.2.2.2 15 0 (by unfold inM; omega)).2.1 0).trans (mLsL9 _ _)]
      refine R.iload dL_law_1072 rfl ?_
      refine R.if_eq (tgt := 1081) dL_law_1074 (by decide) (fun _ => ?_) (fun c9 => absurd (rfl) c9)
      refine R.lconst (v := 0) dL_law_1081 rfl ?_
      refine R.lcmp dL_law_1082 ?_
      refine R.if_eq (tgt := 1088) dL_law_1083 (by decide) (fun _ => ?_) (fun c9 => absurd (by decide) c9)
      refine R.goto (tgt := 3039) dL_law_1088 (by decide) ?_
      exact k M2 S' p' (T + 1) _ _ _ _ (h.yes c1 F hm (Fr9_L _ _) m2 F2 (Nat.le_succ T) (by omega) hR.2)
    · refine R.aload_n dL_law_1028 rfl (by first | rfl | exact rfv_rf _) ?_
      refine R.aload_n dL_law_1029 rfl (by first | rfl | exact rfv_rf _) ?_
      refine R.iload dL_law_1030 rfl ?_
      refine R.iconst (v := nI 1) dL_law_1032 rfl ?_
      refine R.iadd dL_law_1033 ?_
      rw [nI_add9]
      refine R.scrIald dL_law_1034 (nI_pos (by omega)) (by rw [nI_clamp (by omega)]; show _ < mN _ 27 0; rw [h.l27]; omega) ?_
      rw [h.x27, nI_clamp (by omega), ← hx1]
      refine R.aload_n dL_law_1035 rfl (by first | rfl | exact rfv_rf _) ?_
      refine cl_L_207 rfl rfl (by first | exact Nat.le_of_ble_eq_true rfl | simp [rf_cat, Value.category]) dL_law_1036 ?_
      refine h_isInYard hxc h.n15 hE hv ?_
      intro M1 c1 F hm
      have hN1 : mN M1 15 0 = 1 := by rw [(F.1 15 0 (Or.inr (Or.inr (Or.inl rfl)))).2.2.2.2]; exact h.n15
      have m1 := (h.m.frK F).f9 (Fr9_L M1 (1 : Int32).toInt64)
      refine R.istore dL_law_1039 (Nat.le_of_ble_eq_true rfl) (by decide) (by first | rfl | simp [lft, rf_cat]) rfl ?_
      refine R.aload_n dL_law_1041 rfl (by first | rfl | exact rfv_rf _) ?_
      refine R.aload_n dL_law_1042 rfl (by first | rfl | exact rfv_rf _) ?_
      refine R.iload dL_law_1043 rfl ?_
      refine R.iconst (v := nI 1) dL_law_1045 rfl ?_
      refine R.iadd dL_law_1046 ?_
      rw [nI_add9]
      refine R.scrIald dL_law_1047 (nI_pos (by omega)) (by rw [nI_clamp (by omega)]; show _ < mN _ 27 0; rw [show mN (sL M1 15 0 0 (1 : Int32).toInt64) 27 0 = mN M0 27 0 from hm.2.2.2.1.trans h.l27]; omega) ?_
      rw [show mI (sL M1 15 0 0 (1 : Int32).toInt64) 27 0 = mI M0 27 0 from hm.2.2.2.2.trans h.x27, nI_clamp (by omega), ← hx1]
      refine cl_L_209 rfl rfl (by first | exact Nat.le_of_ble_eq_true rfl | simp [rf_cat, Value.category]) dL_law_1048 ?_
      refine hmd m1 ?_
      intro M2 m2 t2 F2
      refine R.istore dL_law_1051 (Nat.le_of_ble_eq_true rfl) (by decide) (by first | rfl | simp [lft, rf_cat]) rfl ?_
      refine R.aload_n dL_law_1053 rfl (by first | rfl | exact rfv_rf _) ?_
      refine cl_L_179 rfl rfl (by first | exact Nat.le_of_ble_eq_true rfl | simp [rf_cat, Value.category]) dL_law_1054 ?_
      refine n_thrown ?_
      rw [t2]
      refine R.iload dL_law_1057 rfl ?_
      refine R.icmp_eq (tgt := 1064) dL_law_1059 (by decide) (fun _ => ?_) (fun c9 => absurd (rfl) c9)
      refine R.iload dL_law_1064 rfl ?_
      refine R.if_ne (tgt := 1088) dL_law_1066 (by decide) (fun c9 => absurd (rfl) c9) (fun _ => ?_)
      refine R.aload_n dL_law_1069 rfl (by first | rfl | exact rfv_rf _) ?_
      refine R.iconst (v := 0) dL_law_1070 rfl ?_
      refine R.lald (i := 0) dL_law_1071 (by decide) (by rw [F2.2.1]; show _ < mN M1 15 0; rw [hN1]; decide) ?_
      rw [show mL M2 15 0 (Int32.toNatClampNeg 0) = (1 : Int32).toInt64 from (congrFun (F2.2.2.2.2 15 0 (by unfold inM; omega)).2.1 0).trans (mLsL9 _ _)]
      refine R.iload dL_law_1072 rfl ?_
      refine R.if_eq (tgt := 1081) dL_law_1074 (by decide) (fun c9 => absurd c9 (by decide)) (fun _ => ?_)
      refine R.lconst (v := 1) dL_law_1077 rfl ?_
      refine R.goto (tgt := 1082) dL_law_1078 (by decide) ?_
      refine R.lcmp dL_law_1082 ?_
      refine R.if_eq (tgt := 1088) dL_law_1083 (by decide) (fun _ => ?_) (fun c9 => absurd (by decide) c9)
      refine R.goto (tgt := 3039) dL_law_1088 (by decide) ?_
      exact k M2 S' p' (T + 1) _ _ _ _ (h.yes c1 F hm (Fr9_L _ _) m2 F2 (Nat.le_succ T) (by omega) hR.2)
theorem yd_v {S : KS} {p : Nat} {x : Int32} (hG : YG (kY S)) : ∀ v S' p', anR S p (aC S x fun i => .inl (yC (kY S) i 7)) = .inr (v, S', p') → v = 0 ∨ v = 1 := by
  intro v S' p' h
  unfold aC at h
  cases hk : kC (kY S) x with
  | none => rw [hk] at h; cases h
  | some i =>
    rw [hk] at h
    cases h
    exact hG.1 i (kC_s hk).2.1
theorem lw_isInYard {d n p T : Nat} {M0 M : Mem} {S : KS} {u6 u7 u8 u9 : Value} {Q : Out → Mem → Prop} (h : LW M0 M S p T n) (hn : n < 512) (hlen : 6 * n + 6 ≤ mN M0 27 0) (k : KLW d M0 n Q) : WP mL_law (d + 22) 1028 [.ref (rf 27 0), .ref (rf 10 0), .ref (rf 11 0), .ref (rf 15 0), .ref (rf 16 0), .int (nI (6 * n)), u6, u7, u8, u9] [] M Q :=
  lk_isInYard (r := anR S p (aC S (mI M0 27 0 (6 * n + 1)) fun i => .inl (yC (kY S) i 7))) h hlen hn rfl (c_isInYard h.c h.kg.g (QA.ou h.c)) (RO.gc (by simp) fun i => RO.same) (yd_v h.kg.g) (fun m1 q => n_isInYard m1 (by have := h.t hn; omega) (QMa.r (p := p) q)) k
theorem mDsD9 (M : Mem) (v : UInt64) : mD (sD M 16 0 0 v) 16 0 0 = v := by
  show (if (16 : Nat) = 16 ∧ (0 : Nat) = 0 ∧ (0 : Nat) = 0 then v else M.2.2.2.1 16 0 0) = v
  exact if_pos ⟨rfl, rfl, rfl⟩
set_option maxHeartbeats 2000000 in
set_option maxRecDepth 8000 in
theorem lw_exactMean {d n p T : Nat} {M0 M : Mem} {S : KS} {u6 u7 u8 u9 : Value} {Q : Out → Mem → Prop} (h : LW M0 M S p T n) (hn : n < 512) (hlen : 6 * n + 6 ≤ mN M0 27 0) (k : KLW d M0 n Q) : WP mL_law (d + 22) 1315 [.ref (rf 27 0), .ref (rf 10 0), .ref (rf 11 0), .ref (rf 15 0), .ref (rf 16 0), .int (nI (6 * n)), u6, u7, u8, u9] [] M Q := by
  obtain ⟨x1, hx1⟩ : ∃ x, x = mI M0 27 0 (6 * n + 1) := ⟨_, rfl⟩
  have hxc : WPc (d + 20) mX12_exactMean [.ref (rf 10 0), .int x1] M (OD9 M (aDm S x1)) := c_exactMean h.c nf_all QD.ou
  have hE : ∀ E, aDm S x1 = .inr E → E = eI ∨ E = eN := fun E e => by
    unfold aDm at e
    split at e
    · cases e; exact Or.inl rfl
    · split at e
      · cases e; exact Or.inr rfl
      · cases e
  cases ea : aDm S x1 with
  | inl v =>
    refine R.aload_n dL_law_1315 rfl (by first | rfl | exact rfv_rf _) ?_
    refine R.aload_n dL_law_1316 rfl (by first | rfl | exact rfv_rf _) ?_
    refine R.iload dL_law_1317 rfl ?_
    refine R.iconst (v := nI 1) dL_law_1319 rfl ?_
    refine R.iadd dL_law_1320 ?_
    rw [nI_add9]
    refine R.scrIald dL_law_1321 (nI_pos (by omega)) (by rw [nI_clamp (by omega)]; show _ < mN _ 27 0; rw [h.l27]; omega) ?_
    rw [h.x27, nI_clamp (by omega), ← hx1]
    refine R.aload dL_law_1322 rfl (by first | rfl | exact rfv_rf _) ?_
    refine cl_L_222 rfl rfl (by first | exact Nat.le_of_ble_eq_true rfl | simp [rf_cat, Value.category]) dL_law_1324 ?_
    refine h_exactMean hxc h.n16 hE ?_
    rw [ea]
    show WP _ _ _ _ _ _ _
    have m1 := h.m.f9 (Fr9_D M v)
    refine R.istore dL_law_1327 (Nat.le_of_ble_eq_true rfl) (by decide) (by first | rfl | simp [lft, rf_cat]) rfl ?_
    refine R.aload_n dL_law_1329 rfl (by first | rfl | exact rfv_rf _) ?_
    refine R.aload_n dL_law_1330 rfl (by first | rfl | exact rfv_rf _) ?_
    refine R.iload dL_law_1331 rfl ?_
    refine R.iconst (v := nI 1) dL_law_1333 rfl ?_
    refine R.iadd dL_law_1334 ?_
    rw [nI_add9]
    refine R.scrIald dL_law_1335 (nI_pos (by omega)) (by rw [nI_clamp (by omega)]; show _ < mN _ 27 0; rw [show mN (sD M 16 0 0 v) 27 0 = mN M0 27 0 from h.l27]; omega) ?_
    rw [show mI (sD M 16 0 0 v) 27 0 = mI M0 27 0 from h.x27, nI_clamp (by omega), ← hx1]
    refine cl_L_225 rfl rfl (by first | exact Nat.le_of_ble_eq_true rfl | simp [rf_cat, Value.category]) dL_law_1336 ?_
    refine n_exactMean m1 (by have := h.t hn; omega) nf_all ?_
    rw [ea]
    intro M2 m2 t2 F2
    have hD : mD M2 16 0 (Int32.toNatClampNeg 0) = v := (congrFun (F2.2.2.2.2 16 0 (by unfold inM; omega)).2.2.2 0).trans (mDsD9 M v)
    refine R.dstore dL_law_1339 (Nat.le_of_ble_eq_true rfl) (by decide) (by first | rfl | simp [lft, rf_cat]) rfl ?_
    refine R.aload_n dL_law_1341 rfl (by first | rfl | exact rfv_rf _) ?_
    refine cl_L_179 rfl rfl (by first | exact Nat.le_of_ble_eq_true rfl | simp [rf_cat, Value.category]) dL_law_1342 ?_
    refine n_thrown ?_
    rw [t2]
    refine R.iload dL_law_1345 rfl ?_
    refine R.icmp_eq (tgt := 1352) dL_law_1347 (by decide) (fun _ => ?_) (fun c9 => absurd (rfl) c9)
    refine R.iload dL_law_1352 rfl ?_
    by_cases hc : Op.cmpValue (FP.dcmp v v) .l = 0
    · refine R.if_ne (tgt := 1389) dL_law_1354 (by decide) (fun c9 => absurd (rfl) c9) (fun _ => ?_)
      refine R.aload dL_law_1357 rfl (by first | rfl | exact rfv_rf _) ?_
      refine R.iconst (v := 0) dL_law_1359 rfl ?_
      refine R.dald (i := 0) dL_law_1360 (by decide) (by rw [F2.2.1]; show _ < mN M 16 0; rw [h.n16]; decide) ?_
      rw [hD]
      refine R.dload dL_law_1361 rfl ?_
      refine R.dcmp dL_law_1363 ?_
      refine R.if_eq (tgt := 1389) dL_law_1364 (by decide) (fun _ => ?_) (fun c9 => absurd (hc) c9)
      refine R.goto (tgt := 3039) dL_law_1389 (by decide) ?_
      exact k M2 S p T _ _ _ _ (h.yes h.c FrK.rf (Mono.rf M) (Fr9_D M v) m2 F2 (Nat.le_refl _) (by omega) (by omega))
    · refine R.if_ne (tgt := 1389) dL_law_1354 (by decide) (fun c9 => absurd (rfl) c9) (fun _ => ?_)
      refine R.aload dL_law_1357 rfl (by first | rfl | exact rfv_rf _) ?_
      refine R.iconst (v := 0) dL_law_1359 rfl ?_
      refine R.dald (i := 0) dL_law_1360 (by decide) (by rw [F2.2.1]; show _ < mN M 16 0; rw [h.n16]; decide) ?_
      rw [hD]
      refine R.dload dL_law_1361 rfl ?_
      refine R.dcmp dL_law_1363 ?_
      refine R.if_eq (tgt := 1389) dL_law_1364 (by decide) (fun c9 => absurd c9 (hc)) (fun _ => ?_)
      refine R.aload dL_law_1367 rfl (by first | rfl | exact rfv_rf _) ?_
      refine R.iconst (v := 0) dL_law_1369 rfl ?_
      refine R.dald (i := 0) dL_law_1370 (by decide) (by rw [F2.2.1]; show _ < mN M 16 0; rw [h.n16]; decide) ?_
      rw [hD]
      refine R.aload dL_law_1371 rfl (by first | rfl | exact rfv_rf _) ?_
      refine R.iconst (v := 0) dL_law_1373 rfl ?_
      refine R.dald (i := 0) dL_law_1374 (by decide) (by rw [F2.2.1]; show _ < mN M 16 0; rw [h.n16]; decide) ?_
      rw [hD]
      refine R.dcmp dL_law_1375 ?_
      refine R.if_eq (tgt := 1387) dL_law_1376 (by decide) (fun c9 => absurd c9 (hc)) (fun _ => ?_)
      refine R.dload dL_law_1379 rfl ?_
      refine R.dload dL_law_1381 rfl ?_
      refine R.dcmp dL_law_1383 ?_
      refine R.if_ne (tgt := 1389) dL_law_1384 (by decide) (fun _ => ?_) (fun c9 => absurd c9 (hc))
      refine R.goto (tgt := 3039) dL_law_1389 (by decide) ?_
      exact k M2 S p T _ _ _ _ (h.yes h.c FrK.rf (Mono.rf M) (Fr9_D M v) m2 F2 (Nat.le_refl _) (by omega) (by omega))
  | inr E =>
    refine R.aload_n dL_law_1315 rfl (by first | rfl | exact rfv_rf _) ?_
    refine R.aload_n dL_law_1316 rfl (by first | rfl | exact rfv_rf _) ?_
    refine R.iload dL_law_1317 rfl ?_
    refine R.iconst (v := nI 1) dL_law_1319 rfl ?_
    refine R.iadd dL_law_1320 ?_
    rw [nI_add9]
    refine R.scrIald dL_law_1321 (nI_pos (by omega)) (by rw [nI_clamp (by omega)]; show _ < mN _ 27 0; rw [h.l27]; omega) ?_
    rw [h.x27, nI_clamp (by omega), ← hx1]
    refine R.aload dL_law_1322 rfl (by first | rfl | exact rfv_rf _) ?_
    refine cl_L_222 rfl rfl (by first | exact Nat.le_of_ble_eq_true rfl | simp [rf_cat, Value.category]) dL_law_1324 ?_
    refine h_exactMean hxc h.n16 hE ?_
    rw [ea]
    show WP _ _ _ _ _ _ _
    refine R.istore dL_law_1327 (Nat.le_of_ble_eq_true rfl) (by decide) (by first | rfl | simp [lft, rf_cat]) rfl ?_
    refine R.aload_n dL_law_1329 rfl (by first | rfl | exact rfv_rf _) ?_
    refine R.aload_n dL_law_1330 rfl (by first | rfl | exact rfv_rf _) ?_
    refine R.iload dL_law_1331 rfl ?_
    refine R.iconst (v := nI 1) dL_law_1333 rfl ?_
    refine R.iadd dL_law_1334 ?_
    rw [nI_add9]
    refine R.scrIald dL_law_1335 (nI_pos (by omega)) (by rw [nI_clamp (by omega)]; show _ < mN _ 27 0; rw [show mN (ax M) 27 0 = mN M0 27 0 from h.l27]; omega) ?_
    rw [show mI (ax M) 27 0 = mI M0 27 0 from h.x27, nI_clamp (by omega), ← hx1]
    refine cl_L_225 rfl rfl (by first | exact Nat.le_of_ble_eq_true rfl | simp [rf_cat, Value.category]) dL_law_1336 ?_
    refine n_exactMean h.m.ax9 (by have := h.t hn; omega) nf_all ?_
    rw [ea]
    intro M2 m2 t2 F2
    refine R.dstore dL_law_1339 (Nat.le_of_ble_eq_true rfl) (by decide) (by first | rfl | simp [lft, rf_cat]) rfl ?_
    refine R.aload_n dL_law_1341 rfl (by first | rfl | exact rfv_rf _) ?_
    refine cl_L_179 rfl rfl (by first | exact Nat.le_of_ble_eq_true rfl | simp [rf_cat, Value.category]) dL_law_1342 ?_
    refine n_thrown ?_
    rw [t2]
    refine R.iload dL_law_1345 rfl ?_
    refine R.icmp_eq (tgt := 1352) dL_law_1347 (by decide) (fun _ => ?_) (fun c9 => absurd (rfl) c9)
    refine R.iload dL_law_1352 rfl ?_
    refine R.if_ne (tgt := 1389) dL_law_1354 (by decide) (fun _ => ?_) (fun c9 => absurd c9 (cdB_ne E))
    refine R.goto (tgt := 3039) dL_law_1389 (by decide) ?_
    exact k M2 S p T _ _ _ _ (h.no m2 F2)
set_option maxHeartbeats 2000000 in
set_option maxRecDepth 8000 in
theorem lw_averageTrust {d n p T : Nat} {M0 M : Mem} {S : KS} {u6 u7 u8 u9 : Value} {Q : Out → Mem → Prop} (h : LW M0 M S p T n) (hn : n < 512) (hlen : 6 * n + 6 ≤ mN M0 27 0) (k : KLW d M0 n Q) : WP mL_law (d + 22) 2305 [.ref (rf 27 0), .ref (rf 10 0), .ref (rf 11 0), .ref (rf 15 0), .ref (rf 16 0), .int (nI (6 * n)), u6, u7, u8, u9] [] M Q := by
  refine R.aload_n dL_law_2305 rfl (by first | rfl | exact rfv_rf _) ?_
  refine cl_L_315 rfl rfl (by first | exact Nat.le_of_ble_eq_true rfl | simp [rf_cat, Value.category]) dL_law_2306 ?_
  refine WPc.mono (c_averageTrust (Q := fun o M1 => o = .inl (some (.float (avT (kY S)))) ∧ M1 = M) h.c nf_all ⟨rfl, rfl⟩) (fun o9 M1 hm ho => ?_)
  obtain ⟨rfl, e9⟩ := ho
  rw [e9]
  show WP _ _ _ _ _ _ _
  refine R.f2d dL_law_2309 (av_nn _) ?_
  refine R.dstore dL_law_2310 (Nat.le_of_ble_eq_true rfl) (by decide) (by first | rfl | simp [lft, rf_cat]) rfl ?_
  refine R.aload_n dL_law_2312 rfl (by first | rfl | exact rfv_rf _) ?_
  refine cl_L_319 rfl rfl (by first | exact Nat.le_of_ble_eq_true rfl | simp [rf_cat, Value.category]) dL_law_2313 ?_
  refine n_averageTrust h.m (by have := h.t hn; omega) nf_all ?_
  intro M2 m2 t2 F2
  refine R.f2d dL_law_2316 (av_nn _) ?_
  refine R.dstore dL_law_2317 (Nat.le_of_ble_eq_true rfl) (by decide) (by first | rfl | simp [lft, rf_cat]) rfl ?_
  refine R.dload dL_law_2319 rfl ?_
  refine R.dload dL_law_2321 rfl ?_
  refine R.dcmp dL_law_2323 ?_
  by_cases hc : Op.cmpValue (FP.dcmp (FP.f2d (avT (kY S))) (FP.f2d (avT (kY S)))) .l = 0
  · refine R.if_eq (tgt := 2345) dL_law_2324 (by decide) (fun _ => ?_) (fun c9 => absurd (hc) c9)
    refine R.goto (tgt := 3039) dL_law_2345 (by decide) ?_
    exact k M2 S p T _ _ _ _ (h.yes h.c FrK.rf (Mono.rf M) (Fr.rf _ _) m2 F2 (Nat.le_refl _) (by omega) (by omega))
  · refine R.if_eq (tgt := 2345) dL_law_2324 (by decide) (fun c9 => absurd c9 (hc)) (fun _ => ?_)
    refine R.dload dL_law_2327 rfl ?_
    refine R.dload dL_law_2329 rfl ?_
    refine R.dcmp dL_law_2331 ?_
    refine R.if_eq (tgt := 2343) dL_law_2332 (by decide) (fun c9 => absurd c9 (hc)) (fun _ => ?_)
    refine R.dload dL_law_2335 rfl ?_
    refine R.dload dL_law_2337 rfl ?_
    refine R.dcmp dL_law_2339 ?_
    refine R.if_ne (tgt := 2345) dL_law_2340 (by decide) (fun _ => ?_) (fun c9 => absurd c9 (hc))
    refine R.goto (tgt := 3039) dL_law_2345 (by decide) ?_
    exact k M2 S p T _ _ _ _ (h.yes h.c FrK.rf (Mono.rf M) (Fr.rf _ _) m2 F2 (Nat.le_refl _) (by omega) (by omega))
