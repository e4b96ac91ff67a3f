set_option maxHeartbeats 2000000 in
set_option maxRecDepth 8000 in
theorem lk_lastReading {d n p T : Nat} {M0 M : Mem} {S : KS} {r : Rr} {x1 : Int32} {u6 u7 u8 u9 : Value} {Q : Out → Mem → Prop} (h : LW M0 M S p T n) (hlen : 6 * n + 6 ≤ mN M0 27 0) (hb9 : n < 512) (hx1 : x1 = mI M0 27 0 (6 * n + 1)) (hxc : WPc (d + 20) mX12_lastReading [.ref (rf 10 0), .int x1] M (OU9 M r)) (hR : RO [eI, eN] S p r) (hmd : ∀ {M1 : Mem} {Q1 : Out → Mem → Prop}, MSt M1 S T → QMr Q1 M1 S T cdB r → WPc (d + 21) mX13_lastReading [.ref (rf 11 0), .int x1] M1 Q1) (k : KLW d M0 n Q) : WP mL_law (d + 22) 1147 [.ref (rf 27 0), .ref (rf 10 0), .ref (rf 11 0), .ref (rf 15 0), .ref (rf 16 0), .int (nI (6 * n)), u6, u7, u8, u9] [] M Q := by
  have hE : ∀ E, r = .inl E → E = eI ∨ E = eN := fun E e => by
    rw [e] at hR
    have hR : E ∈ [eI, eN] := hR
    simp only [List.mem_cons, List.mem_nil_iff, or_false] at hR
    exact hR
  cases r with
  | inl E =>
    refine R.aload_n dL_law_1147 rfl (by first | rfl | exact rfv_rf _) ?_
    refine R.aload_n dL_law_1148 rfl (by first | rfl | exact rfv_rf _) ?_
    refine R.iload dL_law_1149 rfl ?_
    refine R.iconst (v := nI 1) dL_law_1151 rfl ?_
    refine R.iadd dL_law_1152 ?_
    rw [nI_add9]
    refine R.scrIald dL_law_1153 (nI_pos (by omega)) (by rw [nI_clamp (by omega)]; show _ < mN _ 27 0; rw [h.l27]; omega) ?_
    rw [h.x27, nI_clamp (by omega), ← hx1]
    refine R.aload_n dL_law_1154 rfl (by first | rfl | exact rfv_rf _) ?_
    refine cl_L_213 rfl rfl (by first | exact Nat.le_of_ble_eq_true rfl | simp [rf_cat, Value.category]) dL_law_1155 ?_
    refine h_lastReading hxc h.n15 hE ?_
    show WP _ _ _ _ _ _ _
    refine R.istore dL_law_1158 (Nat.le_of_ble_eq_true rfl) (by decide) (by first | rfl | simp [lft, rf_cat]) rfl ?_
    refine R.aload_n dL_law_1160 rfl (by first | rfl | exact rfv_rf _) ?_
    refine R.aload_n dL_law_1161 rfl (by first | rfl | exact rfv_rf _) ?_
    refine R.iload dL_law_1162 rfl ?_
    refine R.iconst (v := nI 1) dL_law_1164 rfl ?_
    refine R.iadd dL_law_1165 ?_
    rw [nI_add9]
    refine R.scrIald dL_law_1166 (nI_pos (by omega)) (by rw [nI_clamp (by omega)]; show _ < mN _ 27 0; rw [show mN (ax M) 27 0 = mN M0 27 0 from h.l27]; omega) ?_
    rw [show mI (ax M) 27 0 = mI M0 27 0 from h.x27, nI_clamp (by omega), ← hx1]
    refine cl_L_215 rfl rfl (by first | exact Nat.le_of_ble_eq_true rfl | simp [rf_cat, Value.category]) dL_law_1167 ?_
    refine hmd h.m.ax9 ?_
    intro M2 m2 t2 F2
    refine R.istore dL_law_1170 (Nat.le_of_ble_eq_true rfl) (by decide) (by first | rfl | simp [lft, rf_cat]) rfl ?_
    refine R.aload_n dL_law_1172 rfl (by first | rfl | exact rfv_rf _) ?_
    refine cl_L_179 rfl rfl (by first | exact Nat.le_of_ble_eq_true rfl | simp [rf_cat, Value.category]) dL_law_1173 ?_
    refine n_thrown ?_
    rw [t2]
    refine R.iload dL_law_1176 rfl ?_
    refine R.icmp_eq (tgt := 1183) dL_law_1178 (by decide) (fun _ => ?_) (fun c9 => absurd (rfl) c9)
    refine R.iload dL_law_1183 rfl ?_
    refine R.if_ne (tgt := 1200) dL_law_1185 (by decide) (fun _ => ?_) (fun c9 => absurd c9 (cdB_ne E))
    refine R.goto (tgt := 3039) dL_law_1200 (by decide) ?_
    exact k M2 S p T _ _ _ _ (h.no m2 F2)
  | inr t9 =>
    obtain ⟨v, S', p'⟩ := t9
    have hR1 : kN S' = kN S := hR.1
    refine R.aload_n dL_law_1147 rfl (by first | rfl | exact rfv_rf _) ?_
    refine R.aload_n dL_law_1148 rfl (by first | rfl | exact rfv_rf _) ?_
    refine R.iload dL_law_1149 rfl ?_
    refine R.iconst (v := nI 1) dL_law_1151 rfl ?_
    refine R.iadd dL_law_1152 ?_
    rw [nI_add9]
    refine R.scrIald dL_law_1153 (nI_pos (by omega)) (by rw [nI_clamp (by omega)]; show _ < mN _ 27 0; rw [h.l27]; omega) ?_
    rw [h.x27, nI_clamp (by omega), ← hx1]
    refine R.aload_n dL_law_1154 rfl (by first | rfl | exact rfv_rf _) ?_
    refine cl_L_213 rfl rfl (by first | exact Nat.le_of_ble_eq_true rfl | simp [rf_cat, Value.category]) dL_law_1155 ?_
    refine h_lastReading hxc h.n15 hE ?_
    intro M1 c1 F hm
    have hN1 : mN M1 15 0 = 1 := by rw [(F.1 15 0 (Or.inr (Or.inr (Or.inl rfl)))).2.2.2.2]; exact h.n15
    have m1 := (h.m.frK F).f9 (Fr9_L M1 v.toInt64)
    refine R.istore dL_law_1158 (Nat.le_of_ble_eq_true rfl) (by decide) (by first | rfl | simp [lft, rf_cat]) rfl ?_
    refine R.aload_n dL_law_1160 rfl (by first | rfl | exact rfv_rf _) ?_
    refine R.aload_n dL_law_1161 rfl (by first | rfl | exact rfv_rf _) ?_
    refine R.iload dL_law_1162 rfl ?_
    refine R.iconst (v := nI 1) dL_law_1164 rfl ?_
    refine R.iadd dL_law_1165 ?_
    rw [nI_add9]
    refine R.scrIald dL_law_1166 (nI_pos (by omega)) (by rw [nI_clamp (by omega)]; show _ < mN _ 27 0; rw [show mN (sL M1 15 0 0 v.toInt64) 27 0 = mN M0 27 0 from hm.2.2.2.1.trans h.l27]; omega) ?_
    rw [show mI (sL M1 15 0 0 v.toInt64) 27 0 = mI M0 27 0 from hm.2.2.2.2.trans h.x27, nI_clamp (by omega), ← hx1]
    refine cl_L_215 rfl rfl (by first | exact Nat.le_of_ble_eq_true rfl | simp [rf_cat, Value.category]) dL_law_1167 ?_
    refine hmd m1 ?_
    intro M2 m2 t2 F2
    refine R.istore dL_law_1170 (Nat.le_of_ble_eq_true rfl) (by decide) (by first | rfl | simp [lft, rf_cat]) rfl ?_
    refine R.aload_n dL_law_1172 rfl (by first | rfl | exact rfv_rf _) ?_
    refine cl_L_179 rfl rfl (by first | exact Nat.le_of_ble_eq_true rfl | simp [rf_cat, Value.category]) dL_law_1173 ?_
    refine n_thrown ?_
    rw [t2]
    refine R.iload dL_law_1176 rfl ?_
    refine R.icmp_eq (tgt := 1183) dL_law_1178 (by decide) (fun _ => ?_) (fun c9 => absurd (rfl) c9)
    refine R.iload dL_law_1183 rfl ?_
    refine R.if_ne (tgt := 1200) dL_law_1185 (by decide) (fun c9 => absurd (rfl) c9) (fun _ => ?_)
    refine R.aload_n dL_law_1188 rfl (by first | rfl | exact rfv_rf _) ?_
    refine R.iconst (v := 0) dL_law_1189 rfl ?_
    refine R.lald (i := 0) dL_law_1190 (by decide) (by rw [F2.2.1]; show _ < mN M1 15 0; rw [hN1]; decide) ?_
    rw [show mL M2 15 0 (Int32.toNatClampNeg 0) = v.toInt64 from (congrFun (F2.2.2.2.2 15 0 (by unfold inM; omega)).2.1 0).trans (mLsL9 _ _)]
    refine R.iload dL_law_1191 rfl ?_
    refine R.i2l dL_law_1193 ?_
    refine R.lcmp dL_law_1194 ?_
    refine R.if_eq (tgt := 1200) dL_law_1195 (by decide) (fun _ => ?_) (fun c9 => absurd (lcmp_rf _) c9)
    refine R.goto (tgt := 3039) dL_law_1200 (by decide) ?_
    exact k M2 S' p' (T + 1) _ _ _ _ (h.yes c1 F hm (Fr9_L _ _) m2 F2 (Nat.le_succ T) (by omega) hR.2)
set_option maxHeartbeats 2000000 in
set_option maxRecDepth 8000 in
theorem lk_meanReading {d n p T : Nat} {M0 M : Mem} {S : KS} {r : Rr} {x1 : Int32} {u6 u7 u8 u9 : Value} {Q : Out → Mem → Prop} (h : LW M0 M S p T n) (hlen : 6 * n + 6 ≤ mN M0 27 0) (hb9 : n < 512) (hx1 : x1 = mI M0 27 0 (6 * n + 1)) (hxc : WPc (d + 20) mX12_meanReading [.ref (rf 10 0), .int x1] M (OU9 M r)) (hR : RO [eI, eN] S p r) (hmd : ∀ {M1 : Mem} {Q1 : Out → Mem → Prop}, MSt M1 S T → QMr Q1 M1 S T cdB r → WPc (d + 21) mX13_meanReading [.ref (rf 11 0), .int x1] M1 Q1) (k : KLW d M0 n Q) : WP mL_law (d + 22) 1203 [.ref (rf 27 0), .ref (rf 10 0), .ref (rf 11 0), .ref (rf 15 0), .ref (rf 16 0), .int (nI (6 * n)), u6, u7, u8, u9] [] M Q := by
  have hE : ∀ E, r = .inl E → E = eI ∨ E = eN := fun E e => by
    rw [e] at hR
    have hR : E ∈ [eI, eN] := hR
    simp only [List.mem_cons, List.mem_nil_iff, or_false] at hR
    exact hR
  cases r with
  | inl E =>
    refine R.aload_n dL_law_1203 rfl (by first | rfl | exact rfv_rf _) ?_
    refine R.aload_n dL_law_1204 rfl (by first | rfl | exact rfv_rf _) ?_
    refine R.iload dL_law_1205 rfl ?_
    refine R.iconst (v := nI 1) dL_law_1207 rfl ?_
    refine R.iadd dL_law_1208 ?_
    rw [nI_add9]
    refine R.scrIald dL_law_1209 (nI_pos (by omega)) (by rw [nI_clamp (by omega)]; show _ < mN _ 27 0; rw [h.l27]; omega) ?_
    rw [h.x27, nI_clamp (by omega), ← hx1]
    refine R.aload_n dL_law_1210 rfl (by first | rfl | exact rfv_rf _) ?_
    refine cl_L_216 rfl rfl (by first | exact Nat.le_of_ble_eq_true rfl | simp [rf_cat, Value.category]) dL_law_1211 ?_
    refine h_meanReading hxc h.n15 hE ?_
    show WP _ _ _ _ _ _ _
    refine R.istore dL_law_1214 (Nat.le_of_ble_eq_true rfl) (by decide) (by first | rfl | simp [lft, rf_cat]) rfl ?_
    refine R.aload_n dL_law_1216 rfl (by first | rfl | exact rfv_rf _) ?_
    refine R.aload_n dL_law_1217 rfl (by first | rfl | exact rfv_rf _) ?_
    refine R.iload dL_law_1218 rfl ?_
    refine R.iconst (v := nI 1) dL_law_1220 rfl ?_
    refine R.iadd dL_law_1221 ?_
    rw [nI_add9]
    refine R.scrIald dL_law_1222 (nI_pos (by omega)) (by rw [nI_clamp (by omega)]; show _ < mN _ 27 0; rw [show mN (ax M) 27 0 = mN M0 27 0 from h.l27]; omega) ?_
    rw [show mI (ax M) 27 0 = mI M0 27 0 from h.x27, nI_clamp (by omega), ← hx1]
    refine cl_L_218 rfl rfl (by first | exact Nat.le_of_ble_eq_true rfl | simp [rf_cat, Value.category]) dL_law_1223 ?_
    refine hmd h.m.ax9 ?_
    intro M2 m2 t2 F2
    refine R.istore dL_law_1226 (Nat.le_of_ble_eq_true rfl) (by decide) (by first | rfl | simp [lft, rf_cat]) rfl ?_
    refine R.aload_n dL_law_1228 rfl (by first | rfl | exact rfv_rf _) ?_
    refine cl_L_179 rfl rfl (by first | exact Nat.le_of_ble_eq_true rfl | simp [rf_cat, Value.category]) dL_law_1229 ?_
    refine n_thrown ?_
    rw [t2]
    refine R.iload dL_law_1232 rfl ?_
    refine R.icmp_eq (tgt := 1239) dL_law_1234 (by decide) (fun _ => ?_) (fun c9 => absurd (rfl) c9)
    refine R.iload dL_law_1239 rfl ?_
    refine R.if_ne (tgt := 1256) dL_law_1241 (by decide) (fun _ => ?_) (fun c9 => absurd c9 (cdB_ne E))
    refine R.goto (tgt := 3039) dL_law_1256 (by decide) ?_
    exact k M2 S p T _ _ _ _ (h.no m2 F2)
  | inr t9 =>
    obtain ⟨v, S', p'⟩ := t9
    have hR1 : kN S' = kN S := hR.1
    refine R.aload_n dL_law_1203 rfl (by first | rfl | exact rfv_rf _) ?_
    refine R.aload_n dL_law_1204 rfl (by first | rfl | exact rfv_rf _) ?_
    refine R.iload dL_law_1205 rfl ?_
    refine R.iconst (v := nI 1) dL_law_1207 rfl ?_
    refine R.iadd dL_law_1208 ?_
    rw [nI_add9]
    refine R.scrIald dL_law_1209 (nI_pos (by omega)) (by rw [nI_clamp (by omega)]; show _ < mN _ 27 0; rw [h.l27]; omega) ?_
    rw [h.x27, nI_clamp (by omega), ← hx1]
    refine R.aload_n dL_law_1210 rfl (by first | rfl | exact rfv_rf _) ?_
    refine cl_L_216 rfl rfl (by first | exact Nat.le_of_ble_eq_true rfl | simp [rf_cat, Value.category]) dL_law_1211 ?_
    refine h_meanReading hxc h.n15 hE ?_
    intro M1 c1 F hm
    have hN1 : mN M1 15 0 = 1 := by rw [(F.1 15 0 (Or.inr (Or.inr (Or.inl rfl)))).2.2.2.2]; exact h.n15
    have m1 := (h.m.frK F).f9 (Fr9_L M1 v.toInt64)
    refine R.istore dL_law_1214 (Nat.le_of_ble_eq_true rfl) (by decide) (by first | rfl | simp [lft, rf_cat]) rfl ?_
    refine R.aload_n dL_law_1216 rfl (by first | rfl | exact rfv_rf _) ?_
    refine R.aload_n dL_law_1217 rfl (by first | rfl | exact rfv_rf _) ?_
    refine R.iload dL_law_1218 rfl ?_
    refine R.iconst (v := nI 1) dL_law_1220 rfl ?_
    refine R.iadd dL_law_1221 ?_
    rw [nI_add9]
    refine R.scrIald dL_law_1222 (nI_pos (by omega)) (by rw [nI_clamp (by omega)]; show _ < mN _ 27 0; rw [show mN (sL M1 15 0 0 v.toInt64) 27 0 = mN M0 27 0 from hm.2.2.2.1.trans h.l27]; omega) ?_
    rw [show mI (sL M1 15 0 0 v.toInt64) 27 0 = mI M0 27 0 from hm.2.2.2.2.trans h.x27, nI_clamp (by omega), ← hx1]
    refine cl_L_218 rfl rfl (by first | exact Nat.le_of_ble_eq_true rfl | simp [rf_cat, Value.category]) dL_law_1223 ?_
    refine hmd m1 ?_
    intro M2 m2 t2 F2
    refine R.istore dL_law_1226 (Nat.le_of_ble_eq_true rfl) (by decide) (by first | rfl | simp [lft, rf_cat]) rfl ?_
    refine R.aload_n dL_law_1228 rfl (by first | rfl | exact rfv_rf _) ?_
    refine cl_L_179 rfl rfl (by first | exact Nat.le_of_ble_eq_true rfl | simp [rf_cat, Value.category]) dL_law_1229 ?_
    refine n_thrown ?_
    rw [t2]
    refine R.iload dL_law_1232 rfl ?_
    refine R.icmp_eq (tgt := 1239) dL_law_1234 (by decide) (fun _ => ?_) (fun c9 => absurd (rfl) c9)
    refine R.iload dL_law_1239 rfl ?_
    refine R.if_ne (tgt := 1256) dL_law_1241 (by decide) (fun c9 => absurd (rfl) c9) (fun _ => ?_)
    refine R.aload_n dL_law_1244 rfl (by first | rfl | exact rfv_rf _) ?_
    refine R.iconst (v := 0) dL_law_1245 rfl ?_
    refine R.lald (i := 0) dL_law_1246 (by decide) (by rw [F2.2.1]; show _ < mN M1 15 0; rw [hN1]; decide) ?_
    rw [show mL M2 15 0 (Int32.toNatClampNeg 0) = v.toInt64 from (congrFun (F2.2.2.2.2 15 0 (by unfold inM; omega)).2.1 0).trans (mLsL9 _ _)]
    refine R.iload dL_law_1247 rfl ?_
    refine R.i2l dL_law_1249 ?_
    refine R.lcmp dL_law_1250 ?_
    refine R.if_eq (tgt := 1256) dL_law_1251 (by decide) (fun _ => ?_) (fun c9 => absurd (lcmp_rf _) c9)
    refine R.goto (tgt := 3039) dL_law_1256 (by decide) ?_
    exact k M2 S' p' (T + 1) _ _ _ _ (h.yes c1 F hm (Fr9_L _ _) m2 F2 (Nat.le_succ T) (by omega) hR.2)
set_option maxHeartbeats 2000000 in
set_option maxRecDepth 8000 in
theorem lk_meanError {d n p T : Nat} {M0 M : Mem} {S : KS} {r : Rr} {x1 : Int32} {u6 u7 u8 u9 : Value} {Q : Out → Mem → Prop} (h : LW M0 M S p T n) (hlen : 6 * n + 6 ≤ mN M0 27 0) (hb9 : n < 512) (hx1 : x1 = mI M0 27 0 (6 * n + 1)) (hxc : WPc (d + 20) mX12_meanError [.ref (rf 10 0), .int x1] M (OU9 M r)) (hR : RO [eI, eN] S p r) (hmd : ∀ {M1 : Mem} {Q1 : Out → Mem → Prop}, MSt M1 S T → QMr Q1 M1 S T cdB r → WPc (d + 21) mX13_meanError [.ref (rf 11 0), .int x1] M1 Q1) (k : KLW d M0 n Q) : WP mL_law (d + 22) 1259 [.ref (rf 27 0), .ref (rf 10 0), .ref (rf 11 0), .ref (rf 15 0), .ref (rf 16 0), .int (nI (6 * n)), u6, u7, u8, u9] [] M Q := by
  have hE : ∀ E, r = .inl E → E = eI ∨ E = eN := fun E e => by
    rw [e] at hR
    have hR : E ∈ [eI, eN] := hR
    simp only [List.mem_cons, List.mem_nil_iff, or_false] at hR
    exact hR
  cases r with
  | inl E =>
    refine R.aload_n dL_law_1259 rfl (by first | rfl | exact rfv_rf _) ?_
    refine R.aload_n dL_law_1260 rfl (by first | rfl | exact rfv_rf _) ?_
    refine R.iload dL_law_1261 rfl ?_
    refine R.iconst (v := nI 1) dL_law_1263 rfl ?_
    refine R.iadd dL_law_1264 ?_
    rw [nI_add9]
    refine R.scrIald dL_law_1265 (nI_pos (by omega)) (by rw [nI_clamp (by omega)]; show _ < mN _ 27 0; rw [h.l27]; omega) ?_
    rw [h.x27, nI_clamp (by omega), ← hx1]
    refine R.aload_n dL_law_1266 rfl (by first | rfl | exact rfv_rf _) ?_
    refine cl_L_219 rfl rfl (by first | exact Nat.le_of_ble_eq_true rfl | simp [rf_cat, Value.category]) dL_law_1267 ?_
    refine h_meanError hxc h.n15 hE ?_
    show WP _ _ _ _ _ _ _
    refine R.istore dL_law_1270 (Nat.le_of_ble_eq_true rfl) (by decide) (by first | rfl | simp [lft, rf_cat]) rfl ?_
    refine R.aload_n dL_law_1272 rfl (by first | rfl | exact rfv_rf _) ?_
    refine R.aload_n dL_law_1273 rfl (by first | rfl | exact rfv_rf _) ?_
    refine R.iload dL_law_1274 rfl ?_
    refine R.iconst (v := nI 1) dL_law_1276 rfl ?_
    refine R.iadd dL_law_1277 ?_
    rw [nI_add9]
    refine R.scrIald dL_law_1278 (nI_pos (by omega)) (by rw [nI_clamp (by omega)]; show _ < mN _ 27 0; rw [show mN (ax M) 27 0 = mN M0 27 0 from h.l27]; omega) ?_
    rw [show mI (ax M) 27 0 = mI M0 27 0 from h.x27, nI_clamp (by omega), ← hx1]
    refine cl_L_221 rfl rfl (by first | exact Nat.le_of_ble_eq_true rfl | simp [rf_cat, Value.category]) dL_law_1279 ?_
    refine hmd h.m.ax9 ?_
    intro M2 m2 t2 F2
    refine R.istore dL_law_1282 (Nat.le_of_ble_eq_true rfl) (by decide) (by first | rfl | simp [lft, rf_cat]) rfl ?_
    refine R.aload_n dL_law_1284 rfl (by first | rfl | exact rfv_rf _) ?_
    refine cl_L_179 rfl rfl (by first | exact Nat.le_of_ble_eq_true rfl | simp [rf_cat, Value.category]) dL_law_1285 ?_
    refine n_thrown ?_
    rw [t2]
    refine R.iload dL_law_1288 rfl ?_
    refine R.icmp_eq (tgt := 1295) dL_law_1290 (by decide) (fun _ => ?_) (fun c9 => absurd (rfl) c9)
    refine R.iload dL_law_1295 rfl ?_
    refine R.if_ne (tgt := 1312) dL_law_1297 (by decide) (fun _ => ?_) (fun c9 => absurd c9 (cdB_ne E))
    refine R.goto (tgt := 3039) dL_law_1312 (by decide) ?_
    exact k M2 S p T _ _ _ _ (h.no m2 F2)
  | inr t9 =>
    obtain ⟨v, S', p'⟩ := t9
    have hR1 : kN S' = kN S := hR.1
    refine R.aload_n dL_law_1259 rfl (by first | rfl | exact rfv_rf _) ?_
    refine R.aload_n dL_law_1260 rfl (by first | rfl | exact rfv_rf _) ?_
    refine R.iload dL_law_1261 rfl ?_
    refine R.iconst (v := nI 1) dL_law_1263 rfl ?_
    refine R.iadd dL_law_1264 ?_
    rw [nI_add9]
    refine R.scrIald dL_law_1265 (nI_pos (by omega)) (by rw [nI_clamp (by omega)]; show _ < mN _ 27 0; rw [h.l27]; omega) ?_
    rw [h.x27, nI_clamp (by omega), ← hx1]
    refine R.aload_n dL_law_1266 rfl (by first | rfl | exact rfv_rf _) ?_
    refine cl_L_219 rfl rfl (by first | exact Nat.le_of_ble_eq_true rfl | simp [rf_cat, Value.category]) dL_law_1267 ?_
    refine h_meanError hxc h.n15 hE ?_
    intro M1 c1 F hm
    have hN1 : mN M1 15 0 = 1 := by rw [(F.1 15 0 (Or.inr (Or.inr (Or.inl rfl)))).2.2.2.2]; exact h.n15
    have m1 := (h.m.frK F).f9 (Fr9_L M1 v.toInt64)
    refine R.istore dL_law_1270 (Nat.le_of_ble_eq_true rfl) (by decide) (by first | rfl | simp [lft, rf_cat]) rfl ?_
    refine R.aload_n dL_law_1272 rfl (by first | rfl | exact rfv_rf _) ?_
    refine R.aload_n dL_law_1273 rfl (by first | rfl | exact rfv_rf _) ?_
    refine R.iload dL_law_1274 rfl ?_
    refine R.iconst (v := nI 1) dL_law_1276 rfl ?_
    refine R.iadd dL_law_1277 ?_
    rw [nI_add9]
    refine R.scrIald dL_law_1278 (nI_pos (by omega)) (by rw [nI_clamp (by omega)]; show _ < mN _ 27 0; rw [show mN (sL M1 15 0 0 v.toInt64) 27 0 = mN M0 27 0 from hm.2.2.2.1.trans h.l27]; omega) ?_
    rw [show mI (sL M1 15 0 0 v.toInt64) 27 0 = mI M0 27 0 from hm.2.2.2.2.trans h.x27, nI_clamp (by omega), ← hx1]
    refine cl_L_221 rfl rfl (by first | exact Nat.le_of_ble_eq_true rfl | simp [rf_cat, Value.category]) dL_law_1279 ?_
    refine hmd m1 ?_
    intro M2 m2 t2 F2
    refine R.istore dL_law_1282 (Nat.le_of_ble_eq_true rfl) (by decide) (by first | rfl | simp [lft, rf_cat]) rfl ?_
    refine R.aload_n dL_law_1284 rfl (by first | rfl | exact rfv_rf _) ?_
    refine cl_L_179 rfl rfl (by first | exact Nat.le_of_ble_eq_true rfl | simp [rf_cat, Value.category]) dL_law_1285 ?_
    refine n_thrown ?_
    rw [t2]
    refine R.iload dL_law_1288 rfl ?_
    refine R.icmp_eq (tgt := 1295) dL_law_1290 (by decide) (fun _ => ?_) (fun c9 => absurd (rfl) c9)
    refine R.iload dL_law_1295 rfl ?_
    refine R.if_ne (tgt := 1312) dL_law_1297 (by decide) (fun c9 => absurd (rfl) c9) (fun _ => ?_)
    refine R.aload_n dL_law_1300 rfl (by first | rfl | exact rfv_rf _) ?_
    refine R.iconst (v := 0) dL_law_1301 rfl ?_
    refine R.lald (i := 0) dL_law_1302 (by decide) (by rw [F2.2.1]; show _ < mN M1 15 0; rw [hN1]; decide) ?_
    rw [show mL M2 15 0 (Int32.toNatClampNeg 0) = v.toInt64 from (congrFun (F2.2.2.2.2 15 0 (by unfold inM; omega)).2.1 0).trans (mLsL9 _ _)]
    refine R.iload dL_law_1303 rfl ?_
    refine R.i2l dL_law_1305 ?_
    refine R.lcmp dL_law_1306 ?_
    refine R.if_eq (tgt := 1312) dL_law_1307 (by decide) (fun _ => ?_) (fun c9 => absurd (lcmp_rf _) c9)
    refine R.goto (tgt := 3039) dL_law_1312 (by decide) ?_
    exact k M2 S' p' (T + 1) _ _ _ _ (h.yes c1 F hm (Fr9_L _ _) m2 F2 (Nat.le_succ T) (by omega) hR.2)
set_option maxHeartbeats 2000000 in
set_option maxRecDepth 8000 in
theorem lk_predictReading {d n p T : Nat} {M0 M : Mem} {S : KS} {r : Rr} {x1 : Int32} {u6 u7 u8 u9 : Value} {Q : Out → Mem → Prop} (h : LW M0 M S p T n) (hlen : 6 * n + 6 ≤ mN M0 27 0) (hb9 : n < 512) (hx1 : x1 = mI M0 27 0 (6 * n + 1)) (hxc : WPc (d + 20) mX12_predictReading [.ref (rf 10 0), .int x1] M (OU9 M r)) (hR : RO [eI, eS] S p r) (hmd : ∀ {M1 : Mem} {Q1 : Out → Mem → Prop}, MSt M1 S T → QMr Q1 M1 S T cdB r → WPc (d + 21) mX13_predictReading [.ref (rf 11 0), .int x1] M1 Q1) (k : KLW d M0 n Q) : WP mL_law (d + 22) 1470 [.ref (rf 27 0), .ref (rf 10 0), .ref (rf 11 0), .ref (rf 15 0), .ref (rf 16 0), .int (nI (6 * n)), u6, u7, u8, u9] [] M Q := by
  have hE : ∀ E, r = .inl E → E = eI ∨ E = eS := fun E e => by
    rw [e] at hR
    have hR : E ∈ [eI, eS] := hR
    simp only [List.mem_cons, List.mem_nil_iff, or_false] at hR
    exact hR
  cases r with
  | inl E =>
    refine R.aload_n dL_law_1470 rfl (by first | rfl | exact rfv_rf _) ?_
    refine R.aload_n dL_law_1471 rfl (by first | rfl | exact rfv_rf _) ?_
    refine R.iload dL_law_1472 rfl ?_
    refine R.iconst (v := nI 1) dL_law_1474 rfl ?_
    refine R.iadd dL_law_1475 ?_
    rw [nI_add9]
    refine R.scrIald dL_law_1476 (nI_pos (by omega)) (by rw [nI_clamp (by omega)]; show _ < mN _ 27 0; rw [h.l27]; omega) ?_
    rw [h.x27, nI_clamp (by omega), ← hx1]
    refine R.aload_n dL_law_1477 rfl (by first | rfl | exact rfv_rf _) ?_
    refine cl_L_250 rfl rfl (by first | exact Nat.le_of_ble_eq_true rfl | simp [rf_cat, Value.category]) dL_law_1478 ?_
    refine h_predictReading hxc h.n15 hE ?_
    show WP _ _ _ _ _ _ _
    refine R.istore dL_law_1481 (Nat.le_of_ble_eq_true rfl) (by decide) (by first | rfl | simp [lft, rf_cat]) rfl ?_
    refine R.aload_n dL_law_1483 rfl (by first | rfl | exact rfv_rf _) ?_
    refine R.aload_n dL_law_1484 rfl (by first | rfl | exact rfv_rf _) ?_
    refine R.iload dL_law_1485 rfl ?_
    refine R.iconst (v := nI 1) dL_law_1487 rfl ?_
    refine R.iadd dL_law_1488 ?_
    rw [nI_add9]
    refine R.scrIald dL_law_1489 (nI_pos (by omega)) (by rw [nI_clamp (by omega)]; show _ < mN _ 27 0; rw [show mN (ax M) 27 0 = mN M0 27 0 from h.l27]; omega) ?_
    rw [show mI (ax M) 27 0 = mI M0 27 0 from h.x27, nI_clamp (by omega), ← hx1]
    refine cl_L_252 rfl rfl (by first | exact Nat.le_of_ble_eq_true rfl | simp [rf_cat, Value.category]) dL_law_1490 ?_
    refine hmd h.m.ax9 ?_
    intro M2 m2 t2 F2
    refine R.istore dL_law_1493 (Nat.le_of_ble_eq_true rfl) (by decide) (by first | rfl | simp [lft, rf_cat]) rfl ?_
    refine R.aload_n dL_law_1495 rfl (by first | rfl | exact rfv_rf _) ?_
    refine cl_L_179 rfl rfl (by first | exact Nat.le_of_ble_eq_true rfl | simp [rf_cat, Value.category]) dL_law_1496 ?_
    refine n_thrown ?_
    rw [t2]
    refine R.iload dL_law_1499 rfl ?_
    refine R.icmp_eq (tgt := 1506) dL_law_1501 (by decide) (fun _ => ?_) (fun c9 => absurd (rfl) c9)
    refine R.iload dL_law_1506 rfl ?_
    refine R.if_ne (tgt := 1523) dL_law_1508 (by decide) (fun _ => ?_) (fun c9 => absurd c9 (cdB_ne E))
    refine R.goto (tgt := 3039) dL_law_1523 (by decide) ?_
    exact k M2 S p T _ _ _ _ (h.no m2 F2)
  | inr t9 =>
    obtain ⟨v, S', p'⟩ := t9
    have hR1 : kN S' = kN S := hR.1
    refine R.aload_n dL_law_1470 rfl (by first | rfl | exact rfv_rf _) ?_
    refine R.aload_n dL_law_1471 rfl (by first | rfl | exact rfv_rf _) ?_
    refine R.iload dL_law_1472 rfl ?_
    refine R.iconst (v := nI 1) dL_law_1474 rfl ?_
    refine R.iadd dL_law_1475 ?_
    rw [nI_add9]
    refine R.scrIald dL_law_1476 (nI_pos (by omega)) (by rw [nI_clamp (by omega)]; show _ < mN _ 27 0; rw [h.l27]; omega) ?_
    rw [h.x27, nI_clamp (by omega), ← hx1]
    refine R.aload_n dL_law_1477 rfl (by first | rfl | exact rfv_rf _) ?_
    refine cl_L_250 rfl rfl (by first | exact Nat.le_of_ble_eq_true rfl | simp [rf_cat, Value.category]) dL_law_1478 ?_
    refine h_predictReading hxc h.n15 hE ?_
    intro M1 c1 F hm
    have hN1 : mN M1 15 0 = 1 := by rw [(F.1 15 0 (Or.inr (Or.inr (Or.inl rfl)))).2.2.2.2]; exact h.n15
    have m1 := (h.m.frK F).f9 (Fr9_L M1 v.toInt64)
    refine R.istore dL_law_1481 (Nat.le_of_ble_eq_true rfl) (by decide) (by first | rfl | simp [lft, rf_cat]) rfl ?_
    refine R.aload_n dL_law_1483 rfl (by first | rfl | exact rfv_rf _) ?_
    refine R.aload_n dL_law_1484 rfl (by first | rfl | exact rfv_rf _) ?_
    refine R.iload dL_law_1485 rfl ?_
    refine R.iconst (v := nI 1) dL_law_1487 rfl ?_
    refine R.iadd dL_law_1488 ?_
    rw [nI_add9]
    refine R.scrIald dL_law_1489 (nI_pos (by omega)) (by rw [nI_clamp (by omega)]; show _ < mN _ 27 0; rw [show mN (sL M1 15 0 0 v.toInt64) 27 0 = mN M0 27 0 from hm.2.2.2.1.trans h.l27]; omega) ?_
    rw [show mI (sL M1 15 0 0 v.toInt64) 27 0 = mI M0 27 0 from hm.2.2.2.2.trans h.x27, nI_clamp (by omega), ← hx1]
    refine cl_L_252 rfl rfl (by first | exact Nat.le_of_ble_eq_true rfl | simp [rf_cat, Value.category]) dL_law_1490 ?_
    refine hmd m1 ?_
    intro M2 m2 t2 F2
    refine R.istore dL_law_1493 (Nat.le_of_ble_eq_true rfl) (by decide) (by first | rfl | simp [lft, rf_cat]) rfl ?_
    refine R.aload_n dL_law_1495 rfl (by first | rfl | exact rfv_rf _) ?_
    refine cl_L_179 rfl rfl (by first | exact Nat.le_of_ble_eq_true rfl | simp [rf_cat, Value.category]) dL_law_1496 ?_
    refine n_thrown ?_
    rw [t2]
    refine R.iload dL_law_1499 rfl ?_
    refine R.icmp_eq (tgt := 1506) dL_law_1501 (by decide) (fun _ => ?_) (fun c9 => absurd (rfl) c9)
    refine R.iload dL_law_1506 rfl ?_
    refine R.if_ne (tgt := 1523) dL_law_1508 (by decide) (fun c9 => absurd (rfl) c9) (fun _ => ?_)
    refine R.aload_n dL_law_1511 rfl (by first | rfl | exact rfv_rf _) ?_
    refine R.iconst (v := 0) dL_law_1512 rfl ?_
    refine R.lald (i := 0) dL_law_1513 (by decide) (by rw [F2.2.1]; show _ < mN M1 15 0; rw [hN1]; decide) ?_
    rw [show mL M2 15 0 (Int32.toNatClampNeg 0) = v.toInt64 from (congrFun (F2.2.2.2.2 15 0 (by unfold inM; omega)).2.1 0).trans (mLsL9 _ _)]
    refine R.iload dL_law_1514 rfl ?_
    refine R.i2l dL_law_1516 ?_
    refine R.lcmp dL_law_1517 ?_
    refine R.if_eq (tgt := 1523) dL_law_1518 (by decide) (fun _ => ?_) (fun c9 => absurd (lcmp_rf _) c9)
    refine R.goto (tgt := 3039) dL_law_1523 (by decide) ?_
    exact k M2 S' p' (T + 1) _ _ _ _ (h.yes c1 F hm (Fr9_L _ _) m2 F2 (Nat.le_succ T) (by omega) hR.2)
set_option maxHeartbeats 2000000 in
set_option maxRecDepth 8000 in
theorem lk_predictMean {d n p T : Nat} {M0 M : Mem} {S : KS} {r : Rr} {x1 x2 : Int32} {u6 u7 u8 u9 : Value} {Q : Out → Mem → Prop} (h : LW M0 M S p T n) (hlen : 6 * n + 6 ≤ mN M0 27 0) (hb9 : n < 512) (hx1 : x1 = mI M0 27 0 (6 * n + 1)) (hx2 : x2 = mI M0 27 0 (6 * n + 2)) (hxc : WPc (d + 20) mX12_predictMean [.ref (rf 10 0), .int x1, .int x2] M (OU9 M r)) (hR : RO [eI, eA, eS] S p r) (hmd : ∀ {M1 : Mem} {Q1 : Out → Mem → Prop}, MSt M1 S T → QMr Q1 M1 S T cdC r → WPc (d + 21) mX13_predictMean [.ref (rf 11 0), .int x1, .int x2] M1 Q1) (k : KLW d M0 n Q) : WP mL_law (d + 22) 1526 [.ref (rf 27 0), .ref (rf 10 0), .ref (rf 11 0), .ref (rf 15 0), .ref (rf 16 0), .int (nI (6 * n)), u6, u7, u8, u9] [] M Q := by
  have hE : ∀ E, r = .inl E → E = eI ∨ E = eA ∨ E = eS := fun E e => by
    rw [e] at hR
    have hR : E ∈ [eI, eA, eS] := hR
    simp only [List.mem_cons, List.mem_nil_iff, or_false] at hR
    exact hR
  cases r with
  | inl E =>
    refine R.aload_n dL_law_1526 rfl (by first | rfl | exact rfv_rf _) ?_
    refine R.aload_n dL_law_1527 rfl (by first | rfl | exact rfv_rf _) ?_
    refine R.iload dL_law_1528 rfl ?_
    refine R.iconst (v := nI 1) dL_law_1530 rfl ?_
    refine R.iadd dL_law_1531 ?_
    rw [nI_add9]
    refine R.scrIald dL_law_1532 (nI_pos (by omega)) (by rw [nI_clamp (by omega)]; show _ < mN _ 27 0; rw [h.l27]; omega) ?_
    rw [h.x27, nI_clamp (by omega), ← hx1]
    refine R.aload_n dL_law_1533 rfl (by first | rfl | exact rfv_rf _) ?_
    refine R.iload dL_law_1534 rfl ?_
    refine R.iconst (v := nI 2) dL_law_1536 rfl ?_
    refine R.iadd dL_law_1537 ?_
    rw [nI_add9]
    refine R.scrIald dL_law_1538 (nI_pos (by omega)) (by rw [nI_clamp (by omega)]; show _ < mN _ 27 0; rw [h.l27]; omega) ?_
    rw [h.x27, nI_clamp (by omega), ← hx2]
    refine R.aload_n dL_law_1539 rfl (by first | rfl | exact rfv_rf _) ?_
    refine cl_L_253 rfl rfl (by first | exact Nat.le_of_ble_eq_true rfl | simp [rf_cat, Value.category]) dL_law_1540 ?_
    refine h_predictMean hxc h.n15 hE ?_
    show WP _ _ _ _ _ _ _
    refine R.istore dL_law_1543 (Nat.le_of_ble_eq_true rfl) (by decide) (by first | rfl | simp [lft, rf_cat]) rfl ?_
    refine R.aload_n dL_law_1545 rfl (by first | rfl | exact rfv_rf _) ?_
    refine R.aload_n dL_law_1546 rfl (by first | rfl | exact rfv_rf _) ?_
    refine R.iload dL_law_1547 rfl ?_
    refine R.iconst (v := nI 1) dL_law_1549 rfl ?_
    refine R.iadd dL_law_1550 ?_
    rw [nI_add9]
    refine R.scrIald dL_law_1551 (nI_pos (by omega)) (by rw [nI_clamp (by omega)]; show _ < mN _ 27 0; rw [show mN (ax M) 27 0 = mN M0 27 0 from h.l27]; omega) ?_
    rw [show mI (ax M) 27 0 = mI M0 27 0 from h.x27, nI_clamp (by omega), ← hx1]
    refine R.aload_n dL_law_1552 rfl (by first | rfl | exact rfv_rf _) ?_
    refine R.iload dL_law_1553 rfl ?_
    refine R.iconst (v := nI 2) dL_law_1555 rfl ?_
    refine R.iadd dL_law_1556 ?_
    rw [nI_add9]
    refine R.scrIald dL_law_1557 (nI_pos (by omega)) (by rw [nI_clamp (by omega)]; show _ < mN _ 27 0; rw [show mN (ax M) 27 0 = mN M0 27 0 from h.l27]; omega) ?_
    rw [show mI (ax M) 27 0 = mI M0 27 0 from h.x27, nI_clamp (by omega), ← hx2]
    refine cl_L_255 rfl rfl (by first | exact Nat.le_of_ble_eq_true rfl | simp [rf_cat, Value.category]) dL_law_1558 ?_
    refine hmd h.m.ax9 ?_
    intro M2 m2 t2 F2
    refine R.istore dL_law_1561 (Nat.le_of_ble_eq_true rfl) (by decide) (by first | rfl | simp [lft, rf_cat]) rfl ?_
    refine R.aload_n dL_law_1563 rfl (by first | rfl | exact rfv_rf _) ?_
    refine cl_L_179 rfl rfl (by first | exact Nat.le_of_ble_eq_true rfl | simp [rf_cat, Value.category]) dL_law_1564 ?_
    refine n_thrown ?_
    rw [t2]
    refine R.iload dL_law_1567 rfl ?_
    refine R.icmp_eq (tgt := 1574) dL_law_1569 (by decide) (fun _ => ?_) (fun c9 => absurd (rfl) c9)
    refine R.iload dL_law_1574 rfl ?_
    refine R.if_ne (tgt := 1591) dL_law_1576 (by decide) (fun _ => ?_) (fun c9 => absurd c9 (cdC_ne E))
    refine R.goto (tgt := 3039) dL_law_1591 (by decide) ?_
    exact k M2 S p T _ _ _ _ (h.no m2 F2)
  | inr t9 =>
    obtain ⟨v, S', p'⟩ := t9
    have hR1 : kN S' = kN S := hR.1
    refine R.aload_n dL_law_1526 rfl (by first | rfl | exact rfv_rf _) ?_
    refine R.aload_n dL_law_1527 rfl (by first | rfl | exact rfv_rf _) ?_
    refine R.iload dL_law_1528 rfl ?_
    refine R.iconst (v := nI 1) dL_law_1530 rfl ?_
    refine R.iadd dL_law_1531 ?_
    rw [nI_add9]
    refine R.scrIald dL_law_1532 (nI_pos (by omega)) (by rw [nI_clamp (by omega)]; show _ < mN _ 27 0; rw [h.l27]; omega) ?_
    rw [h.x27, nI_clamp (by omega), ← hx1]
    refine R.aload_n dL_law_1533 rfl (by first | rfl | exact rfv_rf _) ?_
    refine R.iload dL_law_1534 rfl ?_
    refine R.iconst (v := nI 2) dL_law_1536 rfl ?_
    refine R.iadd dL_law_1537 ?_
    rw [nI_add9]
    refine R.scrIald dL_law_1538 (nI_pos (by omega)) (by rw [nI_clamp (by omega)]; show _ < mN _ 27 0; rw [h.l27]; omega) ?_
    rw [h.x27, nI_clamp (by omega), ← hx2]
    refine R.aload_n dL_law_1539 rfl (by first | rfl | exact rfv_rf _) ?_
    refine cl_L_253 rfl rfl (by first | exact Nat.le_of_ble_eq_true rfl | simp [rf_cat, Value.category]) dL_law_1540 ?_
    refine h_predictMean hxc h.n15 hE ?_
    intro M1 c1 F hm
    have hN1 : mN M1 15 0 = 1 := by rw [(F.1 15 0 (Or.inr (Or.inr (Or.inl rfl)))).2.2.2.2]; exact h.n15
    have m1 := (h.m.frK F).f9 (Fr9_L M1 v.toInt64)
    refine R.istore dL_law_1543 (Nat.le_of_ble_eq_true rfl) (by decide) (by first | rfl | simp [lft, rf_cat]) rfl ?_
    refine R.aload_n dL_law_1545 rfl (by first | rfl | exact rfv_rf _) ?_
    refine R.aload_n dL_law_1546 rfl (by first | rfl | exact rfv_rf _) ?_
    refine R.iload dL_law_1547 rfl ?_
    refine R.iconst (v := nI 1) dL_law_1549 rfl ?_
    refine R.iadd dL_law_1550 ?_
    rw [nI_add9]
    refine R.scrIald dL_law_1551 (nI_pos (by omega)) (by rw [nI_clamp (by omega)]; show _ < mN _ 27 0; rw [show mN (sL M1 15 0 0 v.toInt64) 27 0 = mN M0 27 0 from hm.2.2.2.1.trans h.l27]; omega) ?_
    rw [show mI (sL M1 15 0 0 v.toInt64) 27 0 = mI M0 27 0 from hm.2.2.2.2.trans h.x27, nI_clamp (by omega), ← hx1]
    refine R.aload_n dL_law_1552 rfl (by first | rfl | exact rfv_rf _) ?_
    refine R.iload dL_law_1553 rfl ?_
    refine R.iconst (v := nI 2) dL_law_1555 rfl ?_
    refine R.iadd dL_law_1556 ?_
    rw [nI_add9]
    refine R.scrIald dL_law_1557 (nI_pos (by omega)) (by rw [nI_clamp (by omega)]; show _ < mN _ 27 0; rw [show mN (sL M1 15 0 0 v.toInt64) 27 0 = mN M0 27 0 from hm.2.2.2.1.trans h.l27]; omega) ?_
    rw [show mI (sL M1 15 0 0 v.toInt64) 27 0 = mI M0 27 0 from hm.2.2.2.2.trans h.x27, nI_clamp (by omega), ← hx2]
    refine cl_L_255 rfl rfl (by first | exact Nat.le_of_ble_eq_true rfl | simp [rf_cat, Value.category]) dL_law_1558 ?_
    refine hmd m1 ?_
    intro M2 m2 t2 F2
    refine R.istore dL_law_1561 (Nat.le_of_ble_eq_true rfl) (by decide) (by first | rfl | simp [lft, rf_cat]) rfl ?_
    refine R.aload_n dL_law_1563 rfl (by first | rfl | exact rfv_rf _) ?_
    refine cl_L_179 rfl rfl (by first | exact Nat.le_of_ble_eq_true rfl | simp [rf_cat, Value.category]) dL_law_1564 ?_
    refine n_thrown ?_
    rw [t2]
    refine R.iload dL_law_1567 rfl ?_
    refine R.icmp_eq (tgt := 1574) dL_law_1569 (by decide) (fun _ => ?_) (fun c9 => absurd (rfl) c9)
    refine R.iload dL_law_1574 rfl ?_
    refine R.if_ne (tgt := 1591) dL_law_1576 (by decide) (fun c9 => absurd (rfl) c9) (fun _ => ?_)
    refine R.aload_n dL_law_1579 rfl (by first | rfl | exact rfv_rf _) ?_
    refine R.iconst (v := 0) dL_law_1580 rfl ?_
    refine R.lald (i := 0) dL_law_1581 (by decide) (by rw [F2.2.1]; show _ < mN M1 15 0; rw [hN1]; decide) ?_
    rw [show mL M2 15 0 (Int32.toNatClampNeg 0) = v.toInt64 from (congrFun (F2.2.2.2.2 15 0 (by unfold inM; omega)).2.1 0).trans (mLsL9 _ _)]
    refine R.iload dL_law_1582 rfl ?_
    refine R.i2l dL_law_1584 ?_
    refine R.lcmp dL_law_1585 ?_
    refine R.if_eq (tgt := 1591) dL_law_1586 (by decide) (fun _ => ?_) (fun c9 => absurd (lcmp_rf _) c9)
    refine R.goto (tgt := 3039) dL_law_1591 (by decide) ?_
    exact k M2 S' p' (T + 1) _ _ _ _ (h.yes c1 F hm (Fr9_L _ _) m2 F2 (Nat.le_succ T) (by omega) hR.2)
set_option maxHeartbeats 2000000 in
set_option maxRecDepth 8000 in
theorem lk_readingsUntilWithin {d n p T : Nat} {M0 M : Mem} {S : KS} {r : Rr} {x1 x2 : Int32} {u6 u7 u8 u9 : Value} {Q : Out → Mem → Prop} (h : LW M0 M S p T n) (hlen : 6 * n + 6 ≤ mN M0 27 0) (hb9 : n < 512) (hx1 : x1 = mI M0 27 0 (6 * n + 1)) (hx2 : x2 = mI M0 27 0 (6 * n + 2)) (hxc : WPc (d + 20) mX12_readingsUntilWithin [.ref (rf 10 0), .int x1, .int x2] M (OU9 M r)) (hR : RO [eI, eA, eS] S p r) (hmd : ∀ {M1 : Mem} {Q1 : Out → Mem → Prop}, MSt M1 S T → QMr Q1 M1 S T cdC r → WPc (d + 21) mX13_readingsUntilWithin [.ref (rf 11 0), .int x1, .int x2] M1 Q1) (k : KLW d M0 n Q) : WP mL_law (d + 22) 1594 [.ref (rf 27 0), .ref (rf 10 0), .ref (rf 11 0), .ref (rf 15 0), .ref (rf 16 0), .int (nI (6 * n)), u6, u7, u8, u9] [] M Q := by
  have hE : ∀ E, r = .inl E → E = eI ∨ E = eA ∨ E = eS := fun E e => by
    rw [e] at hR
    have hR : E ∈ [eI, eA, eS] := hR
    simp only [List.mem_cons, List.mem_nil_iff, or_false] at hR
    exact hR
  cases r with
  | inl E =>
    refine R.aload_n dL_law_1594 rfl (by first | rfl | exact rfv_rf _) ?_
    refine R.aload_n dL_law_1595 rfl (by first | rfl | exact rfv_rf _) ?_
    refine R.iload dL_law_1596 rfl ?_
    refine R.iconst (v := nI 1) dL_law_1598 rfl ?_
    refine R.iadd dL_law_1599 ?_
    rw [nI_add9]
    refine R.scrIald dL_law_1600 (nI_pos (by omega)) (by rw [nI_clamp (by omega)]; show _ < mN _ 27 0; rw [h.l27]; omega) ?_
    rw [h.x27, nI_clamp (by omega), ← hx1]
    refine R.aload_n dL_law_1601 rfl (by first | rfl | exact rfv_rf _) ?_
    refine R.iload dL_law_1602 rfl ?_
    refine R.iconst (v := nI 2) dL_law_1604 rfl ?_
    refine R.iadd dL_law_1605 ?_
    rw [nI_add9]
    refine R.scrIald dL_law_1606 (nI_pos (by omega)) (by rw [nI_clamp (by omega)]; show _ < mN _ 27 0; rw [h.l27]; omega) ?_
    rw [h.x27, nI_clamp (by omega), ← hx2]
    refine R.aload_n dL_law_1607 rfl (by first | rfl | exact rfv_rf _) ?_
    refine cl_L_256 rfl rfl (by first | exact Nat.le_of_ble_eq_true rfl | simp [rf_cat, Value.category]) dL_law_1608 ?_
    refine h_readingsUntilWithin hxc h.n15 hE ?_
    show WP _ _ _ _ _ _ _
    refine R.istore dL_law_1611 (Nat.le_of_ble_eq_true rfl) (by decide) (by first | rfl | simp [lft, rf_cat]) rfl ?_
    refine R.aload_n dL_law_1613 rfl (by first | rfl | exact rfv_rf _) ?_
    refine R.aload_n dL_law_1614 rfl (by first | rfl | exact rfv_rf _) ?_
    refine R.iload dL_law_1615 rfl ?_
    refine R.iconst (v := nI 1) dL_law_1617 rfl ?_
    refine R.iadd dL_law_1618 ?_
    rw [nI_add9]
    refine R.scrIald dL_law_1619 (nI_pos (by omega)) (by rw [nI_clamp (by omega)]; show _ < mN _ 27 0; rw [show mN (ax M) 27 0 = mN M0 27 0 from h.l27]; omega) ?_
    rw [show mI (ax M) 27 0 = mI M0 27 0 from h.x27, nI_clamp (by omega), ← hx1]
    refine R.aload_n dL_law_1620 rfl (by first | rfl | exact rfv_rf _) ?_
    refine R.iload dL_law_1621 rfl ?_
    refine R.iconst (v := nI 2) dL_law_1623 rfl ?_
    refine R.iadd dL_law_1624 ?_
    rw [nI_add9]
    refine R.scrIald dL_law_1625 (nI_pos (by omega)) (by rw [nI_clamp (by omega)]; show _ < mN _ 27 0; rw [show mN (ax M) 27 0 = mN M0 27 0 from h.l27]; omega) ?_
    rw [show mI (ax M) 27 0 = mI M0 27 0 from h.x27, nI_clamp (by omega), ← hx2]
    refine cl_L_258 rfl rfl (by first | exact Nat.le_of_ble_eq_true rfl | simp [rf_cat, Value.category]) dL_law_1626 ?_
    refine hmd h.m.ax9 ?_
    intro M2 m2 t2 F2
    refine R.istore dL_law_1629 (Nat.le_of_ble_eq_true rfl) (by decide) (by first | rfl | simp [lft, rf_cat]) rfl ?_
    refine R.aload_n dL_law_1631 rfl (by first | rfl | exact rfv_rf _) ?_
    refine cl_L_179 rfl rfl (by first | exact Nat.le_of_ble_eq_true rfl | simp [rf_cat, Value.category]) dL_law_1632 ?_
    refine n_thrown ?_
    rw [t2]
    refine R.iload dL_law_1635 rfl ?_
    refine R.icmp_eq (tgt := 1642) dL_law_1637 (by decide) (fun _ => ?_) (fun c9 => absurd (rfl) c9)
    refine R.iload dL_law_1642 rfl ?_
    refine R.if_ne (tgt := 1659) dL_law_1644 (by decide) (fun _ => ?_) (fun c9 => absurd c9 (cdC_ne E))
    refine R.goto (tgt := 3039) dL_law_1659 (by decide) ?_
    exact k M2 S p T _ _ _ _ (h.no m2 F2)
  | inr t9 =>
    obtain ⟨v, S', p'⟩ := t9
    have hR1 : kN S' = kN S := hR.1
    refine R.aload_n dL_law_1594 rfl (by first | rfl | exact rfv_rf _) ?_
    refine R.aload_n dL_law_1595 rfl (by first | rfl | exact rfv_rf _) ?_
    refine R.iload dL_law_1596 rfl ?_
    refine R.iconst (v := nI 1) dL_law_1598 rfl ?_
    refine R.iadd dL_law_1599 ?_
    rw [nI_add9]
    refine R.scrIald dL_law_1600 (nI_pos (by omega)) (by rw [nI_clamp (by omega)]; show _ < mN _ 27 0; rw [h.l27]; omega) ?_
    rw [h.x27, nI_clamp (by omega), ← hx1]
    refine R.aload_n dL_law_1601 rfl (by first | rfl | exact rfv_rf _) ?_
    refine R.iload dL_law_1602 rfl ?_
    refine R.iconst (v := nI 2) dL_law_1604 rfl ?_
    refine R.iadd dL_law_1605 ?_
    rw [nI_add9]
    refine R.scrIald dL_law_1606 (nI_pos (by omega)) (by rw [nI_clamp (by omega)]; show _ < mN _ 27 0; rw [h.l27]; omega) ?_
    rw [h.x27, nI_clamp (by omega), ← hx2]
    refine R.aload_n dL_law_1607 rfl (by first | rfl | exact rfv_rf _) ?_
    refine cl_L_256 rfl rfl (by first | exact Nat.le_of_ble_eq_true rfl | simp [rf_cat, Value.category]) dL_law_1608 ?_
    refine h_readingsUntilWithin hxc h.n15 hE ?_
    intro M1 c1 F hm
    have hN1 : mN M1 15 0 = 1 := by rw [(F.1 15 0 (Or.inr (Or.inr (Or.inl rfl)))).2.2.2.2]; exact h.n15
    have m1 := (h.m.frK F).f9 (Fr9_L M1 v.toInt64)
    refine R.istore dL_law_1611 (Nat.le_of_ble_eq_true rfl) (by decide) (by first | rfl | simp [lft, rf_cat]) rfl ?_
    refine R.aload_n dL_law_1613 rfl (by first | rfl | exact rfv_rf _) ?_
    refine R.aload_n dL_law_1614 rfl (by first | rfl | exact rfv_rf _) ?_
    refine R.iload dL_law_1615 rfl ?_
    refine R.iconst (v := nI 1) dL_law_1617 rfl ?_
    refine R.iadd dL_law_1618 ?_
    rw [nI_add9]
    refine R.scrIald dL_law_1619 (nI_pos (by omega)) (by rw [nI_clamp (by omega)]; show _ < mN _ 27 0; rw [show mN (sL M1 15 0 0 v.toInt64) 27 0 = mN M0 27 0 from hm.2.2.2.1.trans h.l27]; omega) ?_
    rw [show mI (sL M1 15 0 0 v.toInt64) 27 0 = mI M0 27 0 from hm.2.2.2.2.trans h.x27, nI_clamp (by omega), ← hx1]
    refine R.aload_n dL_law_1620 rfl (by first | rfl | exact rfv_rf _) ?_
    refine R.iload dL_law_1621 rfl ?_
    refine R.iconst (v := nI 2) dL_law_1623 rfl ?_
    refine R.iadd dL_law_1624 ?_
    rw [nI_add9]
    refine R.scrIald dL_law_1625 (nI_pos (by omega)) (by rw [nI_clamp (by omega)]; show _ < mN _ 27 0; rw [show mN (sL M1 15 0 0 v.toInt64) 27 0 = mN M0 27 0 from hm.2.2.2.1.trans h.l27]; omega) ?_
    rw [show mI (sL M1 15 0 0 v.toInt64) 27 0 = mI M0 27 0 from hm.2.2.2.2.trans h.x27, nI_clamp (by omega), ← hx2]
    refine cl_L_258 rfl rfl (by first | exact Nat.le_of_ble_eq_true rfl | simp [rf_cat, Value.category]) dL_law_1626 ?_
    refine hmd m1 ?_
    intro M2 m2 t2 F2
    refine R.istore dL_law_1629 (Nat.le_of_ble_eq_true rfl) (by decide) (by first | rfl | simp [lft, rf_cat]) rfl ?_
    refine R.aload_n dL_law_1631 rfl (by first | rfl | exact rfv_rf _) ?_
    refine cl_L_179 rfl rfl (by first | exact Nat.le_of_ble_eq_true rfl | simp [rf_cat, Value.category]) dL_law_1632 ?_
    refine n_thrown ?_
    rw [t2]
    refine R.iload dL_law_1635 rfl ?_
    refine R.icmp_eq (tgt := 1642) dL_law_1637 (by decide) (fun _ => ?_) (fun c9 => absurd (rfl) c9)
    refine R.iload dL_law_1642 rfl ?_
    refine R.if_ne (tgt := 1659) dL_law_1644 (by decide) (fun c9 => absurd (rfl) c9) (fun _ => ?_)
    refine R.aload_n dL_law_1647 rfl (by first | rfl | exact rfv_rf _) ?_
    refine R.iconst (v := 0) dL_law_1648 rfl ?_
    refine R.lald (i := 0) dL_law_1649 (by decide) (by rw [F2.2.1]; show _ < mN M1 15 0; rw [hN1]; decide) ?_
    rw [show mL M2 15 0 (Int32.toNatClampNeg 0) = v.toInt64 from (congrFun (F2.2.2.2.2 15 0 (by unfold inM; omega)).2.1 0).trans (mLsL9 _ _)]
    refine R.iload dL_law_1650 rfl ?_
    refine R.i2l dL_law_1652 ?_
    refine R.lcmp dL_law_1653 ?_
    refine R.if_eq (tgt := 1659) dL_law_1654 (by decide) (fun _ => ?_) (fun c9 => absurd (lcmp_rf _) c9)
    refine R.goto (tgt := 3039) dL_law_1659 (by decide) ?_
    exact k M2 S' p' (T + 1) _ _ _ _ (h.yes c1 F hm (Fr9_L _ _) m2 F2 (Nat.le_succ T) (by omega) hR.2)
set_option maxHeartbeats 2000000 in
set_option maxRecDepth 8000 in
theorem lk_worstErrorWithin {d n p T : Nat} {M0 M : Mem} {S : KS} {r : Rr} {x1 x2 : Int32} {u6 u7 u8 u9 : Value} {Q : Out → Mem → Prop} (h : LW M0 M S p T n) (hlen : 6 * n + 6 ≤ mN M0 27 0) (hb9 : n < 512) (hx1 : x1 = mI M0 27 0 (6 * n + 1)) (hx2 : x2 = mI M0 27 0 (6 * n + 2)) (hxc : WPc (d + 20) mX12_worstErrorWithin [.ref (rf 10 0), .int x1, .int x2] M (OU9 M r)) (hR : RO [eI, eA, eS] S p r) (hmd : ∀ {M1 : Mem} {Q1 : Out → Mem → Prop}, MSt M1 S T → QMr Q1 M1 S T cdC r → WPc (d + 21) mX13_worstErrorWithin [.ref (rf 11 0), .int x1, .int x2] M1 Q1) (k : KLW d M0 n Q) : WP mL_law (d + 22) 1662 [.ref (rf 27 0), .ref (rf 10 0), .ref (rf 11 0), .ref (rf 15 0), .ref (rf 16 0), .int (nI (6 * n)), u6, u7, u8, u9] [] M Q := by
  have hE : ∀ E, r = .inl E → E = eI ∨ E = eA ∨ E = eS := fun E e => by
    rw [e] at hR
    have hR : E ∈ [eI, eA, eS] := hR
    simp only [List.mem_cons, List.mem_nil_iff, or_false] at hR
    exact hR
  cases r with
  | inl E =>
    refine R.aload_n dL_law_1662 rfl (by first | rfl | exact rfv_rf _) ?_
    refine R.aload_n dL_law_1663 rfl (by first | rfl | exact rfv_rf _) ?_
    refine R.iload dL_law_1664 rfl ?_
    refine R.iconst (v := nI 1) dL_law_1666 rfl ?_
    refine R.iadd dL_law_1667 ?_
    rw [nI_add9]
    refine R.scrIald dL_law_1668 (nI_pos (by omega)) (by rw [nI_clamp (by omega)]; show _ < mN _ 27 0; rw [h.l27]; omega) ?_
    rw [h.x27, nI_clamp (by omega), ← hx1]
    refine R.aload_n dL_law_1669 rfl (by first | rfl | exact rfv_rf _) ?_
    refine R.iload dL_law_1670 rfl ?_
    refine R.iconst (v := nI 2) dL_law_1672 rfl ?_
    refine R.iadd dL_law_1673 ?_
    rw [nI_add9]
    refine R.scrIald dL_law_1674 (nI_pos (by omega)) (by rw [nI_clamp (by omega)]; show _ < mN _ 27 0; rw [h.l27]; omega) ?_
    rw [h.x27, nI_clamp (by omega), ← hx2]
    refine R.aload_n dL_law_1675 rfl (by first | rfl | exact rfv_rf _) ?_
    refine cl_L_259 rfl rfl (by first | exact Nat.le_of_ble_eq_true rfl | simp [rf_cat, Value.category]) dL_law_1676 ?_
    refine h_worstErrorWithin hxc h.n15 hE ?_
    show WP _ _ _ _ _ _ _
    refine R.istore dL_law_1679 (Nat.le_of_ble_eq_true rfl) (by decide) (by first | rfl | simp [lft, rf_cat]) rfl ?_
    refine R.aload_n dL_law_1681 rfl (by first | rfl | exact rfv_rf _) ?_
    refine R.aload_n dL_law_1682 rfl (by first | rfl | exact rfv_rf _) ?_
    refine R.iload dL_law_1683 rfl ?_
    refine R.iconst (v := nI 1) dL_law_1685 rfl ?_
    refine R.iadd dL_law_1686 ?_
    rw [nI_add9]
    refine R.scrIald dL_law_1687 (nI_pos (by omega)) (by rw [nI_clamp (by omega)]; show _ < mN _ 27 0; rw [show mN (ax M) 27 0 = mN M0 27 0 from h.l27]; omega) ?_
    rw [show mI (ax M) 27 0 = mI M0 27 0 from h.x27, nI_clamp (by omega), ← hx1]
    refine R.aload_n dL_law_1688 rfl (by first | rfl | exact rfv_rf _) ?_
    refine R.iload dL_law_1689 rfl ?_
    refine R.iconst (v := nI 2) dL_law_1691 rfl ?_
    refine R.iadd dL_law_1692 ?_
    rw [nI_add9]
    refine R.scrIald dL_law_1693 (nI_pos (by omega)) (by rw [nI_clamp (by omega)]; show _ < mN _ 27 0; rw [show mN (ax M) 27 0 = mN M0 27 0 from h.l27]; omega) ?_
    rw [show mI (ax M) 27 0 = mI M0 27 0 from h.x27, nI_clamp (by omega), ← hx2]
    refine cl_L_261 rfl rfl (by first | exact Nat.le_of_ble_eq_true rfl | simp [rf_cat, Value.category]) dL_law_1694 ?_
    refine hmd h.m.ax9 ?_
    intro M2 m2 t2 F2
    refine R.istore dL_law_1697 (Nat.le_of_ble_eq_true rfl) (by decide) (by first | rfl | simp [lft, rf_cat]) rfl ?_
    refine R.aload_n dL_law_1699 rfl (by first | rfl | exact rfv_rf _) ?_
    refine cl_L_179 rfl rfl (by first | exact Nat.le_of_ble_eq_true rfl | simp [rf_cat, Value.category]) dL_law_1700 ?_
    refine n_thrown ?_
    rw [t2]
    refine R.iload dL_law_1703 rfl ?_
    refine R.icmp_eq (tgt := 1710) dL_law_1705 (by decide) (fun _ => ?_) (fun c9 => absurd (rfl) c9)
    refine R.iload dL_law_1710 rfl ?_
    refine R.if_ne (tgt := 1727) dL_law_1712 (by decide) (fun _ => ?_) (fun c9 => absurd c9 (cdC_ne E))
    refine R.goto (tgt := 3039) dL_law_1727 (by decide) ?_
    exact k M2 S p T _ _ _ _ (h.no m2 F2)
  | inr t9 =>
    obtain ⟨v, S', p'⟩ := t9
    have hR1 : kN S' = kN S := hR.1
    refine R.aload_n dL_law_1662 rfl (by first | rfl | exact rfv_rf _) ?_
    refine R.aload_n dL_law_1663 rfl (by first | rfl | exact rfv_rf _) ?_
    refine R.iload dL_law_1664 rfl ?_
    refine R.iconst (v := nI 1) dL_law_1666 rfl ?_
    refine R.iadd dL_law_1667 ?_
    rw [nI_add9]
    refine R.scrIald dL_law_1668 (nI_pos (by omega)) (by rw [nI_clamp (by omega)]; show _ < mN _ 27 0; rw [h.l27]; omega) ?_
    rw [h.x27, nI_clamp (by omega), ← hx1]
    refine R.aload_n dL_law_1669 rfl (by first | rfl | exact rfv_rf _) ?_
    refine R.iload dL_law_1670 rfl ?_
    refine R.iconst (v := nI 2) dL_law_1672 rfl ?_
    refine R.iadd dL_law_1673 ?_
    rw [nI_add9]
    refine R.scrIald dL_law_1674 (nI_pos (by omega)) (by rw [nI_clamp (by omega)]; show _ < mN _ 27 0; rw [h.l27]; omega) ?_
    rw [h.x27, nI_clamp (by omega), ← hx2]
    refine R.aload_n dL_law_1675 rfl (by first | rfl | exact rfv_rf _) ?_
    refine cl_L_259 rfl rfl (by first | exact Nat.le_of_ble_eq_true rfl | simp [rf_cat, Value.category]) dL_law_1676 ?_
    refine h_worstErrorWithin hxc h.n15 hE ?_
    intro M1 c1 F hm
    have hN1 : mN M1 15 0 = 1 := by rw [(F.1 15 0 (Or.inr (Or.inr (Or.inl rfl)))).2.2.2.2]; exact h.n15
    have m1 := (h.m.frK F).f9 (Fr9_L M1 v.toInt64)
    refine R.istore dL_law_1679 (Nat.le_of_ble_eq_true rfl) (by decide) (by first | rfl | simp [lft, rf_cat]) rfl ?_
    refine R.aload_n dL_law_1681 rfl (by first | rfl | exact rfv_rf _) ?_
    refine R.aload_n dL_law_1682 rfl (by first | rfl | exact rfv_rf _) ?_
    refine R.iload dL_law_1683 rfl ?_
    refine R.iconst (v := nI 1) dL_law_1685 rfl ?_
    refine R.iadd dL_law_1686 ?_
    rw [nI_add9]
    refine R.scrIald dL_law_1687 (nI_pos (by omega)) (by rw [nI_clamp (by omega)]; show _ < mN _ 27 0; rw [show mN (sL M1 15 0 0 v.toInt64) 27 0 = mN M0 27 0 from hm.2.2.2.1.trans h.l27]; omega) ?_
    rw [show mI (sL M1 15 0 0 v.toInt64) 27 0 = mI M0 27 0 from hm.2.2.2.2.trans h.x27, nI_clamp (by omega), ← hx1]
    refine R.aload_n dL_law_1688 rfl (by first | rfl | exact rfv_rf _) ?_
    refine R.iload dL_law_1689 rfl ?_
    refine R.iconst (v := nI 2) dL_law_1691 rfl ?_
    refine R.iadd dL_law_1692 ?_
    rw [nI_add9]
    refine R.scrIald dL_law_1693 (nI_pos (by omega)) (by rw [nI_clamp (by omega)]; show _ < mN _ 27 0; rw [show mN (sL M1 15 0 0 v.toInt64) 27 0 = mN M0 27 0 from hm.2.2.2.1.trans h.l27]; omega) ?_
    rw [show mI (sL M1 15 0 0 v.toInt64) 27 0 = mI M0 27 0 from hm.2.2.2.2.trans h.x27, nI_clamp (by omega), ← hx2]
    refine cl_L_261 rfl rfl (by first | exact Nat.le_of_ble_eq_true rfl | simp [rf_cat, Value.category]) dL_law_1694 ?_
    refine hmd m1 ?_
    intro M2 m2 t2 F2
    refine R.istore dL_law_1697 (Nat.le_of_ble_eq_true rfl) (by decide) (by first | rfl | simp [lft, rf_cat]) rfl ?_
    refine R.aload_n dL_law_1699 rfl (by first | rfl | exact rfv_rf _) ?_
    refine cl_L_179 rfl rfl (by first | exact Nat.le_of_ble_eq_true rfl | simp [rf_cat, Value.category]) dL_law_1700 ?_
    refine n_thrown ?_
    rw [t2]
    refine R.iload dL_law_1703 rfl ?_
    refine R.icmp_eq (tgt := 1710) dL_law_1705 (by decide) (fun _ => ?_) (fun c9 => absurd (rfl) c9)
    refine R.iload dL_law_1710 rfl ?_
    refine R.if_ne (tgt := 1727) dL_law_1712 (by decide) (fun c9 => absurd (rfl) c9) (fun _ => ?_)
    refine R.aload_n dL_law_1715 rfl (by first | rfl | exact rfv_rf _) ?_
    refine R.iconst (v := 0) dL_law_1716 rfl ?_
    refine R.lald (i := 0) dL_law_1717 (by decide) (by rw [F2.2.1]; show _ < mN M1 15 0; rw [hN1]; decide) ?_
    rw [show mL M2 15 0 (Int32.toNatClampNeg 0) = v.toInt64 from (congrFun (F2.2.2.2.2 15 0 (by unfold inM; omega)).2.1 0).trans (mLsL9 _ _)]
    refine R.iload dL_law_1718 rfl ?_
    refine R.i2l dL_law_1720 ?_
    refine R.lcmp dL_law_1721 ?_
    refine R.if_eq (tgt := 1727) dL_law_1722 (by decide) (fun _ => ?_) (fun c9 => absurd (lcmp_rf _) c9)
    refine R.goto (tgt := 3039) dL_law_1727 (by decide) ?_
    exact k M2 S' p' (T + 1) _ _ _ _ (h.yes c1 F hm (Fr9_L _ _) m2 F2 (Nat.le_succ T) (by omega) hR.2)
set_option maxHeartbeats 2000000 in
set_option maxRecDepth 8000 in
theorem lk_trustAfterSale {d n p T : Nat} {M0 M : Mem} {S : KS} {r : Rr} {x1 x2 : Int32} {u6 u7 u8 u9 : Value} {Q : Out → Mem → Prop} (h : LW M0 M S p T n) (hlen : 6 * n + 6 ≤ mN M0 27 0) (hb9 : n < 512) (hx1 : x1 = mI M0 27 0 (6 * n + 1)) (hx2 : x2 = mI M0 27 0 (6 * n + 2)) (hxc : WPc (d + 20) mX12_trustAfterSale [.ref (rf 10 0), .int x1, .int x2] M (OU9 M r)) (hR : RO [eI, eS] S p r) (hmd : ∀ {M1 : Mem} {Q1 : Out → Mem → Prop}, MSt M1 S T → QMr Q1 M1 S T cdB r → WPc (d + 21) mX13_trustAfterSale [.ref (rf 11 0), .int x1, .int x2] M1 Q1) (k : KLW d M0 n Q) : WP mL_law (d + 22) 2146 [.ref (rf 27 0), .ref (rf 10 0), .ref (rf 11 0), .ref (rf 15 0), .ref (rf 16 0), .int (nI (6 * n)), u6, u7, u8, u9] [] M Q := by
  have hE : ∀ E, r = .inl E → E = eI ∨ E = eS := fun E e => by
    rw [e] at hR
    have hR : E ∈ [eI, eS] := hR
    simp only [List.mem_cons, List.mem_nil_iff, or_false] at hR
    exact hR
  cases r with
  | inl E =>
    refine R.aload_n dL_law_2146 rfl (by first | rfl | exact rfv_rf _) ?_
    refine R.aload_n dL_law_2147 rfl (by first | rfl | exact rfv_rf _) ?_
    refine R.iload dL_law_2148 rfl ?_
    refine R.iconst (v := nI 1) dL_law_2150 rfl ?_
    refine R.iadd dL_law_2151 ?_
    rw [nI_add9]
    refine R.scrIald dL_law_2152 (nI_pos (by omega)) (by rw [nI_clamp (by omega)]; show _ < mN _ 27 0; rw [h.l27]; omega) ?_
    rw [h.x27, nI_clamp (by omega), ← hx1]
    refine R.aload_n dL_law_2153 rfl (by first | rfl | exact rfv_rf _) ?_
    refine R.iload dL_law_2154 rfl ?_
    refine R.iconst (v := nI 2) dL_law_2156 rfl ?_
    refine R.iadd dL_law_2157 ?_
    rw [nI_add9]
    refine R.scrIald dL_law_2158 (nI_pos (by omega)) (by rw [nI_clamp (by omega)]; show _ < mN _ 27 0; rw [h.l27]; omega) ?_
    rw [h.x27, nI_clamp (by omega), ← hx2]
    refine R.aload_n dL_law_2159 rfl (by first | rfl | exact rfv_rf _) ?_
    refine cl_L_283 rfl rfl (by first | exact Nat.le_of_ble_eq_true rfl | simp [rf_cat, Value.category]) dL_law_2160 ?_
    refine h_trustAfterSale hxc h.n15 hE ?_
    show WP _ _ _ _ _ _ _
    refine R.istore dL_law_2163 (Nat.le_of_ble_eq_true rfl) (by decide) (by first | rfl | simp [lft, rf_cat]) rfl ?_
    refine R.aload_n dL_law_2165 rfl (by first | rfl | exact rfv_rf _) ?_
    refine R.aload_n dL_law_2166 rfl (by first | rfl | exact rfv_rf _) ?_
    refine R.iload dL_law_2167 rfl ?_
    refine R.iconst (v := nI 1) dL_law_2169 rfl ?_
    refine R.iadd dL_law_2170 ?_
    rw [nI_add9]
    refine R.scrIald dL_law_2171 (nI_pos (by omega)) (by rw [nI_clamp (by omega)]; show _ < mN _ 27 0; rw [show mN (ax M) 27 0 = mN M0 27 0 from h.l27]; omega) ?_
    rw [show mI (ax M) 27 0 = mI M0 27 0 from h.x27, nI_clamp (by omega), ← hx1]
    refine R.aload_n dL_law_2172 rfl (by first | rfl | exact rfv_rf _) ?_
    refine R.iload dL_law_2173 rfl ?_
    refine R.iconst (v := nI 2) dL_law_2175 rfl ?_
    refine R.iadd dL_law_2176 ?_
    rw [nI_add9]
    refine R.scrIald dL_law_2177 (nI_pos (by omega)) (by rw [nI_clamp (by omega)]; show _ < mN _ 27 0; rw [show mN (ax M) 27 0 = mN M0 27 0 from h.l27]; omega) ?_
    rw [show mI (ax M) 27 0 = mI M0 27 0 from h.x27, nI_clamp (by omega), ← hx2]
    refine cl_L_285 rfl rfl (by first | exact Nat.le_of_ble_eq_true rfl | simp [rf_cat, Value.category]) dL_law_2178 ?_
    refine hmd h.m.ax9 ?_
    intro M2 m2 t2 F2
    refine R.istore dL_law_2181 (Nat.le_of_ble_eq_true rfl) (by decide) (by first | rfl | simp [lft, rf_cat]) rfl ?_
    refine R.aload_n dL_law_2183 rfl (by first | rfl | exact rfv_rf _) ?_
    refine cl_L_179 rfl rfl (by first | exact Nat.le_of_ble_eq_true rfl | simp [rf_cat, Value.category]) dL_law_2184 ?_
    refine n_thrown ?_
    rw [t2]
    refine R.iload dL_law_2187 rfl ?_
    refine R.icmp_eq (tgt := 2194) dL_law_2189 (by decide) (fun _ => ?_) (fun c9 => absurd (rfl) c9)
    refine R.iload dL_law_2194 rfl ?_
    refine R.if_ne (tgt := 2211) dL_law_2196 (by decide) (fun _ => ?_) (fun c9 => absurd c9 (cdB_ne E))
    refine R.goto (tgt := 3039) dL_law_2211 (by decide) ?_
    exact k M2 S p T _ _ _ _ (h.no m2 F2)
  | inr t9 =>
    obtain ⟨v, S', p'⟩ := t9
    have hR1 : kN S' = kN S := hR.1
    refine R.aload_n dL_law_2146 rfl (by first | rfl | exact rfv_rf _) ?_
    refine R.aload_n dL_law_2147 rfl (by first | rfl | exact rfv_rf _) ?_
    refine R.iload dL_law_2148 rfl ?_
    refine R.iconst (v := nI 1) dL_law_2150 rfl ?_
    refine R.iadd dL_law_2151 ?_
    rw [nI_add9]
    refine R.scrIald dL_law_2152 (nI_pos (by omega)) (by rw [nI_clamp (by omega)]; show _ < mN _ 27 0; rw [h.l27]; omega) ?_
    rw [h.x27, nI_clamp (by omega), ← hx1]
    refine R.aload_n dL_law_2153 rfl (by first | rfl | exact rfv_rf _) ?_
    refine R.iload dL_law_2154 rfl ?_
    refine R.iconst (v := nI 2) dL_law_2156 rfl ?_
    refine R.iadd dL_law_2157 ?_
    rw [nI_add9]
    refine R.scrIald dL_law_2158 (nI_pos (by omega)) (by rw [nI_clamp (by omega)]; show _ < mN _ 27 0; rw [h.l27]; omega) ?_
    rw [h.x27, nI_clamp (by omega), ← hx2]
    refine R.aload_n dL_law_2159 rfl (by first | rfl | exact rfv_rf _) ?_
    refine cl_L_283 rfl rfl (by first | exact Nat.le_of_ble_eq_true rfl | simp [rf_cat, Value.category]) dL_law_2160 ?_
    refine h_trustAfterSale hxc h.n15 hE ?_
    intro M1 c1 F hm
    have hN1 : mN M1 15 0 = 1 := by rw [(F.1 15 0 (Or.inr (Or.inr (Or.inl rfl)))).2.2.2.2]; exact h.n15
    have m1 := (h.m.frK F).f9 (Fr9_L M1 v.toInt64)
    refine R.istore dL_law_2163 (Nat.le_of_ble_eq_true rfl) (by decide) (by first | rfl | simp [lft, rf_cat]) rfl ?_
    refine R.aload_n dL_law_2165 rfl (by first | rfl | exact rfv_rf _) ?_
    refine R.aload_n dL_law_2166 rfl (by first | rfl | exact rfv_rf _) ?_
    refine R.iload dL_law_2167 rfl ?_
    refine R.iconst (v := nI 1) dL_law_2169 rfl ?_
    refine R.iadd dL_law_2170 ?_
    rw [nI_add9]
    refine R.scrIald dL_law_2171 (nI_pos (by omega)) (by rw [nI_clamp (by omega)]; show _ < mN _ 27 0; rw [show mN (sL M1 15 0 0 v.toInt64) 27 0 = mN M0 27 0 from hm.2.2.2.1.trans h.l27]; omega) ?_
    rw [show mI (sL M1 15 0 0 v.toInt64) 27 0 = mI M0 27 0 from hm.2.2.2.2.trans h.x27, nI_clamp (by omega), ← hx1]
    refine R.aload_n dL_law_2172 rfl (by first | rfl | exact rfv_rf _) ?_
    refine R.iload dL_law_2173 rfl ?_
    refine R.iconst (v := nI 2) dL_law_2175 rfl ?_
    refine R.iadd dL_law_2176 ?_
    rw [nI_add9]
    refine R.scrIald dL_law_2177 (nI_pos (by omega)) (by rw [nI_clamp (by omega)]; show _ < mN _ 27 0; rw [show mN (sL M1 15 0 0 v.toInt64) 27 0 = mN M0 27 0 from hm.2.2.2.1.trans h.l27]; omega) ?_
    rw [show mI (sL M1 15 0 0 v.toInt64) 27 0 = mI M0 27 0 from hm.2.2.2.2.trans h.x27, nI_clamp (by omega), ← hx2]
    refine cl_L_285 rfl rfl (by first | exact Nat.le_of_ble_eq_true rfl | simp [rf_cat, Value.category]) dL_law_2178 ?_
    refine hmd m1 ?_
    intro M2 m2 t2 F2
    refine R.istore dL_law_2181 (Nat.le_of_ble_eq_true rfl) (by decide) (by first | rfl | simp [lft, rf_cat]) rfl ?_
    refine R.aload_n dL_law_2183 rfl (by first | rfl | exact rfv_rf _) ?_
    refine cl_L_179 rfl rfl (by first | exact Nat.le_of_ble_eq_true rfl | simp [rf_cat, Value.category]) dL_law_2184 ?_
    refine n_thrown ?_
    rw [t2]
    refine R.iload dL_law_2187 rfl ?_
    refine R.icmp_eq (tgt := 2194) dL_law_2189 (by decide) (fun _ => ?_) (fun c9 => absurd (rfl) c9)
    refine R.iload dL_law_2194 rfl ?_
    refine R.if_ne (tgt := 2211) dL_law_2196 (by decide) (fun c9 => absurd (rfl) c9) (fun _ => ?_)
    refine R.aload_n dL_law_2199 rfl (by first | rfl | exact rfv_rf _) ?_
    refine R.iconst (v := 0) dL_law_2200 rfl ?_
    refine R.lald (i := 0) dL_law_2201 (by decide) (by rw [F2.2.1]; show _ < mN M1 15 0; rw [hN1]; decide) ?_
    rw [show mL M2 15 0 (Int32.toNatClampNeg 0) = v.toInt64 from (congrFun (F2.2.2.2.2 15 0 (by unfold inM; omega)).2.1 0).trans (mLsL9 _ _)]
    refine R.iload dL_law_2202 rfl ?_
    refine R.i2l dL_law_2204 ?_
    refine R.lcmp dL_law_2205 ?_
    refine R.if_eq (tgt := 2211) dL_law_2206 (by decide) (fun _ => ?_) (fun c9 => absurd (lcmp_rf _) c9)
    refine R.goto (tgt := 3039) dL_law_2211 (by decide) ?_
    exact k M2 S' p' (T + 1) _ _ _ _ (h.yes c1 F hm (Fr9_L _ _) m2 F2 (Nat.le_succ T) (by omega) hR.2)
