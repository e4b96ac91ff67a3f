set_option maxHeartbeats 2000000 in
set_option maxRecDepth 8000 in
theorem lk_weigh {d n p T : Nat} {M0 M : Mem} {S : KS} {r : Rr} {x1 : Int32} {u6 u7 u8 u9 : Value} {Q : Out → Mem → Prop} (h : LW M0 M S p T n) (hlen : 6 * n + 6 ≤ mN M0 27 0) (hb9 : n < 512) (hx1 : x1 = mI M0 27 0 (6 * n + 1)) (hxc : WPc (d + 20) mX12_weigh [.ref (rf 10 0), .int x1] M (OU9 M r)) (hR : RO [eI, eS] S p r) (hmd : ∀ {M1 : Mem} {Q1 : Out → Mem → Prop}, MSt M1 S T → QMr Q1 M1 S T cdB r → WPc (d + 21) mX13_weigh [.ref (rf 11 0), .int x1] M1 Q1) (k : KLW d M0 n Q) : WP mL_law (d + 22) 2348 [.ref (rf 27 0), .ref (rf 10 0), .ref (rf 11 0), .ref (rf 15 0), .ref (rf 16 0), .int (nI (6 * n)), u6, u7, u8, u9] [] M Q := by
  have hE : ∀ E, r = .inl E → E = eI ∨ E = eS := fun E e => by
    rw [e] at hR
    have hR : E ∈ [eI, eS] := hR
    simp only [List.mem_cons, List.mem_nil_iff, or_false] at hR
    exact hR
  cases r with
  | inl E =>
    refine R.aload_n dL_law_2348 rfl (by first | rfl | exact rfv_rf _) ?_
    refine R.aload_n dL_law_2349 rfl (by first | rfl | exact rfv_rf _) ?_
    refine R.iload dL_law_2350 rfl ?_
    refine R.iconst (v := nI 1) dL_law_2352 rfl ?_
    refine R.iadd dL_law_2353 ?_
    rw [nI_add9]
    refine R.scrIald dL_law_2354 (nI_pos (by omega)) (by rw [nI_clamp (by omega)]; show _ < mN _ 27 0; rw [h.l27]; omega) ?_
    rw [h.x27, nI_clamp (by omega), ← hx1]
    refine R.aload_n dL_law_2355 rfl (by first | rfl | exact rfv_rf _) ?_
    refine cl_L_320 rfl rfl (by first | exact Nat.le_of_ble_eq_true rfl | simp [rf_cat, Value.category]) dL_law_2356 ?_
    refine h_weigh hxc h.n15 hE ?_
    show WP _ _ _ _ _ _ _
    refine R.istore dL_law_2359 (Nat.le_of_ble_eq_true rfl) (by decide) (by first | rfl | simp [lft, rf_cat]) rfl ?_
    refine R.aload_n dL_law_2361 rfl (by first | rfl | exact rfv_rf _) ?_
    refine R.aload_n dL_law_2362 rfl (by first | rfl | exact rfv_rf _) ?_
    refine R.iload dL_law_2363 rfl ?_
    refine R.iconst (v := nI 1) dL_law_2365 rfl ?_
    refine R.iadd dL_law_2366 ?_
    rw [nI_add9]
    refine R.scrIald dL_law_2367 (nI_pos (by omega)) (by rw [nI_clamp (by omega)]; show _ < mN _ 27 0; rw [show mN (ax M) 27 0 = mN M0 27 0 from h.l27]; omega) ?_
    rw [show mI (ax M) 27 0 = mI M0 27 0 from h.x27, nI_clamp (by omega), ← hx1]
    refine cl_L_322 rfl rfl (by first | exact Nat.le_of_ble_eq_true rfl | simp [rf_cat, Value.category]) dL_law_2368 ?_
    refine hmd h.m.ax9 ?_
    intro M2 m2 t2 F2
    refine R.istore dL_law_2371 (Nat.le_of_ble_eq_true rfl) (by decide) (by first | rfl | simp [lft, rf_cat]) rfl ?_
    refine R.aload_n dL_law_2373 rfl (by first | rfl | exact rfv_rf _) ?_
    refine cl_L_179 rfl rfl (by first | exact Nat.le_of_ble_eq_true rfl | simp [rf_cat, Value.category]) dL_law_2374 ?_
    refine n_thrown ?_
    rw [t2]
    refine R.iload dL_law_2377 rfl ?_
    refine R.icmp_eq (tgt := 2384) dL_law_2379 (by decide) (fun _ => ?_) (fun c9 => absurd (rfl) c9)
    refine R.iload dL_law_2384 rfl ?_
    refine R.if_ne (tgt := 2401) dL_law_2386 (by decide) (fun _ => ?_) (fun c9 => absurd c9 (cdB_ne E))
    refine R.goto (tgt := 3039) dL_law_2401 (by decide) ?_
    exact k M2 S p T _ _ _ _ (h.no m2 F2)
  | inr t9 =>
    obtain ⟨v, S', p'⟩ := t9
    have hR1 : kN S' = kN S := hR.1
    refine R.aload_n dL_law_2348 rfl (by first | rfl | exact rfv_rf _) ?_
    refine R.aload_n dL_law_2349 rfl (by first | rfl | exact rfv_rf _) ?_
    refine R.iload dL_law_2350 rfl ?_
    refine R.iconst (v := nI 1) dL_law_2352 rfl ?_
    refine R.iadd dL_law_2353 ?_
    rw [nI_add9]
    refine R.scrIald dL_law_2354 (nI_pos (by omega)) (by rw [nI_clamp (by omega)]; show _ < mN _ 27 0; rw [h.l27]; omega) ?_
    rw [h.x27, nI_clamp (by omega), ← hx1]
    refine R.aload_n dL_law_2355 rfl (by first | rfl | exact rfv_rf _) ?_
    refine cl_L_320 rfl rfl (by first | exact Nat.le_of_ble_eq_true rfl | simp [rf_cat, Value.category]) dL_law_2356 ?_
    refine h_weigh hxc h.n15 hE ?_
    intro M1 c1 F hm
    have hN1 : mN M1 15 0 = 1 := by rw [(F.1 15 0 (Or.inr (Or.inr (Or.inl rfl)))).2.2.2.2]; exact h.n15
    have m1 := (h.m.frK F).f9 (Fr9_L M1 v.toInt64)
    refine R.istore dL_law_2359 (Nat.le_of_ble_eq_true rfl) (by decide) (by first | rfl | simp [lft, rf_cat]) rfl ?_
    refine R.aload_n dL_law_2361 rfl (by first | rfl | exact rfv_rf _) ?_
    refine R.aload_n dL_law_2362 rfl (by first | rfl | exact rfv_rf _) ?_
    refine R.iload dL_law_2363 rfl ?_
    refine R.iconst (v := nI 1) dL_law_2365 rfl ?_
    refine R.iadd dL_law_2366 ?_
    rw [nI_add9]
    refine R.scrIald dL_law_2367 (nI_pos (by omega)) (by rw [nI_clamp (by omega)]; show _ < mN _ 27 0; rw [show mN (sL M1 15 0 0 v.toInt64) 27 0 = mN M0 27 0 from hm.2.2.2.1.trans h.l27]; omega) ?_
    rw [show mI (sL M1 15 0 0 v.toInt64) 27 0 = mI M0 27 0 from hm.2.2.2.2.trans h.x27, nI_clamp (by omega), ← hx1]
    refine cl_L_322 rfl rfl (by first | exact Nat.le_of_ble_eq_true rfl | simp [rf_cat, Value.category]) dL_law_2368 ?_
    refine hmd m1 ?_
    intro M2 m2 t2 F2
    refine R.istore dL_law_2371 (Nat.le_of_ble_eq_true rfl) (by decide) (by first | rfl | simp [lft, rf_cat]) rfl ?_
    refine R.aload_n dL_law_2373 rfl (by first | rfl | exact rfv_rf _) ?_
    refine cl_L_179 rfl rfl (by first | exact Nat.le_of_ble_eq_true rfl | simp [rf_cat, Value.category]) dL_law_2374 ?_
    refine n_thrown ?_
    rw [t2]
    refine R.iload dL_law_2377 rfl ?_
    refine R.icmp_eq (tgt := 2384) dL_law_2379 (by decide) (fun _ => ?_) (fun c9 => absurd (rfl) c9)
    refine R.iload dL_law_2384 rfl ?_
    refine R.if_ne (tgt := 2401) dL_law_2386 (by decide) (fun c9 => absurd (rfl) c9) (fun _ => ?_)
    refine R.aload_n dL_law_2389 rfl (by first | rfl | exact rfv_rf _) ?_
    refine R.iconst (v := 0) dL_law_2390 rfl ?_
    refine R.lald (i := 0) dL_law_2391 (by decide) (by rw [F2.2.1]; show _ < mN M1 15 0; rw [hN1]; decide) ?_
    rw [show mL M2 15 0 (Int32.toNatClampNeg 0) = v.toInt64 from (congrFun (F2.2.2.2.2 15 0 (by unfold inM; omega)).2.1 0).trans (mLsL9 _ _)]
    refine R.iload dL_law_2392 rfl ?_
    refine R.i2l dL_law_2394 ?_
    refine R.lcmp dL_law_2395 ?_
    refine R.if_eq (tgt := 2401) dL_law_2396 (by decide) (fun _ => ?_) (fun c9 => absurd (lcmp_rf _) c9)
    refine R.goto (tgt := 3039) dL_law_2401 (by decide) ?_
    exact k M2 S' p' (T + 1) _ _ _ _ (h.yes c1 F hm (Fr9_L _ _) m2 F2 (Nat.le_succ T) (by omega) hR.2)
set_option maxHeartbeats 2000000 in
set_option maxRecDepth 8000 in
theorem lk_addGoods {d n p T : Nat} {M0 M : Mem} {S : KS} {r : Rr} {x1 x2 : Int32} {u6 u7 u8 u9 : Value} {Q : Out → Mem → Prop} (h : LW M0 M S p T n) (hlen : 6 * n + 6 ≤ mN M0 27 0) (hb9 : n < 512) (hx1 : x1 = mI M0 27 0 (6 * n + 1)) (hx2 : x2 = mI M0 27 0 (6 * n + 2)) (hxc : WPc (d + 20) mX12_addGoods [.ref (rf 10 0), .int x1, .int x2] M (OU9 M r)) (hR : RO [eI, eA, eS] S p r) (hmd : ∀ {M1 : Mem} {Q1 : Out → Mem → Prop}, MSt M1 S T → QMr Q1 M1 S T cdC r → WPc (d + 21) mX13_addGoods [.ref (rf 11 0), .int x1, .int x2] M1 Q1) (k : KLW d M0 n Q) : WP mL_law (d + 22) 2404 [.ref (rf 27 0), .ref (rf 10 0), .ref (rf 11 0), .ref (rf 15 0), .ref (rf 16 0), .int (nI (6 * n)), u6, u7, u8, u9] [] M Q := by
  have hE : ∀ E, r = .inl E → E = eI ∨ E = eA ∨ E = eS := fun E e => by
    rw [e] at hR
    have hR : E ∈ [eI, eA, eS] := hR
    simp only [List.mem_cons, List.mem_nil_iff, or_false] at hR
    exact hR
  cases r with
  | inl E =>
    refine R.aload_n dL_law_2404 rfl (by first | rfl | exact rfv_rf _) ?_
    refine R.aload_n dL_law_2405 rfl (by first | rfl | exact rfv_rf _) ?_
    refine R.iload dL_law_2406 rfl ?_
    refine R.iconst (v := nI 1) dL_law_2408 rfl ?_
    refine R.iadd dL_law_2409 ?_
    rw [nI_add9]
    refine R.scrIald dL_law_2410 (nI_pos (by omega)) (by rw [nI_clamp (by omega)]; show _ < mN _ 27 0; rw [h.l27]; omega) ?_
    rw [h.x27, nI_clamp (by omega), ← hx1]
    refine R.aload_n dL_law_2411 rfl (by first | rfl | exact rfv_rf _) ?_
    refine R.iload dL_law_2412 rfl ?_
    refine R.iconst (v := nI 2) dL_law_2414 rfl ?_
    refine R.iadd dL_law_2415 ?_
    rw [nI_add9]
    refine R.scrIald dL_law_2416 (nI_pos (by omega)) (by rw [nI_clamp (by omega)]; show _ < mN _ 27 0; rw [h.l27]; omega) ?_
    rw [h.x27, nI_clamp (by omega), ← hx2]
    refine R.aload_n dL_law_2417 rfl (by first | rfl | exact rfv_rf _) ?_
    refine cl_L_323 rfl rfl (by first | exact Nat.le_of_ble_eq_true rfl | simp [rf_cat, Value.category]) dL_law_2418 ?_
    refine h_addGoods hxc h.n15 hE ?_
    show WP _ _ _ _ _ _ _
    refine R.istore dL_law_2421 (Nat.le_of_ble_eq_true rfl) (by decide) (by first | rfl | simp [lft, rf_cat]) rfl ?_
    refine R.aload_n dL_law_2423 rfl (by first | rfl | exact rfv_rf _) ?_
    refine R.aload_n dL_law_2424 rfl (by first | rfl | exact rfv_rf _) ?_
    refine R.iload dL_law_2425 rfl ?_
    refine R.iconst (v := nI 1) dL_law_2427 rfl ?_
    refine R.iadd dL_law_2428 ?_
    rw [nI_add9]
    refine R.scrIald dL_law_2429 (nI_pos (by omega)) (by rw [nI_clamp (by omega)]; show _ < mN _ 27 0; rw [show mN (ax M) 27 0 = mN M0 27 0 from h.l27]; omega) ?_
    rw [show mI (ax M) 27 0 = mI M0 27 0 from h.x27, nI_clamp (by omega), ← hx1]
    refine R.aload_n dL_law_2430 rfl (by first | rfl | exact rfv_rf _) ?_
    refine R.iload dL_law_2431 rfl ?_
    refine R.iconst (v := nI 2) dL_law_2433 rfl ?_
    refine R.iadd dL_law_2434 ?_
    rw [nI_add9]
    refine R.scrIald dL_law_2435 (nI_pos (by omega)) (by rw [nI_clamp (by omega)]; show _ < mN _ 27 0; rw [show mN (ax M) 27 0 = mN M0 27 0 from h.l27]; omega) ?_
    rw [show mI (ax M) 27 0 = mI M0 27 0 from h.x27, nI_clamp (by omega), ← hx2]
    refine cl_L_325 rfl rfl (by first | exact Nat.le_of_ble_eq_true rfl | simp [rf_cat, Value.category]) dL_law_2436 ?_
    refine hmd h.m.ax9 ?_
    intro M2 m2 t2 F2
    refine R.istore dL_law_2439 (Nat.le_of_ble_eq_true rfl) (by decide) (by first | rfl | simp [lft, rf_cat]) rfl ?_
    refine R.aload_n dL_law_2441 rfl (by first | rfl | exact rfv_rf _) ?_
    refine cl_L_179 rfl rfl (by first | exact Nat.le_of_ble_eq_true rfl | simp [rf_cat, Value.category]) dL_law_2442 ?_
    refine n_thrown ?_
    rw [t2]
    refine R.iload dL_law_2445 rfl ?_
    refine R.icmp_eq (tgt := 2452) dL_law_2447 (by decide) (fun _ => ?_) (fun c9 => absurd (rfl) c9)
    refine R.iload dL_law_2452 rfl ?_
    refine R.if_ne (tgt := 2469) dL_law_2454 (by decide) (fun _ => ?_) (fun c9 => absurd c9 (cdC_ne E))
    refine R.goto (tgt := 3039) dL_law_2469 (by decide) ?_
    exact k M2 S p T _ _ _ _ (h.no m2 F2)
  | inr t9 =>
    obtain ⟨v, S', p'⟩ := t9
    have hR1 : kN S' = kN S := hR.1
    refine R.aload_n dL_law_2404 rfl (by first | rfl | exact rfv_rf _) ?_
    refine R.aload_n dL_law_2405 rfl (by first | rfl | exact rfv_rf _) ?_
    refine R.iload dL_law_2406 rfl ?_
    refine R.iconst (v := nI 1) dL_law_2408 rfl ?_
    refine R.iadd dL_law_2409 ?_
    rw [nI_add9]
    refine R.scrIald dL_law_2410 (nI_pos (by omega)) (by rw [nI_clamp (by omega)]; show _ < mN _ 27 0; rw [h.l27]; omega) ?_
    rw [h.x27, nI_clamp (by omega), ← hx1]
    refine R.aload_n dL_law_2411 rfl (by first | rfl | exact rfv_rf _) ?_
    refine R.iload dL_law_2412 rfl ?_
    refine R.iconst (v := nI 2) dL_law_2414 rfl ?_
    refine R.iadd dL_law_2415 ?_
    rw [nI_add9]
    refine R.scrIald dL_law_2416 (nI_pos (by omega)) (by rw [nI_clamp (by omega)]; show _ < mN _ 27 0; rw [h.l27]; omega) ?_
    rw [h.x27, nI_clamp (by omega), ← hx2]
    refine R.aload_n dL_law_2417 rfl (by first | rfl | exact rfv_rf _) ?_
    refine cl_L_323 rfl rfl (by first | exact Nat.le_of_ble_eq_true rfl | simp [rf_cat, Value.category]) dL_law_2418 ?_
    refine h_addGoods hxc h.n15 hE ?_
    intro M1 c1 F hm
    have hN1 : mN M1 15 0 = 1 := by rw [(F.1 15 0 (Or.inr (Or.inr (Or.inl rfl)))).2.2.2.2]; exact h.n15
    have m1 := (h.m.frK F).f9 (Fr9_L M1 v.toInt64)
    refine R.istore dL_law_2421 (Nat.le_of_ble_eq_true rfl) (by decide) (by first | rfl | simp [lft, rf_cat]) rfl ?_
    refine R.aload_n dL_law_2423 rfl (by first | rfl | exact rfv_rf _) ?_
    refine R.aload_n dL_law_2424 rfl (by first | rfl | exact rfv_rf _) ?_
    refine R.iload dL_law_2425 rfl ?_
    refine R.iconst (v := nI 1) dL_law_2427 rfl ?_
    refine R.iadd dL_law_2428 ?_
    rw [nI_add9]
    refine R.scrIald dL_law_2429 (nI_pos (by omega)) (by rw [nI_clamp (by omega)]; show _ < mN _ 27 0; rw [show mN (sL M1 15 0 0 v.toInt64) 27 0 = mN M0 27 0 from hm.2.2.2.1.trans h.l27]; omega) ?_
    rw [show mI (sL M1 15 0 0 v.toInt64) 27 0 = mI M0 27 0 from hm.2.2.2.2.trans h.x27, nI_clamp (by omega), ← hx1]
    refine R.aload_n dL_law_2430 rfl (by first | rfl | exact rfv_rf _) ?_
    refine R.iload dL_law_2431 rfl ?_
    refine R.iconst (v := nI 2) dL_law_2433 rfl ?_
    refine R.iadd dL_law_2434 ?_
    rw [nI_add9]
    refine R.scrIald dL_law_2435 (nI_pos (by omega)) (by rw [nI_clamp (by omega)]; show _ < mN _ 27 0; rw [show mN (sL M1 15 0 0 v.toInt64) 27 0 = mN M0 27 0 from hm.2.2.2.1.trans h.l27]; omega) ?_
    rw [show mI (sL M1 15 0 0 v.toInt64) 27 0 = mI M0 27 0 from hm.2.2.2.2.trans h.x27, nI_clamp (by omega), ← hx2]
    refine cl_L_325 rfl rfl (by first | exact Nat.le_of_ble_eq_true rfl | simp [rf_cat, Value.category]) dL_law_2436 ?_
    refine hmd m1 ?_
    intro M2 m2 t2 F2
    refine R.istore dL_law_2439 (Nat.le_of_ble_eq_true rfl) (by decide) (by first | rfl | simp [lft, rf_cat]) rfl ?_
    refine R.aload_n dL_law_2441 rfl (by first | rfl | exact rfv_rf _) ?_
    refine cl_L_179 rfl rfl (by first | exact Nat.le_of_ble_eq_true rfl | simp [rf_cat, Value.category]) dL_law_2442 ?_
    refine n_thrown ?_
    rw [t2]
    refine R.iload dL_law_2445 rfl ?_
    refine R.icmp_eq (tgt := 2452) dL_law_2447 (by decide) (fun _ => ?_) (fun c9 => absurd (rfl) c9)
    refine R.iload dL_law_2452 rfl ?_
    refine R.if_ne (tgt := 2469) dL_law_2454 (by decide) (fun c9 => absurd (rfl) c9) (fun _ => ?_)
    refine R.aload_n dL_law_2457 rfl (by first | rfl | exact rfv_rf _) ?_
    refine R.iconst (v := 0) dL_law_2458 rfl ?_
    refine R.lald (i := 0) dL_law_2459 (by decide) (by rw [F2.2.1]; show _ < mN M1 15 0; rw [hN1]; decide) ?_
    rw [show mL M2 15 0 (Int32.toNatClampNeg 0) = v.toInt64 from (congrFun (F2.2.2.2.2 15 0 (by unfold inM; omega)).2.1 0).trans (mLsL9 _ _)]
    refine R.iload dL_law_2460 rfl ?_
    refine R.i2l dL_law_2462 ?_
    refine R.lcmp dL_law_2463 ?_
    refine R.if_eq (tgt := 2469) dL_law_2464 (by decide) (fun _ => ?_) (fun c9 => absurd (lcmp_rf _) c9)
    refine R.goto (tgt := 3039) dL_law_2469 (by decide) ?_
    exact k M2 S' p' (T + 1) _ _ _ _ (h.yes c1 F hm (Fr9_L _ _) m2 F2 (Nat.le_succ T) (by omega) hR.2)
set_option maxHeartbeats 2000000 in
set_option maxRecDepth 8000 in
theorem lk_removeGoods {d n p T : Nat} {M0 M : Mem} {S : KS} {r : Rr} {x1 x2 : Int32} {u6 u7 u8 u9 : Value} {Q : Out → Mem → Prop} (h : LW M0 M S p T n) (hlen : 6 * n + 6 ≤ mN M0 27 0) (hb9 : n < 512) (hx1 : x1 = mI M0 27 0 (6 * n + 1)) (hx2 : x2 = mI M0 27 0 (6 * n + 2)) (hxc : WPc (d + 20) mX12_removeGoods [.ref (rf 10 0), .int x1, .int x2] M (OU9 M r)) (hR : RO [eI, eA, eS] S p r) (hmd : ∀ {M1 : Mem} {Q1 : Out → Mem → Prop}, MSt M1 S T → QMr Q1 M1 S T cdC r → WPc (d + 21) mX13_removeGoods [.ref (rf 11 0), .int x1, .int x2] M1 Q1) (k : KLW d M0 n Q) : WP mL_law (d + 22) 2472 [.ref (rf 27 0), .ref (rf 10 0), .ref (rf 11 0), .ref (rf 15 0), .ref (rf 16 0), .int (nI (6 * n)), u6, u7, u8, u9] [] M Q := by
  have hE : ∀ E, r = .inl E → E = eI ∨ E = eA ∨ E = eS := fun E e => by
    rw [e] at hR
    have hR : E ∈ [eI, eA, eS] := hR
    simp only [List.mem_cons, List.mem_nil_iff, or_false] at hR
    exact hR
  cases r with
  | inl E =>
    refine R.aload_n dL_law_2472 rfl (by first | rfl | exact rfv_rf _) ?_
    refine R.aload_n dL_law_2473 rfl (by first | rfl | exact rfv_rf _) ?_
    refine R.iload dL_law_2474 rfl ?_
    refine R.iconst (v := nI 1) dL_law_2476 rfl ?_
    refine R.iadd dL_law_2477 ?_
    rw [nI_add9]
    refine R.scrIald dL_law_2478 (nI_pos (by omega)) (by rw [nI_clamp (by omega)]; show _ < mN _ 27 0; rw [h.l27]; omega) ?_
    rw [h.x27, nI_clamp (by omega), ← hx1]
    refine R.aload_n dL_law_2479 rfl (by first | rfl | exact rfv_rf _) ?_
    refine R.iload dL_law_2480 rfl ?_
    refine R.iconst (v := nI 2) dL_law_2482 rfl ?_
    refine R.iadd dL_law_2483 ?_
    rw [nI_add9]
    refine R.scrIald dL_law_2484 (nI_pos (by omega)) (by rw [nI_clamp (by omega)]; show _ < mN _ 27 0; rw [h.l27]; omega) ?_
    rw [h.x27, nI_clamp (by omega), ← hx2]
    refine R.aload_n dL_law_2485 rfl (by first | rfl | exact rfv_rf _) ?_
    refine cl_L_326 rfl rfl (by first | exact Nat.le_of_ble_eq_true rfl | simp [rf_cat, Value.category]) dL_law_2486 ?_
    refine h_removeGoods hxc h.n15 hE ?_
    show WP _ _ _ _ _ _ _
    refine R.istore dL_law_2489 (Nat.le_of_ble_eq_true rfl) (by decide) (by first | rfl | simp [lft, rf_cat]) rfl ?_
    refine R.aload_n dL_law_2491 rfl (by first | rfl | exact rfv_rf _) ?_
    refine R.aload_n dL_law_2492 rfl (by first | rfl | exact rfv_rf _) ?_
    refine R.iload dL_law_2493 rfl ?_
    refine R.iconst (v := nI 1) dL_law_2495 rfl ?_
    refine R.iadd dL_law_2496 ?_
    rw [nI_add9]
    refine R.scrIald dL_law_2497 (nI_pos (by omega)) (by rw [nI_clamp (by omega)]; show _ < mN _ 27 0; rw [show mN (ax M) 27 0 = mN M0 27 0 from h.l27]; omega) ?_
    rw [show mI (ax M) 27 0 = mI M0 27 0 from h.x27, nI_clamp (by omega), ← hx1]
    refine R.aload_n dL_law_2498 rfl (by first | rfl | exact rfv_rf _) ?_
    refine R.iload dL_law_2499 rfl ?_
    refine R.iconst (v := nI 2) dL_law_2501 rfl ?_
    refine R.iadd dL_law_2502 ?_
    rw [nI_add9]
    refine R.scrIald dL_law_2503 (nI_pos (by omega)) (by rw [nI_clamp (by omega)]; show _ < mN _ 27 0; rw [show mN (ax M) 27 0 = mN M0 27 0 from h.l27]; omega) ?_
    rw [show mI (ax M) 27 0 = mI M0 27 0 from h.x27, nI_clamp (by omega), ← hx2]
    refine cl_L_328 rfl rfl (by first | exact Nat.le_of_ble_eq_true rfl | simp [rf_cat, Value.category]) dL_law_2504 ?_
    refine hmd h.m.ax9 ?_
    intro M2 m2 t2 F2
    refine R.istore dL_law_2507 (Nat.le_of_ble_eq_true rfl) (by decide) (by first | rfl | simp [lft, rf_cat]) rfl ?_
    refine R.aload_n dL_law_2509 rfl (by first | rfl | exact rfv_rf _) ?_
    refine cl_L_179 rfl rfl (by first | exact Nat.le_of_ble_eq_true rfl | simp [rf_cat, Value.category]) dL_law_2510 ?_
    refine n_thrown ?_
    rw [t2]
    refine R.iload dL_law_2513 rfl ?_
    refine R.icmp_eq (tgt := 2520) dL_law_2515 (by decide) (fun _ => ?_) (fun c9 => absurd (rfl) c9)
    refine R.iload dL_law_2520 rfl ?_
    refine R.if_ne (tgt := 2537) dL_law_2522 (by decide) (fun _ => ?_) (fun c9 => absurd c9 (cdC_ne E))
    refine R.goto (tgt := 3039) dL_law_2537 (by decide) ?_
    exact k M2 S p T _ _ _ _ (h.no m2 F2)
  | inr t9 =>
    obtain ⟨v, S', p'⟩ := t9
    have hR1 : kN S' = kN S := hR.1
    refine R.aload_n dL_law_2472 rfl (by first | rfl | exact rfv_rf _) ?_
    refine R.aload_n dL_law_2473 rfl (by first | rfl | exact rfv_rf _) ?_
    refine R.iload dL_law_2474 rfl ?_
    refine R.iconst (v := nI 1) dL_law_2476 rfl ?_
    refine R.iadd dL_law_2477 ?_
    rw [nI_add9]
    refine R.scrIald dL_law_2478 (nI_pos (by omega)) (by rw [nI_clamp (by omega)]; show _ < mN _ 27 0; rw [h.l27]; omega) ?_
    rw [h.x27, nI_clamp (by omega), ← hx1]
    refine R.aload_n dL_law_2479 rfl (by first | rfl | exact rfv_rf _) ?_
    refine R.iload dL_law_2480 rfl ?_
    refine R.iconst (v := nI 2) dL_law_2482 rfl ?_
    refine R.iadd dL_law_2483 ?_
    rw [nI_add9]
    refine R.scrIald dL_law_2484 (nI_pos (by omega)) (by rw [nI_clamp (by omega)]; show _ < mN _ 27 0; rw [h.l27]; omega) ?_
    rw [h.x27, nI_clamp (by omega), ← hx2]
    refine R.aload_n dL_law_2485 rfl (by first | rfl | exact rfv_rf _) ?_
    refine cl_L_326 rfl rfl (by first | exact Nat.le_of_ble_eq_true rfl | simp [rf_cat, Value.category]) dL_law_2486 ?_
    refine h_removeGoods hxc h.n15 hE ?_
    intro M1 c1 F hm
    have hN1 : mN M1 15 0 = 1 := by rw [(F.1 15 0 (Or.inr (Or.inr (Or.inl rfl)))).2.2.2.2]; exact h.n15
    have m1 := (h.m.frK F).f9 (Fr9_L M1 v.toInt64)
    refine R.istore dL_law_2489 (Nat.le_of_ble_eq_true rfl) (by decide) (by first | rfl | simp [lft, rf_cat]) rfl ?_
    refine R.aload_n dL_law_2491 rfl (by first | rfl | exact rfv_rf _) ?_
    refine R.aload_n dL_law_2492 rfl (by first | rfl | exact rfv_rf _) ?_
    refine R.iload dL_law_2493 rfl ?_
    refine R.iconst (v := nI 1) dL_law_2495 rfl ?_
    refine R.iadd dL_law_2496 ?_
    rw [nI_add9]
    refine R.scrIald dL_law_2497 (nI_pos (by omega)) (by rw [nI_clamp (by omega)]; show _ < mN _ 27 0; rw [show mN (sL M1 15 0 0 v.toInt64) 27 0 = mN M0 27 0 from hm.2.2.2.1.trans h.l27]; omega) ?_
    rw [show mI (sL M1 15 0 0 v.toInt64) 27 0 = mI M0 27 0 from hm.2.2.2.2.trans h.x27, nI_clamp (by omega), ← hx1]
    refine R.aload_n dL_law_2498 rfl (by first | rfl | exact rfv_rf _) ?_
    refine R.iload dL_law_2499 rfl ?_
    refine R.iconst (v := nI 2) dL_law_2501 rfl ?_
    refine R.iadd dL_law_2502 ?_
    rw [nI_add9]
    refine R.scrIald dL_law_2503 (nI_pos (by omega)) (by rw [nI_clamp (by omega)]; show _ < mN _ 27 0; rw [show mN (sL M1 15 0 0 v.toInt64) 27 0 = mN M0 27 0 from hm.2.2.2.1.trans h.l27]; omega) ?_
    rw [show mI (sL M1 15 0 0 v.toInt64) 27 0 = mI M0 27 0 from hm.2.2.2.2.trans h.x27, nI_clamp (by omega), ← hx2]
    refine cl_L_328 rfl rfl (by first | exact Nat.le_of_ble_eq_true rfl | simp [rf_cat, Value.category]) dL_law_2504 ?_
    refine hmd m1 ?_
    intro M2 m2 t2 F2
    refine R.istore dL_law_2507 (Nat.le_of_ble_eq_true rfl) (by decide) (by first | rfl | simp [lft, rf_cat]) rfl ?_
    refine R.aload_n dL_law_2509 rfl (by first | rfl | exact rfv_rf _) ?_
    refine cl_L_179 rfl rfl (by first | exact Nat.le_of_ble_eq_true rfl | simp [rf_cat, Value.category]) dL_law_2510 ?_
    refine n_thrown ?_
    rw [t2]
    refine R.iload dL_law_2513 rfl ?_
    refine R.icmp_eq (tgt := 2520) dL_law_2515 (by decide) (fun _ => ?_) (fun c9 => absurd (rfl) c9)
    refine R.iload dL_law_2520 rfl ?_
    refine R.if_ne (tgt := 2537) dL_law_2522 (by decide) (fun c9 => absurd (rfl) c9) (fun _ => ?_)
    refine R.aload_n dL_law_2525 rfl (by first | rfl | exact rfv_rf _) ?_
    refine R.iconst (v := 0) dL_law_2526 rfl ?_
    refine R.lald (i := 0) dL_law_2527 (by decide) (by rw [F2.2.1]; show _ < mN M1 15 0; rw [hN1]; decide) ?_
    rw [show mL M2 15 0 (Int32.toNatClampNeg 0) = v.toInt64 from (congrFun (F2.2.2.2.2 15 0 (by unfold inM; omega)).2.1 0).trans (mLsL9 _ _)]
    refine R.iload dL_law_2528 rfl ?_
    refine R.i2l dL_law_2530 ?_
    refine R.lcmp dL_law_2531 ?_
    refine R.if_eq (tgt := 2537) dL_law_2532 (by decide) (fun _ => ?_) (fun c9 => absurd (lcmp_rf _) c9)
    refine R.goto (tgt := 3039) dL_law_2537 (by decide) ?_
    exact k M2 S' p' (T + 1) _ _ _ _ (h.yes c1 F hm (Fr9_L _ _) m2 F2 (Nat.le_succ T) (by omega) hR.2)
set_option maxHeartbeats 2000000 in
set_option maxRecDepth 8000 in
theorem lk_moveInto {d n p T : Nat} {M0 M : Mem} {S : KS} {r : Rr} {x1 x2 : Int32} {u6 u7 u8 u9 : Value} {Q : Out → Mem → Prop} (h : LW M0 M S p T n) (hlen : 6 * n + 6 ≤ mN M0 27 0) (hb9 : n < 512) (hx1 : x1 = mI M0 27 0 (6 * n + 1)) (hx2 : x2 = mI M0 27 0 (6 * n + 2)) (hxc : WPc (d + 20) mX12_moveInto [.ref (rf 10 0), .int x1, .int x2] M (OU9 M r)) (hR : RO [eI, eS] S p r) (hmd : ∀ {M1 : Mem} {Q1 : Out → Mem → Prop}, MSt M1 S T → QMr Q1 M1 S T cdB r → WPc (d + 21) mX13_moveInto [.ref (rf 11 0), .int x1, .int x2] M1 Q1) (k : KLW d M0 n Q) : WP mL_law (d + 22) 2540 [.ref (rf 27 0), .ref (rf 10 0), .ref (rf 11 0), .ref (rf 15 0), .ref (rf 16 0), .int (nI (6 * n)), u6, u7, u8, u9] [] M Q := by
  have hE : ∀ E, r = .inl E → E = eI ∨ E = eS := fun E e => by
    rw [e] at hR
    have hR : E ∈ [eI, eS] := hR
    simp only [List.mem_cons, List.mem_nil_iff, or_false] at hR
    exact hR
  cases r with
  | inl E =>
    refine R.aload_n dL_law_2540 rfl (by first | rfl | exact rfv_rf _) ?_
    refine R.aload_n dL_law_2541 rfl (by first | rfl | exact rfv_rf _) ?_
    refine R.iload dL_law_2542 rfl ?_
    refine R.iconst (v := nI 1) dL_law_2544 rfl ?_
    refine R.iadd dL_law_2545 ?_
    rw [nI_add9]
    refine R.scrIald dL_law_2546 (nI_pos (by omega)) (by rw [nI_clamp (by omega)]; show _ < mN _ 27 0; rw [h.l27]; omega) ?_
    rw [h.x27, nI_clamp (by omega), ← hx1]
    refine R.aload_n dL_law_2547 rfl (by first | rfl | exact rfv_rf _) ?_
    refine R.iload dL_law_2548 rfl ?_
    refine R.iconst (v := nI 2) dL_law_2550 rfl ?_
    refine R.iadd dL_law_2551 ?_
    rw [nI_add9]
    refine R.scrIald dL_law_2552 (nI_pos (by omega)) (by rw [nI_clamp (by omega)]; show _ < mN _ 27 0; rw [h.l27]; omega) ?_
    rw [h.x27, nI_clamp (by omega), ← hx2]
    refine R.aload_n dL_law_2553 rfl (by first | rfl | exact rfv_rf _) ?_
    refine cl_L_329 rfl rfl (by first | exact Nat.le_of_ble_eq_true rfl | simp [rf_cat, Value.category]) dL_law_2554 ?_
    refine h_moveInto hxc h.n15 hE ?_
    show WP _ _ _ _ _ _ _
    refine R.istore dL_law_2557 (Nat.le_of_ble_eq_true rfl) (by decide) (by first | rfl | simp [lft, rf_cat]) rfl ?_
    refine R.aload_n dL_law_2559 rfl (by first | rfl | exact rfv_rf _) ?_
    refine R.aload_n dL_law_2560 rfl (by first | rfl | exact rfv_rf _) ?_
    refine R.iload dL_law_2561 rfl ?_
    refine R.iconst (v := nI 1) dL_law_2563 rfl ?_
    refine R.iadd dL_law_2564 ?_
    rw [nI_add9]
    refine R.scrIald dL_law_2565 (nI_pos (by omega)) (by rw [nI_clamp (by omega)]; show _ < mN _ 27 0; rw [show mN (ax M) 27 0 = mN M0 27 0 from h.l27]; omega) ?_
    rw [show mI (ax M) 27 0 = mI M0 27 0 from h.x27, nI_clamp (by omega), ← hx1]
    refine R.aload_n dL_law_2566 rfl (by first | rfl | exact rfv_rf _) ?_
    refine R.iload dL_law_2567 rfl ?_
    refine R.iconst (v := nI 2) dL_law_2569 rfl ?_
    refine R.iadd dL_law_2570 ?_
    rw [nI_add9]
    refine R.scrIald dL_law_2571 (nI_pos (by omega)) (by rw [nI_clamp (by omega)]; show _ < mN _ 27 0; rw [show mN (ax M) 27 0 = mN M0 27 0 from h.l27]; omega) ?_
    rw [show mI (ax M) 27 0 = mI M0 27 0 from h.x27, nI_clamp (by omega), ← hx2]
    refine cl_L_331 rfl rfl (by first | exact Nat.le_of_ble_eq_true rfl | simp [rf_cat, Value.category]) dL_law_2572 ?_
    refine hmd h.m.ax9 ?_
    intro M2 m2 t2 F2
    refine R.istore dL_law_2575 (Nat.le_of_ble_eq_true rfl) (by decide) (by first | rfl | simp [lft, rf_cat]) rfl ?_
    refine R.aload_n dL_law_2577 rfl (by first | rfl | exact rfv_rf _) ?_
    refine cl_L_179 rfl rfl (by first | exact Nat.le_of_ble_eq_true rfl | simp [rf_cat, Value.category]) dL_law_2578 ?_
    refine n_thrown ?_
    rw [t2]
    refine R.iload dL_law_2581 rfl ?_
    refine R.icmp_eq (tgt := 2588) dL_law_2583 (by decide) (fun _ => ?_) (fun c9 => absurd (rfl) c9)
    refine R.iload dL_law_2588 rfl ?_
    refine R.if_ne (tgt := 2605) dL_law_2590 (by decide) (fun _ => ?_) (fun c9 => absurd c9 (cdB_ne E))
    refine R.goto (tgt := 3039) dL_law_2605 (by decide) ?_
    exact k M2 S p T _ _ _ _ (h.no m2 F2)
  | inr t9 =>
    obtain ⟨v, S', p'⟩ := t9
    have hR1 : kN S' = kN S := hR.1
    refine R.aload_n dL_law_2540 rfl (by first | rfl | exact rfv_rf _) ?_
    refine R.aload_n dL_law_2541 rfl (by first | rfl | exact rfv_rf _) ?_
    refine R.iload dL_law_2542 rfl ?_
    refine R.iconst (v := nI 1) dL_law_2544 rfl ?_
    refine R.iadd dL_law_2545 ?_
    rw [nI_add9]
    refine R.scrIald dL_law_2546 (nI_pos (by omega)) (by rw [nI_clamp (by omega)]; show _ < mN _ 27 0; rw [h.l27]; omega) ?_
    rw [h.x27, nI_clamp (by omega), ← hx1]
    refine R.aload_n dL_law_2547 rfl (by first | rfl | exact rfv_rf _) ?_
    refine R.iload dL_law_2548 rfl ?_
    refine R.iconst (v := nI 2) dL_law_2550 rfl ?_
    refine R.iadd dL_law_2551 ?_
    rw [nI_add9]
    refine R.scrIald dL_law_2552 (nI_pos (by omega)) (by rw [nI_clamp (by omega)]; show _ < mN _ 27 0; rw [h.l27]; omega) ?_
    rw [h.x27, nI_clamp (by omega), ← hx2]
    refine R.aload_n dL_law_2553 rfl (by first | rfl | exact rfv_rf _) ?_
    refine cl_L_329 rfl rfl (by first | exact Nat.le_of_ble_eq_true rfl | simp [rf_cat, Value.category]) dL_law_2554 ?_
    refine h_moveInto hxc h.n15 hE ?_
    intro M1 c1 F hm
    have hN1 : mN M1 15 0 = 1 := by rw [(F.1 15 0 (Or.inr (Or.inr (Or.inl rfl)))).2.2.2.2]; exact h.n15
    have m1 := (h.m.frK F).f9 (Fr9_L M1 v.toInt64)
    refine R.istore dL_law_2557 (Nat.le_of_ble_eq_true rfl) (by decide) (by first | rfl | simp [lft, rf_cat]) rfl ?_
    refine R.aload_n dL_law_2559 rfl (by first | rfl | exact rfv_rf _) ?_
    refine R.aload_n dL_law_2560 rfl (by first | rfl | exact rfv_rf _) ?_
    refine R.iload dL_law_2561 rfl ?_
    refine R.iconst (v := nI 1) dL_law_2563 rfl ?_
    refine R.iadd dL_law_2564 ?_
    rw [nI_add9]
    refine R.scrIald dL_law_2565 (nI_pos (by omega)) (by rw [nI_clamp (by omega)]; show _ < mN _ 27 0; rw [show mN (sL M1 15 0 0 v.toInt64) 27 0 = mN M0 27 0 from hm.2.2.2.1.trans h.l27]; omega) ?_
    rw [show mI (sL M1 15 0 0 v.toInt64) 27 0 = mI M0 27 0 from hm.2.2.2.2.trans h.x27, nI_clamp (by omega), ← hx1]
    refine R.aload_n dL_law_2566 rfl (by first | rfl | exact rfv_rf _) ?_
    refine R.iload dL_law_2567 rfl ?_
    refine R.iconst (v := nI 2) dL_law_2569 rfl ?_
    refine R.iadd dL_law_2570 ?_
    rw [nI_add9]
    refine R.scrIald dL_law_2571 (nI_pos (by omega)) (by rw [nI_clamp (by omega)]; show _ < mN _ 27 0; rw [show mN (sL M1 15 0 0 v.toInt64) 27 0 = mN M0 27 0 from hm.2.2.2.1.trans h.l27]; omega) ?_
    rw [show mI (sL M1 15 0 0 v.toInt64) 27 0 = mI M0 27 0 from hm.2.2.2.2.trans h.x27, nI_clamp (by omega), ← hx2]
    refine cl_L_331 rfl rfl (by first | exact Nat.le_of_ble_eq_true rfl | simp [rf_cat, Value.category]) dL_law_2572 ?_
    refine hmd m1 ?_
    intro M2 m2 t2 F2
    refine R.istore dL_law_2575 (Nat.le_of_ble_eq_true rfl) (by decide) (by first | rfl | simp [lft, rf_cat]) rfl ?_
    refine R.aload_n dL_law_2577 rfl (by first | rfl | exact rfv_rf _) ?_
    refine cl_L_179 rfl rfl (by first | exact Nat.le_of_ble_eq_true rfl | simp [rf_cat, Value.category]) dL_law_2578 ?_
    refine n_thrown ?_
    rw [t2]
    refine R.iload dL_law_2581 rfl ?_
    refine R.icmp_eq (tgt := 2588) dL_law_2583 (by decide) (fun _ => ?_) (fun c9 => absurd (rfl) c9)
    refine R.iload dL_law_2588 rfl ?_
    refine R.if_ne (tgt := 2605) dL_law_2590 (by decide) (fun c9 => absurd (rfl) c9) (fun _ => ?_)
    refine R.aload_n dL_law_2593 rfl (by first | rfl | exact rfv_rf _) ?_
    refine R.iconst (v := 0) dL_law_2594 rfl ?_
    refine R.lald (i := 0) dL_law_2595 (by decide) (by rw [F2.2.1]; show _ < mN M1 15 0; rw [hN1]; decide) ?_
    rw [show mL M2 15 0 (Int32.toNatClampNeg 0) = v.toInt64 from (congrFun (F2.2.2.2.2 15 0 (by unfold inM; omega)).2.1 0).trans (mLsL9 _ _)]
    refine R.iload dL_law_2596 rfl ?_
    refine R.i2l dL_law_2598 ?_
    refine R.lcmp dL_law_2599 ?_
    refine R.if_eq (tgt := 2605) dL_law_2600 (by decide) (fun _ => ?_) (fun c9 => absurd (lcmp_rf _) c9)
    refine R.goto (tgt := 3039) dL_law_2605 (by decide) ?_
    exact k M2 S' p' (T + 1) _ _ _ _ (h.yes c1 F hm (Fr9_L _ _) m2 F2 (Nat.le_succ T) (by omega) hR.2)
set_option maxHeartbeats 2000000 in
set_option maxRecDepth 8000 in
theorem lk_takeOut {d n p T : Nat} {M0 M : Mem} {S : KS} {r : Rr} {x1 : Int32} {u6 u7 u8 u9 : Value} {Q : Out → Mem → Prop} (h : LW M0 M S p T n) (hlen : 6 * n + 6 ≤ mN M0 27 0) (hb9 : n < 512) (hx1 : x1 = mI M0 27 0 (6 * n + 1)) (hxc : WPc (d + 20) mX12_takeOut [.ref (rf 10 0), .int x1] M (OU9 M r)) (hR : RO [eI, eS] S p r) (hmd : ∀ {M1 : Mem} {Q1 : Out → Mem → Prop}, MSt M1 S T → QMr Q1 M1 S T cdB r → WPc (d + 21) mX13_takeOut [.ref (rf 11 0), .int x1] M1 Q1) (k : KLW d M0 n Q) : WP mL_law (d + 22) 2608 [.ref (rf 27 0), .ref (rf 10 0), .ref (rf 11 0), .ref (rf 15 0), .ref (rf 16 0), .int (nI (6 * n)), u6, u7, u8, u9] [] M Q := by
  have hE : ∀ E, r = .inl E → E = eI ∨ E = eS := fun E e => by
    rw [e] at hR
    have hR : E ∈ [eI, eS] := hR
    simp only [List.mem_cons, List.mem_nil_iff, or_false] at hR
    exact hR
  cases r with
  | inl E =>
    refine R.aload_n dL_law_2608 rfl (by first | rfl | exact rfv_rf _) ?_
    refine R.aload_n dL_law_2609 rfl (by first | rfl | exact rfv_rf _) ?_
    refine R.iload dL_law_2610 rfl ?_
    refine R.iconst (v := nI 1) dL_law_2612 rfl ?_
    refine R.iadd dL_law_2613 ?_
    rw [nI_add9]
    refine R.scrIald dL_law_2614 (nI_pos (by omega)) (by rw [nI_clamp (by omega)]; show _ < mN _ 27 0; rw [h.l27]; omega) ?_
    rw [h.x27, nI_clamp (by omega), ← hx1]
    refine R.aload_n dL_law_2615 rfl (by first | rfl | exact rfv_rf _) ?_
    refine cl_L_332 rfl rfl (by first | exact Nat.le_of_ble_eq_true rfl | simp [rf_cat, Value.category]) dL_law_2616 ?_
    refine h_takeOut hxc h.n15 hE ?_
    show WP _ _ _ _ _ _ _
    refine R.istore dL_law_2619 (Nat.le_of_ble_eq_true rfl) (by decide) (by first | rfl | simp [lft, rf_cat]) rfl ?_
    refine R.aload_n dL_law_2621 rfl (by first | rfl | exact rfv_rf _) ?_
    refine R.aload_n dL_law_2622 rfl (by first | rfl | exact rfv_rf _) ?_
    refine R.iload dL_law_2623 rfl ?_
    refine R.iconst (v := nI 1) dL_law_2625 rfl ?_
    refine R.iadd dL_law_2626 ?_
    rw [nI_add9]
    refine R.scrIald dL_law_2627 (nI_pos (by omega)) (by rw [nI_clamp (by omega)]; show _ < mN _ 27 0; rw [show mN (ax M) 27 0 = mN M0 27 0 from h.l27]; omega) ?_
    rw [show mI (ax M) 27 0 = mI M0 27 0 from h.x27, nI_clamp (by omega), ← hx1]
    refine cl_L_334 rfl rfl (by first | exact Nat.le_of_ble_eq_true rfl | simp [rf_cat, Value.category]) dL_law_2628 ?_
    refine hmd h.m.ax9 ?_
    intro M2 m2 t2 F2
    refine R.istore dL_law_2631 (Nat.le_of_ble_eq_true rfl) (by decide) (by first | rfl | simp [lft, rf_cat]) rfl ?_
    refine R.aload_n dL_law_2633 rfl (by first | rfl | exact rfv_rf _) ?_
    refine cl_L_179 rfl rfl (by first | exact Nat.le_of_ble_eq_true rfl | simp [rf_cat, Value.category]) dL_law_2634 ?_
    refine n_thrown ?_
    rw [t2]
    refine R.iload dL_law_2637 rfl ?_
    refine R.icmp_eq (tgt := 2644) dL_law_2639 (by decide) (fun _ => ?_) (fun c9 => absurd (rfl) c9)
    refine R.iload dL_law_2644 rfl ?_
    refine R.if_ne (tgt := 2661) dL_law_2646 (by decide) (fun _ => ?_) (fun c9 => absurd c9 (cdB_ne E))
    refine R.goto (tgt := 3039) dL_law_2661 (by decide) ?_
    exact k M2 S p T _ _ _ _ (h.no m2 F2)
  | inr t9 =>
    obtain ⟨v, S', p'⟩ := t9
    have hR1 : kN S' = kN S := hR.1
    refine R.aload_n dL_law_2608 rfl (by first | rfl | exact rfv_rf _) ?_
    refine R.aload_n dL_law_2609 rfl (by first | rfl | exact rfv_rf _) ?_
    refine R.iload dL_law_2610 rfl ?_
    refine R.iconst (v := nI 1) dL_law_2612 rfl ?_
    refine R.iadd dL_law_2613 ?_
    rw [nI_add9]
    refine R.scrIald dL_law_2614 (nI_pos (by omega)) (by rw [nI_clamp (by omega)]; show _ < mN _ 27 0; rw [h.l27]; omega) ?_
    rw [h.x27, nI_clamp (by omega), ← hx1]
    refine R.aload_n dL_law_2615 rfl (by first | rfl | exact rfv_rf _) ?_
    refine cl_L_332 rfl rfl (by first | exact Nat.le_of_ble_eq_true rfl | simp [rf_cat, Value.category]) dL_law_2616 ?_
    refine h_takeOut hxc h.n15 hE ?_
    intro M1 c1 F hm
    have hN1 : mN M1 15 0 = 1 := by rw [(F.1 15 0 (Or.inr (Or.inr (Or.inl rfl)))).2.2.2.2]; exact h.n15
    have m1 := (h.m.frK F).f9 (Fr9_L M1 v.toInt64)
    refine R.istore dL_law_2619 (Nat.le_of_ble_eq_true rfl) (by decide) (by first | rfl | simp [lft, rf_cat]) rfl ?_
    refine R.aload_n dL_law_2621 rfl (by first | rfl | exact rfv_rf _) ?_
    refine R.aload_n dL_law_2622 rfl (by first | rfl | exact rfv_rf _) ?_
    refine R.iload dL_law_2623 rfl ?_
    refine R.iconst (v := nI 1) dL_law_2625 rfl ?_
    refine R.iadd dL_law_2626 ?_
    rw [nI_add9]
    refine R.scrIald dL_law_2627 (nI_pos (by omega)) (by rw [nI_clamp (by omega)]; show _ < mN _ 27 0; rw [show mN (sL M1 15 0 0 v.toInt64) 27 0 = mN M0 27 0 from hm.2.2.2.1.trans h.l27]; omega) ?_
    rw [show mI (sL M1 15 0 0 v.toInt64) 27 0 = mI M0 27 0 from hm.2.2.2.2.trans h.x27, nI_clamp (by omega), ← hx1]
    refine cl_L_334 rfl rfl (by first | exact Nat.le_of_ble_eq_true rfl | simp [rf_cat, Value.category]) dL_law_2628 ?_
    refine hmd m1 ?_
    intro M2 m2 t2 F2
    refine R.istore dL_law_2631 (Nat.le_of_ble_eq_true rfl) (by decide) (by first | rfl | simp [lft, rf_cat]) rfl ?_
    refine R.aload_n dL_law_2633 rfl (by first | rfl | exact rfv_rf _) ?_
    refine cl_L_179 rfl rfl (by first | exact Nat.le_of_ble_eq_true rfl | simp [rf_cat, Value.category]) dL_law_2634 ?_
    refine n_thrown ?_
    rw [t2]
    refine R.iload dL_law_2637 rfl ?_
    refine R.icmp_eq (tgt := 2644) dL_law_2639 (by decide) (fun _ => ?_) (fun c9 => absurd (rfl) c9)
    refine R.iload dL_law_2644 rfl ?_
    refine R.if_ne (tgt := 2661) dL_law_2646 (by decide) (fun c9 => absurd (rfl) c9) (fun _ => ?_)
    refine R.aload_n dL_law_2649 rfl (by first | rfl | exact rfv_rf _) ?_
    refine R.iconst (v := 0) dL_law_2650 rfl ?_
    refine R.lald (i := 0) dL_law_2651 (by decide) (by rw [F2.2.1]; show _ < mN M1 15 0; rw [hN1]; decide) ?_
    rw [show mL M2 15 0 (Int32.toNatClampNeg 0) = v.toInt64 from (congrFun (F2.2.2.2.2 15 0 (by unfold inM; omega)).2.1 0).trans (mLsL9 _ _)]
    refine R.iload dL_law_2652 rfl ?_
    refine R.i2l dL_law_2654 ?_
    refine R.lcmp dL_law_2655 ?_
    refine R.if_eq (tgt := 2661) dL_law_2656 (by decide) (fun _ => ?_) (fun c9 => absurd (lcmp_rf _) c9)
    refine R.goto (tgt := 3039) dL_law_2661 (by decide) ?_
    exact k M2 S' p' (T + 1) _ _ _ _ (h.yes c1 F hm (Fr9_L _ _) m2 F2 (Nat.le_succ T) (by omega) hR.2)
set_option maxHeartbeats 2000000 in
set_option maxRecDepth 8000 in
theorem lk_sell {d n p T : Nat} {M0 M : Mem} {S : KS} {r : Rr} {x1 x2 : Int32} {u6 u7 u8 u9 : Value} {Q : Out → Mem → Prop} (h : LW M0 M S p T n) (hlen : 6 * n + 6 ≤ mN M0 27 0) (hb9 : n < 512) (hx1 : x1 = mI M0 27 0 (6 * n + 1)) (hx2 : x2 = mI M0 27 0 (6 * n + 2)) (hxc : WPc (d + 20) mX12_sell [.ref (rf 10 0), .int x1, .int x2] M (OU9 M r)) (hR : RO [eI, eS] S p r) (hmd : ∀ {M1 : Mem} {Q1 : Out → Mem → Prop}, MSt M1 S T → QMr Q1 M1 S T cdB r → WPc (d + 21) mX13_sell [.ref (rf 11 0), .int x1, .int x2] M1 Q1) (k : KLW d M0 n Q) : WP mL_law (d + 22) 2677 [.ref (rf 27 0), .ref (rf 10 0), .ref (rf 11 0), .ref (rf 15 0), .ref (rf 16 0), .int (nI (6 * n)), u6, u7, u8, u9] [] M Q := by
  have hE : ∀ E, r = .inl E → E = eI ∨ E = eS := fun E e => by
    rw [e] at hR
    have hR : E ∈ [eI, eS] := hR
    simp only [List.mem_cons, List.mem_nil_iff, or_false] at hR
    exact hR
  cases r with
  | inl E =>
    refine R.aload_n dL_law_2677 rfl (by first | rfl | exact rfv_rf _) ?_
    refine R.aload_n dL_law_2678 rfl (by first | rfl | exact rfv_rf _) ?_
    refine R.iload dL_law_2679 rfl ?_
    refine R.iconst (v := nI 1) dL_law_2681 rfl ?_
    refine R.iadd dL_law_2682 ?_
    rw [nI_add9]
    refine R.scrIald dL_law_2683 (nI_pos (by omega)) (by rw [nI_clamp (by omega)]; show _ < mN _ 27 0; rw [h.l27]; omega) ?_
    rw [h.x27, nI_clamp (by omega), ← hx1]
    refine R.aload_n dL_law_2684 rfl (by first | rfl | exact rfv_rf _) ?_
    refine R.iload dL_law_2685 rfl ?_
    refine R.iconst (v := nI 2) dL_law_2687 rfl ?_
    refine R.iadd dL_law_2688 ?_
    rw [nI_add9]
    refine R.scrIald dL_law_2689 (nI_pos (by omega)) (by rw [nI_clamp (by omega)]; show _ < mN _ 27 0; rw [h.l27]; omega) ?_
    rw [h.x27, nI_clamp (by omega), ← hx2]
    refine R.aload_n dL_law_2690 rfl (by first | rfl | exact rfv_rf _) ?_
    refine cl_L_339 rfl rfl (by first | exact Nat.le_of_ble_eq_true rfl | simp [rf_cat, Value.category]) dL_law_2691 ?_
    refine h_sell hxc h.n15 hE ?_
    show WP _ _ _ _ _ _ _
    refine R.istore dL_law_2694 (Nat.le_of_ble_eq_true rfl) (by decide) (by first | rfl | simp [lft, rf_cat]) rfl ?_
    refine R.aload_n dL_law_2696 rfl (by first | rfl | exact rfv_rf _) ?_
    refine R.aload_n dL_law_2697 rfl (by first | rfl | exact rfv_rf _) ?_
    refine R.iload dL_law_2698 rfl ?_
    refine R.iconst (v := nI 1) dL_law_2700 rfl ?_
    refine R.iadd dL_law_2701 ?_
    rw [nI_add9]
    refine R.scrIald dL_law_2702 (nI_pos (by omega)) (by rw [nI_clamp (by omega)]; show _ < mN _ 27 0; rw [show mN (ax M) 27 0 = mN M0 27 0 from h.l27]; omega) ?_
    rw [show mI (ax M) 27 0 = mI M0 27 0 from h.x27, nI_clamp (by omega), ← hx1]
    refine R.aload_n dL_law_2703 rfl (by first | rfl | exact rfv_rf _) ?_
    refine R.iload dL_law_2704 rfl ?_
    refine R.iconst (v := nI 2) dL_law_2706 rfl ?_
    refine R.iadd dL_law_2707 ?_
    rw [nI_add9]
    refine R.scrIald dL_law_2708 (nI_pos (by omega)) (by rw [nI_clamp (by omega)]; show _ < mN _ 27 0; rw [show mN (ax M) 27 0 = mN M0 27 0 from h.l27]; omega) ?_
    rw [show mI (ax M) 27 0 = mI M0 27 0 from h.x27, nI_clamp (by omega), ← hx2]
    refine cl_L_341 rfl rfl (by first | exact Nat.le_of_ble_eq_true rfl | simp [rf_cat, Value.category]) dL_law_2709 ?_
    refine hmd h.m.ax9 ?_
    intro M2 m2 t2 F2
    refine R.istore dL_law_2712 (Nat.le_of_ble_eq_true rfl) (by decide) (by first | rfl | simp [lft, rf_cat]) rfl ?_
    refine R.aload_n dL_law_2714 rfl (by first | rfl | exact rfv_rf _) ?_
    refine cl_L_179 rfl rfl (by first | exact Nat.le_of_ble_eq_true rfl | simp [rf_cat, Value.category]) dL_law_2715 ?_
    refine n_thrown ?_
    rw [t2]
    refine R.iload dL_law_2718 rfl ?_
    refine R.icmp_eq (tgt := 2725) dL_law_2720 (by decide) (fun _ => ?_) (fun c9 => absurd (rfl) c9)
    refine R.iload dL_law_2725 rfl ?_
    refine R.if_ne (tgt := 2742) dL_law_2727 (by decide) (fun _ => ?_) (fun c9 => absurd c9 (cdB_ne E))
    refine R.goto (tgt := 3039) dL_law_2742 (by decide) ?_
    exact k M2 S p T _ _ _ _ (h.no m2 F2)
  | inr t9 =>
    obtain ⟨v, S', p'⟩ := t9
    have hR1 : kN S' = kN S := hR.1
    refine R.aload_n dL_law_2677 rfl (by first | rfl | exact rfv_rf _) ?_
    refine R.aload_n dL_law_2678 rfl (by first | rfl | exact rfv_rf _) ?_
    refine R.iload dL_law_2679 rfl ?_
    refine R.iconst (v := nI 1) dL_law_2681 rfl ?_
    refine R.iadd dL_law_2682 ?_
    rw [nI_add9]
    refine R.scrIald dL_law_2683 (nI_pos (by omega)) (by rw [nI_clamp (by omega)]; show _ < mN _ 27 0; rw [h.l27]; omega) ?_
    rw [h.x27, nI_clamp (by omega), ← hx1]
    refine R.aload_n dL_law_2684 rfl (by first | rfl | exact rfv_rf _) ?_
    refine R.iload dL_law_2685 rfl ?_
    refine R.iconst (v := nI 2) dL_law_2687 rfl ?_
    refine R.iadd dL_law_2688 ?_
    rw [nI_add9]
    refine R.scrIald dL_law_2689 (nI_pos (by omega)) (by rw [nI_clamp (by omega)]; show _ < mN _ 27 0; rw [h.l27]; omega) ?_
    rw [h.x27, nI_clamp (by omega), ← hx2]
    refine R.aload_n dL_law_2690 rfl (by first | rfl | exact rfv_rf _) ?_
    refine cl_L_339 rfl rfl (by first | exact Nat.le_of_ble_eq_true rfl | simp [rf_cat, Value.category]) dL_law_2691 ?_
    refine h_sell hxc h.n15 hE ?_
    intro M1 c1 F hm
    have hN1 : mN M1 15 0 = 1 := by rw [(F.1 15 0 (Or.inr (Or.inr (Or.inl rfl)))).2.2.2.2]; exact h.n15
    have m1 := (h.m.frK F).f9 (Fr9_L M1 v.toInt64)
    refine R.istore dL_law_2694 (Nat.le_of_ble_eq_true rfl) (by decide) (by first | rfl | simp [lft, rf_cat]) rfl ?_
    refine R.aload_n dL_law_2696 rfl (by first | rfl | exact rfv_rf _) ?_
    refine R.aload_n dL_law_2697 rfl (by first | rfl | exact rfv_rf _) ?_
    refine R.iload dL_law_2698 rfl ?_
    refine R.iconst (v := nI 1) dL_law_2700 rfl ?_
    refine R.iadd dL_law_2701 ?_
    rw [nI_add9]
    refine R.scrIald dL_law_2702 (nI_pos (by omega)) (by rw [nI_clamp (by omega)]; show _ < mN _ 27 0; rw [show mN (sL M1 15 0 0 v.toInt64) 27 0 = mN M0 27 0 from hm.2.2.2.1.trans h.l27]; omega) ?_
    rw [show mI (sL M1 15 0 0 v.toInt64) 27 0 = mI M0 27 0 from hm.2.2.2.2.trans h.x27, nI_clamp (by omega), ← hx1]
    refine R.aload_n dL_law_2703 rfl (by first | rfl | exact rfv_rf _) ?_
    refine R.iload dL_law_2704 rfl ?_
    refine R.iconst (v := nI 2) dL_law_2706 rfl ?_
    refine R.iadd dL_law_2707 ?_
    rw [nI_add9]
    refine R.scrIald dL_law_2708 (nI_pos (by omega)) (by rw [nI_clamp (by omega)]; show _ < mN _ 27 0; rw [show mN (sL M1 15 0 0 v.toInt64) 27 0 = mN M0 27 0 from hm.2.2.2.1.trans h.l27]; omega) ?_
    rw [show mI (sL M1 15 0 0 v.toInt64) 27 0 = mI M0 27 0 from hm.2.2.2.2.trans h.x27, nI_clamp (by omega), ← hx2]
    refine cl_L_341 rfl rfl (by first | exact Nat.le_of_ble_eq_true rfl | simp [rf_cat, Value.category]) dL_law_2709 ?_
    refine hmd m1 ?_
    intro M2 m2 t2 F2
    refine R.istore dL_law_2712 (Nat.le_of_ble_eq_true rfl) (by decide) (by first | rfl | simp [lft, rf_cat]) rfl ?_
    refine R.aload_n dL_law_2714 rfl (by first | rfl | exact rfv_rf _) ?_
    refine cl_L_179 rfl rfl (by first | exact Nat.le_of_ble_eq_true rfl | simp [rf_cat, Value.category]) dL_law_2715 ?_
    refine n_thrown ?_
    rw [t2]
    refine R.iload dL_law_2718 rfl ?_
    refine R.icmp_eq (tgt := 2725) dL_law_2720 (by decide) (fun _ => ?_) (fun c9 => absurd (rfl) c9)
    refine R.iload dL_law_2725 rfl ?_
    refine R.if_ne (tgt := 2742) dL_law_2727 (by decide) (fun c9 => absurd (rfl) c9) (fun _ => ?_)
    refine R.aload_n dL_law_2730 rfl (by first | rfl | exact rfv_rf _) ?_
    refine R.iconst (v := 0) dL_law_2731 rfl ?_
    refine R.lald (i := 0) dL_law_2732 (by decide) (by rw [F2.2.1]; show _ < mN M1 15 0; rw [hN1]; decide) ?_
    rw [show mL M2 15 0 (Int32.toNatClampNeg 0) = v.toInt64 from (congrFun (F2.2.2.2.2 15 0 (by unfold inM; omega)).2.1 0).trans (mLsL9 _ _)]
    refine R.iload dL_law_2733 rfl ?_
    refine R.i2l dL_law_2735 ?_
    refine R.lcmp dL_law_2736 ?_
    refine R.if_eq (tgt := 2742) dL_law_2737 (by decide) (fun _ => ?_) (fun c9 => absurd (lcmp_rf _) c9)
    refine R.goto (tgt := 3039) dL_law_2742 (by decide) ?_
    exact k M2 S' p' (T + 1) _ _ _ _ (h.yes c1 F hm (Fr9_L _ _) m2 F2 (Nat.le_succ T) (by omega) hR.2)
set_option maxHeartbeats 2000000 in
set_option maxRecDepth 8000 in
theorem lk_setAmplitude {d n p T : Nat} {M0 M : Mem} {S : KS} {r : Rr} {x1 : Int32} {u6 u7 u8 u9 : Value} {Q : Out → Mem → Prop} (h : LW M0 M S p T n) (hlen : 6 * n + 6 ≤ mN M0 27 0) (hb9 : n < 512) (hx1 : x1 = mI M0 27 0 (6 * n + 1)) (hxc : WPc (d + 20) mX12_setAmplitude [.ref (rf 10 0), .int x1] M (OU9 M r)) (hR : RO [eA] S p r) (hmd : ∀ {M1 : Mem} {Q1 : Out → Mem → Prop}, MSt M1 S T → QMr Q1 M1 S T cdA r → WPc (d + 21) mX13_setAmplitude [.ref (rf 11 0), .int x1] M1 Q1) (k : KLW d M0 n Q) : WP mL_law (d + 22) 2745 [.ref (rf 27 0), .ref (rf 10 0), .ref (rf 11 0), .ref (rf 15 0), .ref (rf 16 0), .int (nI (6 * n)), u6, u7, u8, u9] [] M Q := by
  have hE : ∀ E, r = .inl E → E = eA := fun E e => by
    rw [e] at hR
    have hR : E ∈ [eA] := hR
    simp only [List.mem_cons, List.mem_nil_iff, or_false] at hR
    exact hR
  cases r with
  | inl E =>
    refine R.aload_n dL_law_2745 rfl (by first | rfl | exact rfv_rf _) ?_
    refine R.aload_n dL_law_2746 rfl (by first | rfl | exact rfv_rf _) ?_
    refine R.iload dL_law_2747 rfl ?_
    refine R.iconst (v := nI 1) dL_law_2749 rfl ?_
    refine R.iadd dL_law_2750 ?_
    rw [nI_add9]
    refine R.scrIald dL_law_2751 (nI_pos (by omega)) (by rw [nI_clamp (by omega)]; show _ < mN _ 27 0; rw [h.l27]; omega) ?_
    rw [h.x27, nI_clamp (by omega), ← hx1]
    refine R.aload_n dL_law_2752 rfl (by first | rfl | exact rfv_rf _) ?_
    refine cl_L_342 rfl rfl (by first | exact Nat.le_of_ble_eq_true rfl | simp [rf_cat, Value.category]) dL_law_2753 ?_
    refine h_setAmplitude hxc h.n15 hE ?_
    show WP _ _ _ _ _ _ _
    refine R.istore dL_law_2756 (Nat.le_of_ble_eq_true rfl) (by decide) (by first | rfl | simp [lft, rf_cat]) rfl ?_
    refine R.aload_n dL_law_2758 rfl (by first | rfl | exact rfv_rf _) ?_
    refine R.aload_n dL_law_2759 rfl (by first | rfl | exact rfv_rf _) ?_
    refine R.iload dL_law_2760 rfl ?_
    refine R.iconst (v := nI 1) dL_law_2762 rfl ?_
    refine R.iadd dL_law_2763 ?_
    rw [nI_add9]
    refine R.scrIald dL_law_2764 (nI_pos (by omega)) (by rw [nI_clamp (by omega)]; show _ < mN _ 27 0; rw [show mN (ax M) 27 0 = mN M0 27 0 from h.l27]; omega) ?_
    rw [show mI (ax M) 27 0 = mI M0 27 0 from h.x27, nI_clamp (by omega), ← hx1]
    refine cl_L_344 rfl rfl (by first | exact Nat.le_of_ble_eq_true rfl | simp [rf_cat, Value.category]) dL_law_2765 ?_
    refine hmd h.m.ax9 ?_
    intro M2 m2 t2 F2
    refine R.istore dL_law_2768 (Nat.le_of_ble_eq_true rfl) (by decide) (by first | rfl | simp [lft, rf_cat]) rfl ?_
    refine R.aload_n dL_law_2770 rfl (by first | rfl | exact rfv_rf _) ?_
    refine cl_L_179 rfl rfl (by first | exact Nat.le_of_ble_eq_true rfl | simp [rf_cat, Value.category]) dL_law_2771 ?_
    refine n_thrown ?_
    rw [t2]
    refine R.iload dL_law_2774 rfl ?_
    refine R.icmp_eq (tgt := 2781) dL_law_2776 (by decide) (fun _ => ?_) (fun c9 => absurd (rfl) c9)
    refine R.iload dL_law_2781 rfl ?_
    refine R.if_ne (tgt := 2798) dL_law_2783 (by decide) (fun _ => ?_) (fun c9 => absurd c9 (cdA_ne E))
    refine R.goto (tgt := 3039) dL_law_2798 (by decide) ?_
    exact k M2 S p T _ _ _ _ (h.no m2 F2)
  | inr t9 =>
    obtain ⟨v, S', p'⟩ := t9
    have hR1 : kN S' = kN S := hR.1
    refine R.aload_n dL_law_2745 rfl (by first | rfl | exact rfv_rf _) ?_
    refine R.aload_n dL_law_2746 rfl (by first | rfl | exact rfv_rf _) ?_
    refine R.iload dL_law_2747 rfl ?_
    refine R.iconst (v := nI 1) dL_law_2749 rfl ?_
    refine R.iadd dL_law_2750 ?_
    rw [nI_add9]
    refine R.scrIald dL_law_2751 (nI_pos (by omega)) (by rw [nI_clamp (by omega)]; show _ < mN _ 27 0; rw [h.l27]; omega) ?_
    rw [h.x27, nI_clamp (by omega), ← hx1]
    refine R.aload_n dL_law_2752 rfl (by first | rfl | exact rfv_rf _) ?_
    refine cl_L_342 rfl rfl (by first | exact Nat.le_of_ble_eq_true rfl | simp [rf_cat, Value.category]) dL_law_2753 ?_
    refine h_setAmplitude hxc h.n15 hE ?_
    intro M1 c1 F hm
    have hN1 : mN M1 15 0 = 1 := by rw [(F.1 15 0 (Or.inr (Or.inr (Or.inl rfl)))).2.2.2.2]; exact h.n15
    have m1 := (h.m.frK F).f9 (Fr9_L M1 v.toInt64)
    refine R.istore dL_law_2756 (Nat.le_of_ble_eq_true rfl) (by decide) (by first | rfl | simp [lft, rf_cat]) rfl ?_
    refine R.aload_n dL_law_2758 rfl (by first | rfl | exact rfv_rf _) ?_
    refine R.aload_n dL_law_2759 rfl (by first | rfl | exact rfv_rf _) ?_
    refine R.iload dL_law_2760 rfl ?_
    refine R.iconst (v := nI 1) dL_law_2762 rfl ?_
    refine R.iadd dL_law_2763 ?_
    rw [nI_add9]
    refine R.scrIald dL_law_2764 (nI_pos (by omega)) (by rw [nI_clamp (by omega)]; show _ < mN _ 27 0; rw [show mN (sL M1 15 0 0 v.toInt64) 27 0 = mN M0 27 0 from hm.2.2.2.1.trans h.l27]; omega) ?_
    rw [show mI (sL M1 15 0 0 v.toInt64) 27 0 = mI M0 27 0 from hm.2.2.2.2.trans h.x27, nI_clamp (by omega), ← hx1]
    refine cl_L_344 rfl rfl (by first | exact Nat.le_of_ble_eq_true rfl | simp [rf_cat, Value.category]) dL_law_2765 ?_
    refine hmd m1 ?_
    intro M2 m2 t2 F2
    refine R.istore dL_law_2768 (Nat.le_of_ble_eq_true rfl) (by decide) (by first | rfl | simp [lft, rf_cat]) rfl ?_
    refine R.aload_n dL_law_2770 rfl (by first | rfl | exact rfv_rf _) ?_
    refine cl_L_179 rfl rfl (by first | exact Nat.le_of_ble_eq_true rfl | simp [rf_cat, Value.category]) dL_law_2771 ?_
    refine n_thrown ?_
    rw [t2]
    refine R.iload dL_law_2774 rfl ?_
    refine R.icmp_eq (tgt := 2781) dL_law_2776 (by decide) (fun _ => ?_) (fun c9 => absurd (rfl) c9)
    refine R.iload dL_law_2781 rfl ?_
    refine R.if_ne (tgt := 2798) dL_law_2783 (by decide) (fun c9 => absurd (rfl) c9) (fun _ => ?_)
    refine R.aload_n dL_law_2786 rfl (by first | rfl | exact rfv_rf _) ?_
    refine R.iconst (v := 0) dL_law_2787 rfl ?_
    refine R.lald (i := 0) dL_law_2788 (by decide) (by rw [F2.2.1]; show _ < mN M1 15 0; rw [hN1]; decide) ?_
    rw [show mL M2 15 0 (Int32.toNatClampNeg 0) = v.toInt64 from (congrFun (F2.2.2.2.2 15 0 (by unfold inM; omega)).2.1 0).trans (mLsL9 _ _)]
    refine R.iload dL_law_2789 rfl ?_
    refine R.i2l dL_law_2791 ?_
    refine R.lcmp dL_law_2792 ?_
    refine R.if_eq (tgt := 2798) dL_law_2793 (by decide) (fun _ => ?_) (fun c9 => absurd (lcmp_rf _) c9)
    refine R.goto (tgt := 3039) dL_law_2798 (by decide) ?_
    exact k M2 S' p' (T + 1) _ _ _ _ (h.yes c1 F hm (Fr9_L _ _) m2 F2 (Nat.le_succ T) (by omega) hR.2)
set_option maxHeartbeats 2000000 in
set_option maxRecDepth 8000 in
theorem lk_setAging {d n p T : Nat} {M0 M : Mem} {S : KS} {r : Rr} {x1 : Int32} {u6 u7 u8 u9 : Value} {Q : Out → Mem → Prop} (h : LW M0 M S p T n) (hlen : 6 * n + 6 ≤ mN M0 27 0) (hb9 : n < 512) (hx1 : x1 = mI M0 27 0 (6 * n + 1)) (hxc : WPc (d + 20) mX12_setAging [.ref (rf 10 0), .int x1] M (OU9 M r)) (hR : RO [eA] S p r) (hmd : ∀ {M1 : Mem} {Q1 : Out → Mem → Prop}, MSt M1 S T → QMr Q1 M1 S T cdA r → WPc (d + 21) mX13_setAging [.ref (rf 11 0), .int x1] M1 Q1) (k : KLW d M0 n Q) : WP mL_law (d + 22) 2801 [.ref (rf 27 0), .ref (rf 10 0), .ref (rf 11 0), .ref (rf 15 0), .ref (rf 16 0), .int (nI (6 * n)), u6, u7, u8, u9] [] M Q := by
  have hE : ∀ E, r = .inl E → E = eA := fun E e => by
    rw [e] at hR
    have hR : E ∈ [eA] := hR
    simp only [List.mem_cons, List.mem_nil_iff, or_false] at hR
    exact hR
  cases r with
  | inl E =>
    refine R.aload_n dL_law_2801 rfl (by first | rfl | exact rfv_rf _) ?_
    refine R.aload_n dL_law_2802 rfl (by first | rfl | exact rfv_rf _) ?_
    refine R.iload dL_law_2803 rfl ?_
    refine R.iconst (v := nI 1) dL_law_2805 rfl ?_
    refine R.iadd dL_law_2806 ?_
    rw [nI_add9]
    refine R.scrIald dL_law_2807 (nI_pos (by omega)) (by rw [nI_clamp (by omega)]; show _ < mN _ 27 0; rw [h.l27]; omega) ?_
    rw [h.x27, nI_clamp (by omega), ← hx1]
    refine R.aload_n dL_law_2808 rfl (by first | rfl | exact rfv_rf _) ?_
    refine cl_L_345 rfl rfl (by first | exact Nat.le_of_ble_eq_true rfl | simp [rf_cat, Value.category]) dL_law_2809 ?_
    refine h_setAging hxc h.n15 hE ?_
    show WP _ _ _ _ _ _ _
    refine R.istore dL_law_2812 (Nat.le_of_ble_eq_true rfl) (by decide) (by first | rfl | simp [lft, rf_cat]) rfl ?_
    refine R.aload_n dL_law_2814 rfl (by first | rfl | exact rfv_rf _) ?_
    refine R.aload_n dL_law_2815 rfl (by first | rfl | exact rfv_rf _) ?_
    refine R.iload dL_law_2816 rfl ?_
    refine R.iconst (v := nI 1) dL_law_2818 rfl ?_
    refine R.iadd dL_law_2819 ?_
    rw [nI_add9]
    refine R.scrIald dL_law_2820 (nI_pos (by omega)) (by rw [nI_clamp (by omega)]; show _ < mN _ 27 0; rw [show mN (ax M) 27 0 = mN M0 27 0 from h.l27]; omega) ?_
    rw [show mI (ax M) 27 0 = mI M0 27 0 from h.x27, nI_clamp (by omega), ← hx1]
    refine cl_L_347 rfl rfl (by first | exact Nat.le_of_ble_eq_true rfl | simp [rf_cat, Value.category]) dL_law_2821 ?_
    refine hmd h.m.ax9 ?_
    intro M2 m2 t2 F2
    refine R.istore dL_law_2824 (Nat.le_of_ble_eq_true rfl) (by decide) (by first | rfl | simp [lft, rf_cat]) rfl ?_
    refine R.aload_n dL_law_2826 rfl (by first | rfl | exact rfv_rf _) ?_
    refine cl_L_179 rfl rfl (by first | exact Nat.le_of_ble_eq_true rfl | simp [rf_cat, Value.category]) dL_law_2827 ?_
    refine n_thrown ?_
    rw [t2]
    refine R.iload dL_law_2830 rfl ?_
    refine R.icmp_eq (tgt := 2837) dL_law_2832 (by decide) (fun _ => ?_) (fun c9 => absurd (rfl) c9)
    refine R.iload dL_law_2837 rfl ?_
    refine R.if_ne (tgt := 2854) dL_law_2839 (by decide) (fun _ => ?_) (fun c9 => absurd c9 (cdA_ne E))
    refine R.goto (tgt := 3039) dL_law_2854 (by decide) ?_
    exact k M2 S p T _ _ _ _ (h.no m2 F2)
  | inr t9 =>
    obtain ⟨v, S', p'⟩ := t9
    have hR1 : kN S' = kN S := hR.1
    refine R.aload_n dL_law_2801 rfl (by first | rfl | exact rfv_rf _) ?_
    refine R.aload_n dL_law_2802 rfl (by first | rfl | exact rfv_rf _) ?_
    refine R.iload dL_law_2803 rfl ?_
    refine R.iconst (v := nI 1) dL_law_2805 rfl ?_
    refine R.iadd dL_law_2806 ?_
    rw [nI_add9]
    refine R.scrIald dL_law_2807 (nI_pos (by omega)) (by rw [nI_clamp (by omega)]; show _ < mN _ 27 0; rw [h.l27]; omega) ?_
    rw [h.x27, nI_clamp (by omega), ← hx1]
    refine R.aload_n dL_law_2808 rfl (by first | rfl | exact rfv_rf _) ?_
    refine cl_L_345 rfl rfl (by first | exact Nat.le_of_ble_eq_true rfl | simp [rf_cat, Value.category]) dL_law_2809 ?_
    refine h_setAging hxc h.n15 hE ?_
    intro M1 c1 F hm
    have hN1 : mN M1 15 0 = 1 := by rw [(F.1 15 0 (Or.inr (Or.inr (Or.inl rfl)))).2.2.2.2]; exact h.n15
    have m1 := (h.m.frK F).f9 (Fr9_L M1 v.toInt64)
    refine R.istore dL_law_2812 (Nat.le_of_ble_eq_true rfl) (by decide) (by first | rfl | simp [lft, rf_cat]) rfl ?_
    refine R.aload_n dL_law_2814 rfl (by first | rfl | exact rfv_rf _) ?_
    refine R.aload_n dL_law_2815 rfl (by first | rfl | exact rfv_rf _) ?_
    refine R.iload dL_law_2816 rfl ?_
    refine R.iconst (v := nI 1) dL_law_2818 rfl ?_
    refine R.iadd dL_law_2819 ?_
    rw [nI_add9]
    refine R.scrIald dL_law_2820 (nI_pos (by omega)) (by rw [nI_clamp (by omega)]; show _ < mN _ 27 0; rw [show mN (sL M1 15 0 0 v.toInt64) 27 0 = mN M0 27 0 from hm.2.2.2.1.trans h.l27]; omega) ?_
    rw [show mI (sL M1 15 0 0 v.toInt64) 27 0 = mI M0 27 0 from hm.2.2.2.2.trans h.x27, nI_clamp (by omega), ← hx1]
    refine cl_L_347 rfl rfl (by first | exact Nat.le_of_ble_eq_true rfl | simp [rf_cat, Value.category]) dL_law_2821 ?_
    refine hmd m1 ?_
    intro M2 m2 t2 F2
    refine R.istore dL_law_2824 (Nat.le_of_ble_eq_true rfl) (by decide) (by first | rfl | simp [lft, rf_cat]) rfl ?_
    refine R.aload_n dL_law_2826 rfl (by first | rfl | exact rfv_rf _) ?_
    refine cl_L_179 rfl rfl (by first | exact Nat.le_of_ble_eq_true rfl | simp [rf_cat, Value.category]) dL_law_2827 ?_
    refine n_thrown ?_
    rw [t2]
    refine R.iload dL_law_2830 rfl ?_
    refine R.icmp_eq (tgt := 2837) dL_law_2832 (by decide) (fun _ => ?_) (fun c9 => absurd (rfl) c9)
    refine R.iload dL_law_2837 rfl ?_
    refine R.if_ne (tgt := 2854) dL_law_2839 (by decide) (fun c9 => absurd (rfl) c9) (fun _ => ?_)
    refine R.aload_n dL_law_2842 rfl (by first | rfl | exact rfv_rf _) ?_
    refine R.iconst (v := 0) dL_law_2843 rfl ?_
    refine R.lald (i := 0) dL_law_2844 (by decide) (by rw [F2.2.1]; show _ < mN M1 15 0; rw [hN1]; decide) ?_
    rw [show mL M2 15 0 (Int32.toNatClampNeg 0) = v.toInt64 from (congrFun (F2.2.2.2.2 15 0 (by unfold inM; omega)).2.1 0).trans (mLsL9 _ _)]
    refine R.iload dL_law_2845 rfl ?_
    refine R.i2l dL_law_2847 ?_
    refine R.lcmp dL_law_2848 ?_
    refine R.if_eq (tgt := 2854) dL_law_2849 (by decide) (fun _ => ?_) (fun c9 => absurd (lcmp_rf _) c9)
    refine R.goto (tgt := 3039) dL_law_2854 (by decide) ?_
    exact k M2 S' p' (T + 1) _ _ _ _ (h.yes c1 F hm (Fr9_L _ _) m2 F2 (Nat.le_succ T) (by omega) hR.2)
set_option maxHeartbeats 2000000 in
set_option maxRecDepth 8000 in
theorem lk_undo {d n p T : Nat} {M0 M : Mem} {S : KS} {r : Rr} {u6 u7 u8 u9 : Value} {Q : Out → Mem → Prop} (h : LW M0 M S p T n) (hlen : 6 * n + 6 ≤ mN M0 27 0) (hb9 : n < 512) (hxc : WPc (d + 20) mX12_undo [.ref (rf 10 0)] M (OU9 M r)) (hR : RO [eN] S p r) (hmd : ∀ {M1 : Mem} {Q1 : Out → Mem → Prop}, MSt M1 S T → QMr Q1 M1 S T cdA r → WPc (d + 21) mX13_undo [.ref (rf 11 0)] M1 Q1) (k : KLW d M0 n Q) : WP mL_law (d + 22) 2857 [.ref (rf 27 0), .ref (rf 10 0), .ref (rf 11 0), .ref (rf 15 0), .ref (rf 16 0), .int (nI (6 * n)), u6, u7, u8, u9] [] M Q := by
  have hE : ∀ E, r = .inl E → E = eN := fun E e => by
    rw [e] at hR
    have hR : E ∈ [eN] := hR
    simp only [List.mem_cons, List.mem_nil_iff, or_false] at hR
    exact hR
  cases r with
  | inl E =>
    refine R.aload_n dL_law_2857 rfl (by first | rfl | exact rfv_rf _) ?_
    refine R.aload_n dL_law_2858 rfl (by first | rfl | exact rfv_rf _) ?_
    refine cl_L_348 rfl rfl (by first | exact Nat.le_of_ble_eq_true rfl | simp [rf_cat, Value.category]) dL_law_2859 ?_
    refine h_undo hxc h.n15 hE ?_
    show WP _ _ _ _ _ _ _
    refine R.istore dL_law_2862 (Nat.le_of_ble_eq_true rfl) (by decide) (by first | rfl | simp [lft, rf_cat]) rfl ?_
    refine R.aload_n dL_law_2864 rfl (by first | rfl | exact rfv_rf _) ?_
    refine cl_L_351 rfl rfl (by first | exact Nat.le_of_ble_eq_true rfl | simp [rf_cat, Value.category]) dL_law_2865 ?_
    refine hmd h.m.ax9 ?_
    intro M2 m2 t2 F2
    refine R.istore dL_law_2868 (Nat.le_of_ble_eq_true rfl) (by decide) (by first | rfl | simp [lft, rf_cat]) rfl ?_
    refine R.aload_n dL_law_2870 rfl (by first | rfl | exact rfv_rf _) ?_
    refine cl_L_179 rfl rfl (by first | exact Nat.le_of_ble_eq_true rfl | simp [rf_cat, Value.category]) dL_law_2871 ?_
    refine n_thrown ?_
    rw [t2]
    refine R.iload dL_law_2874 rfl ?_
    refine R.icmp_eq (tgt := 2881) dL_law_2876 (by decide) (fun _ => ?_) (fun c9 => absurd (rfl) c9)
    refine R.iload dL_law_2881 rfl ?_
    refine R.if_ne (tgt := 2898) dL_law_2883 (by decide) (fun _ => ?_) (fun c9 => absurd c9 (cdA_ne E))
    refine R.goto (tgt := 3039) dL_law_2898 (by decide) ?_
    exact k M2 S p T _ _ _ _ (h.no m2 F2)
  | inr t9 =>
    obtain ⟨v, S', p'⟩ := t9
    have hR1 : kN S' = kN S := hR.1
    refine R.aload_n dL_law_2857 rfl (by first | rfl | exact rfv_rf _) ?_
    refine R.aload_n dL_law_2858 rfl (by first | rfl | exact rfv_rf _) ?_
    refine cl_L_348 rfl rfl (by first | exact Nat.le_of_ble_eq_true rfl | simp [rf_cat, Value.category]) dL_law_2859 ?_
    refine h_undo hxc h.n15 hE ?_
    intro M1 c1 F hm
    have hN1 : mN M1 15 0 = 1 := by rw [(F.1 15 0 (Or.inr (Or.inr (Or.inl rfl)))).2.2.2.2]; exact h.n15
    have m1 := (h.m.frK F).f9 (Fr9_L M1 v.toInt64)
    refine R.istore dL_law_2862 (Nat.le_of_ble_eq_true rfl) (by decide) (by first | rfl | simp [lft, rf_cat]) rfl ?_
    refine R.aload_n dL_law_2864 rfl (by first | rfl | exact rfv_rf _) ?_
    refine cl_L_351 rfl rfl (by first | exact Nat.le_of_ble_eq_true rfl | simp [rf_cat, Value.category]) dL_law_2865 ?_
    refine hmd m1 ?_
    intro M2 m2 t2 F2
    refine R.istore dL_law_2868 (Nat.le_of_ble_eq_true rfl) (by decide) (by first | rfl | simp [lft, rf_cat]) rfl ?_
    refine R.aload_n dL_law_2870 rfl (by first | rfl | exact rfv_rf _) ?_
    refine cl_L_179 rfl rfl (by first | exact Nat.le_of_ble_eq_true rfl | simp [rf_cat, Value.category]) dL_law_2871 ?_
    refine n_thrown ?_
    rw [t2]
    refine R.iload dL_law_2874 rfl ?_
    refine R.icmp_eq (tgt := 2881) dL_law_2876 (by decide) (fun _ => ?_) (fun c9 => absurd (rfl) c9)
    refine R.iload dL_law_2881 rfl ?_
    refine R.if_ne (tgt := 2898) dL_law_2883 (by decide) (fun c9 => absurd (rfl) c9) (fun _ => ?_)
    refine R.aload_n dL_law_2886 rfl (by first | rfl | exact rfv_rf _) ?_
    refine R.iconst (v := 0) dL_law_2887 rfl ?_
    refine R.lald (i := 0) dL_law_2888 (by decide) (by rw [F2.2.1]; show _ < mN M1 15 0; rw [hN1]; decide) ?_
    rw [show mL M2 15 0 (Int32.toNatClampNeg 0) = v.toInt64 from (congrFun (F2.2.2.2.2 15 0 (by unfold inM; omega)).2.1 0).trans (mLsL9 _ _)]
    refine R.iload dL_law_2889 rfl ?_
    refine R.i2l dL_law_2891 ?_
    refine R.lcmp dL_law_2892 ?_
    refine R.if_eq (tgt := 2898) dL_law_2893 (by decide) (fun _ => ?_) (fun c9 => absurd (lcmp_rf _) c9)
    refine R.goto (tgt := 3039) dL_law_2898 (by decide) ?_
    exact k M2 S' p' (T + 1) _ _ _ _ (h.yes c1 F hm (Fr9_L _ _) m2 F2 (Nat.le_succ T) (by omega) hR.2)
set_option maxHeartbeats 2000000 in
set_option maxRecDepth 8000 in
theorem lk_writeTree {d n p T : Nat} {M0 M : Mem} {S : KS} {r : Rr} {x1 : Int32} {u6 u7 u8 u9 : Value} {Q : Out → Mem → Prop} (h : LW M0 M S p T n) (hlen : 6 * n + 6 ≤ mN M0 27 0) (hb9 : n < 512) (hx1 : x1 = mI M0 27 0 (6 * n + 1)) (hxc : WPc (d + 20) mX12_writeTree [.ref (rf 10 0), .int x1] M (OU9 M r)) (hR : RO [eI] S p r) (hmd : ∀ {M1 : Mem} {Q1 : Out → Mem → Prop}, MSt M1 S T → QMr Q1 M1 S T cdA r → WPc (d + 21) mX13_writeTree [.ref (rf 11 0), .int x1] M1 Q1) (k : KLW d M0 n Q) : WP mL_law (d + 22) 2901 [.ref (rf 27 0), .ref (rf 10 0), .ref (rf 11 0), .ref (rf 15 0), .ref (rf 16 0), .int (nI (6 * n)), u6, u7, u8, u9] [] M Q := by
  have hE : ∀ E, r = .inl E → E = eI := fun E e => by
    rw [e] at hR
    have hR : E ∈ [eI] := hR
    simp only [List.mem_cons, List.mem_nil_iff, or_false] at hR
    exact hR
  cases r with
  | inl E =>
    refine R.aload_n dL_law_2901 rfl (by first | rfl | exact rfv_rf _) ?_
    refine R.aload_n dL_law_2902 rfl (by first | rfl | exact rfv_rf _) ?_
    refine R.iload dL_law_2903 rfl ?_
    refine R.iconst (v := nI 1) dL_law_2905 rfl ?_
    refine R.iadd dL_law_2906 ?_
    rw [nI_add9]
    refine R.scrIald dL_law_2907 (nI_pos (by omega)) (by rw [nI_clamp (by omega)]; show _ < mN _ 27 0; rw [h.l27]; omega) ?_
    rw [h.x27, nI_clamp (by omega), ← hx1]
    refine R.aload_n dL_law_2908 rfl (by first | rfl | exact rfv_rf _) ?_
    refine cl_L_352 rfl rfl (by first | exact Nat.le_of_ble_eq_true rfl | simp [rf_cat, Value.category]) dL_law_2909 ?_
    refine h_writeTree hxc h.n15 hE ?_
    show WP _ _ _ _ _ _ _
    refine R.istore dL_law_2912 (Nat.le_of_ble_eq_true rfl) (by decide) (by first | rfl | simp [lft, rf_cat]) rfl ?_
    refine R.aload_n dL_law_2914 rfl (by first | rfl | exact rfv_rf _) ?_
    refine R.aload_n dL_law_2915 rfl (by first | rfl | exact rfv_rf _) ?_
    refine R.iload dL_law_2916 rfl ?_
    refine R.iconst (v := nI 1) dL_law_2918 rfl ?_
    refine R.iadd dL_law_2919 ?_
    rw [nI_add9]
    refine R.scrIald dL_law_2920 (nI_pos (by omega)) (by rw [nI_clamp (by omega)]; show _ < mN _ 27 0; rw [show mN (ax M) 27 0 = mN M0 27 0 from h.l27]; omega) ?_
    rw [show mI (ax M) 27 0 = mI M0 27 0 from h.x27, nI_clamp (by omega), ← hx1]
    refine cl_L_354 rfl rfl (by first | exact Nat.le_of_ble_eq_true rfl | simp [rf_cat, Value.category]) dL_law_2921 ?_
    refine hmd h.m.ax9 ?_
    intro M2 m2 t2 F2
    refine R.istore dL_law_2924 (Nat.le_of_ble_eq_true rfl) (by decide) (by first | rfl | simp [lft, rf_cat]) rfl ?_
    refine R.aload_n dL_law_2926 rfl (by first | rfl | exact rfv_rf _) ?_
    refine cl_L_179 rfl rfl (by first | exact Nat.le_of_ble_eq_true rfl | simp [rf_cat, Value.category]) dL_law_2927 ?_
    refine n_thrown ?_
    rw [t2]
    refine R.iload dL_law_2930 rfl ?_
    refine R.icmp_eq (tgt := 2937) dL_law_2932 (by decide) (fun _ => ?_) (fun c9 => absurd (rfl) c9)
    refine R.iload dL_law_2937 rfl ?_
    refine R.if_ne (tgt := 2954) dL_law_2939 (by decide) (fun _ => ?_) (fun c9 => absurd c9 (cdA_ne E))
    refine R.goto (tgt := 3039) dL_law_2954 (by decide) ?_
    exact k M2 S p T _ _ _ _ (h.no m2 F2)
  | inr t9 =>
    obtain ⟨v, S', p'⟩ := t9
    have hR1 : kN S' = kN S := hR.1
    refine R.aload_n dL_law_2901 rfl (by first | rfl | exact rfv_rf _) ?_
    refine R.aload_n dL_law_2902 rfl (by first | rfl | exact rfv_rf _) ?_
    refine R.iload dL_law_2903 rfl ?_
    refine R.iconst (v := nI 1) dL_law_2905 rfl ?_
    refine R.iadd dL_law_2906 ?_
    rw [nI_add9]
    refine R.scrIald dL_law_2907 (nI_pos (by omega)) (by rw [nI_clamp (by omega)]; show _ < mN _ 27 0; rw [h.l27]; omega) ?_
    rw [h.x27, nI_clamp (by omega), ← hx1]
    refine R.aload_n dL_law_2908 rfl (by first | rfl | exact rfv_rf _) ?_
    refine cl_L_352 rfl rfl (by first | exact Nat.le_of_ble_eq_true rfl | simp [rf_cat, Value.category]) dL_law_2909 ?_
    refine h_writeTree hxc h.n15 hE ?_
    intro M1 c1 F hm
    have hN1 : mN M1 15 0 = 1 := by rw [(F.1 15 0 (Or.inr (Or.inr (Or.inl rfl)))).2.2.2.2]; exact h.n15
    have m1 := (h.m.frK F).f9 (Fr9_L M1 v.toInt64)
    refine R.istore dL_law_2912 (Nat.le_of_ble_eq_true rfl) (by decide) (by first | rfl | simp [lft, rf_cat]) rfl ?_
    refine R.aload_n dL_law_2914 rfl (by first | rfl | exact rfv_rf _) ?_
    refine R.aload_n dL_law_2915 rfl (by first | rfl | exact rfv_rf _) ?_
    refine R.iload dL_law_2916 rfl ?_
    refine R.iconst (v := nI 1) dL_law_2918 rfl ?_
    refine R.iadd dL_law_2919 ?_
    rw [nI_add9]
    refine R.scrIald dL_law_2920 (nI_pos (by omega)) (by rw [nI_clamp (by omega)]; show _ < mN _ 27 0; rw [show mN (sL M1 15 0 0 v.toInt64) 27 0 = mN M0 27 0 from hm.2.2.2.1.trans h.l27]; omega) ?_
    rw [show mI (sL M1 15 0 0 v.toInt64) 27 0 = mI M0 27 0 from hm.2.2.2.2.trans h.x27, nI_clamp (by omega), ← hx1]
    refine cl_L_354 rfl rfl (by first | exact Nat.le_of_ble_eq_true rfl | simp [rf_cat, Value.category]) dL_law_2921 ?_
    refine hmd m1 ?_
    intro M2 m2 t2 F2
    refine R.istore dL_law_2924 (Nat.le_of_ble_eq_true rfl) (by decide) (by first | rfl | simp [lft, rf_cat]) rfl ?_
    refine R.aload_n dL_law_2926 rfl (by first | rfl | exact rfv_rf _) ?_
    refine cl_L_179 rfl rfl (by first | exact Nat.le_of_ble_eq_true rfl | simp [rf_cat, Value.category]) dL_law_2927 ?_
    refine n_thrown ?_
    rw [t2]
    refine R.iload dL_law_2930 rfl ?_
    refine R.icmp_eq (tgt := 2937) dL_law_2932 (by decide) (fun _ => ?_) (fun c9 => absurd (rfl) c9)
    refine R.iload dL_law_2937 rfl ?_
    refine R.if_ne (tgt := 2954) dL_law_2939 (by decide) (fun c9 => absurd (rfl) c9) (fun _ => ?_)
    refine R.aload_n dL_law_2942 rfl (by first | rfl | exact rfv_rf _) ?_
    refine R.iconst (v := 0) dL_law_2943 rfl ?_
    refine R.lald (i := 0) dL_law_2944 (by decide) (by rw [F2.2.1]; show _ < mN M1 15 0; rw [hN1]; decide) ?_
    rw [show mL M2 15 0 (Int32.toNatClampNeg 0) = v.toInt64 from (congrFun (F2.2.2.2.2 15 0 (by unfold inM; omega)).2.1 0).trans (mLsL9 _ _)]
    refine R.iload dL_law_2945 rfl ?_
    refine R.i2l dL_law_2947 ?_
    refine R.lcmp dL_law_2948 ?_
    refine R.if_eq (tgt := 2954) dL_law_2949 (by decide) (fun _ => ?_) (fun c9 => absurd (lcmp_rf _) c9)
    refine R.goto (tgt := 3039) dL_law_2954 (by decide) ?_
    exact k M2 S' p' (T + 1) _ _ _ _ (h.yes c1 F hm (Fr9_L _ _) m2 F2 (Nat.le_succ T) (by omega) hR.2)
set_option maxHeartbeats 2000000 in
set_option maxRecDepth 8000 in
theorem lk_restoreState {d n p T : Nat} {M0 M : Mem} {S : KS} {r : Rr} {u6 u7 u8 u9 : Value} {Q : Out → Mem → Prop} (h : LW M0 M S p T n) (hlen : 6 * n + 6 ≤ mN M0 27 0) (hb9 : n < 512) (hxc : WPc (d + 20) mX12_restoreState [.ref (rf 10 0)] M (OU9 M r)) (hR : RO [eN] S p r) (hmd : ∀ {M1 : Mem} {Q1 : Out → Mem → Prop}, MSt M1 S T → QMr Q1 M1 S T cdA r → WPc (d + 21) mX13_restoreState [.ref (rf 11 0)] M1 Q1) (k : KLW d M0 n Q) : WP mL_law (d + 22) 2995 [.ref (rf 27 0), .ref (rf 10 0), .ref (rf 11 0), .ref (rf 15 0), .ref (rf 16 0), .int (nI (6 * n)), u6, u7, u8, u9] [] M Q := by
  have hE : ∀ E, r = .inl E → E = eN := fun E e => by
    rw [e] at hR
    have hR : E ∈ [eN] := hR
    simp only [List.mem_cons, List.mem_nil_iff, or_false] at hR
    exact hR
  cases r with
  | inl E =>
    refine R.aload_n dL_law_2995 rfl (by first | rfl | exact rfv_rf _) ?_
    refine R.aload_n dL_law_2996 rfl (by first | rfl | exact rfv_rf _) ?_
    refine cl_L_363 rfl rfl (by first | exact Nat.le_of_ble_eq_true rfl | simp [rf_cat, Value.category]) dL_law_2997 ?_
    refine h_restoreState hxc h.n15 hE ?_
    show WP _ _ _ _ _ _ _
    refine R.istore dL_law_3000 (Nat.le_of_ble_eq_true rfl) (by decide) (by first | rfl | simp [lft, rf_cat]) rfl ?_
    refine R.aload_n dL_law_3002 rfl (by first | rfl | exact rfv_rf _) ?_
    refine cl_L_365 rfl rfl (by first | exact Nat.le_of_ble_eq_true rfl | simp [rf_cat, Value.category]) dL_law_3003 ?_
    refine hmd h.m.ax9 ?_
    intro M2 m2 t2 F2
    refine R.istore dL_law_3006 (Nat.le_of_ble_eq_true rfl) (by decide) (by first | rfl | simp [lft, rf_cat]) rfl ?_
    refine R.aload_n dL_law_3008 rfl (by first | rfl | exact rfv_rf _) ?_
    refine cl_L_179 rfl rfl (by first | exact Nat.le_of_ble_eq_true rfl | simp [rf_cat, Value.category]) dL_law_3009 ?_
    refine n_thrown ?_
    rw [t2]
    refine R.iload dL_law_3012 rfl ?_
    refine R.icmp_eq (tgt := 3019) dL_law_3014 (by decide) (fun _ => ?_) (fun c9 => absurd (rfl) c9)
    refine R.iload dL_law_3019 rfl ?_
    refine R.if_ne (tgt := 3036) dL_law_3021 (by decide) (fun _ => ?_) (fun c9 => absurd c9 (cdA_ne E))
    refine R.goto (tgt := 3039) dL_law_3036 (by decide) ?_
    exact k M2 S p T _ _ _ _ (h.no m2 F2)
  | inr t9 =>
    obtain ⟨v, S', p'⟩ := t9
    have hR1 : kN S' = kN S := hR.1
    refine R.aload_n dL_law_2995 rfl (by first | rfl | exact rfv_rf _) ?_
    refine R.aload_n dL_law_2996 rfl (by first | rfl | exact rfv_rf _) ?_
    refine cl_L_363 rfl rfl (by first | exact Nat.le_of_ble_eq_true rfl | simp [rf_cat, Value.category]) dL_law_2997 ?_
    refine h_restoreState hxc h.n15 hE ?_
    intro M1 c1 F hm
    have hN1 : mN M1 15 0 = 1 := by rw [(F.1 15 0 (Or.inr (Or.inr (Or.inl rfl)))).2.2.2.2]; exact h.n15
    have m1 := (h.m.frK F).f9 (Fr9_L M1 v.toInt64)
    refine R.istore dL_law_3000 (Nat.le_of_ble_eq_true rfl) (by decide) (by first | rfl | simp [lft, rf_cat]) rfl ?_
    refine R.aload_n dL_law_3002 rfl (by first | rfl | exact rfv_rf _) ?_
    refine cl_L_365 rfl rfl (by first | exact Nat.le_of_ble_eq_true rfl | simp [rf_cat, Value.category]) dL_law_3003 ?_
    refine hmd m1 ?_
    intro M2 m2 t2 F2
    refine R.istore dL_law_3006 (Nat.le_of_ble_eq_true rfl) (by decide) (by first | rfl | simp [lft, rf_cat]) rfl ?_
    refine R.aload_n dL_law_3008 rfl (by first | rfl | exact rfv_rf _) ?_
    refine cl_L_179 rfl rfl (by first | exact Nat.le_of_ble_eq_true rfl | simp [rf_cat, Value.category]) dL_law_3009 ?_
    refine n_thrown ?_
    rw [t2]
    refine R.iload dL_law_3012 rfl ?_
    refine R.icmp_eq (tgt := 3019) dL_law_3014 (by decide) (fun _ => ?_) (fun c9 => absurd (rfl) c9)
    refine R.iload dL_law_3019 rfl ?_
    refine R.if_ne (tgt := 3036) dL_law_3021 (by decide) (fun c9 => absurd (rfl) c9) (fun _ => ?_)
    refine R.aload_n dL_law_3024 rfl (by first | rfl | exact rfv_rf _) ?_
    refine R.iconst (v := 0) dL_law_3025 rfl ?_
    refine R.lald (i := 0) dL_law_3026 (by decide) (by rw [F2.2.1]; show _ < mN M1 15 0; rw [hN1]; decide) ?_
    rw [show mL M2 15 0 (Int32.toNatClampNeg 0) = v.toInt64 from (congrFun (F2.2.2.2.2 15 0 (by unfold inM; omega)).2.1 0).trans (mLsL9 _ _)]
    refine R.iload dL_law_3027 rfl ?_
    refine R.i2l dL_law_3029 ?_
    refine R.lcmp dL_law_3030 ?_
    refine R.if_eq (tgt := 3036) dL_law_3031 (by decide) (fun _ => ?_) (fun c9 => absurd (lcmp_rf _) c9)
    refine R.goto (tgt := 3039) dL_law_3036 (by decide) ?_
    exact k M2 S' p' (T + 1) _ _ _ _ (h.yes c1 F hm (Fr9_L _ _) m2 F2 (Nat.le_succ T) (by omega) hR.2)
