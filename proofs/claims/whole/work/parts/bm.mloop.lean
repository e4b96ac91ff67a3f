/-! one command of the law, whichever it is; the law's loop -/
theorem LW.next {M0 M : Mem} {S : KS} {p T n : Nat} (h : LW M0 M S p T n) : LW M0 M S p T (n + 1) := by
  obtain ⟨a, b, c, d, ⟨e1, e2, e3⟩, f, g⟩ := h
  exact ⟨a, b, c, d, ⟨e1, by omega, by omega⟩, Nat.le_trans f (Nat.add_le_add_left (Nat.mul_le_mul_left _ (Nat.le_succ n)) _), Nat.le_trans g (Nat.add_le_add_left (Nat.mul_le_mul_left _ (Nat.le_succ n)) _)⟩
theorem an63 (x : Int32) : ∃ k, x &&& 63 = nI k ∧ k < 64 := by
  refine ⟨x.toBitVec.toNat % 64, ?_, Nat.mod_lt _ (by decide)⟩
  apply Int32.toBitVec_inj.1
  show x.toBitVec &&& BitVec.ofNat 32 63 = BitVec.ofNat 32 (x.toBitVec.toNat % 64)
  apply BitVec.eq_of_toNat_eq
  rw [BitVec.toNat_and, BitVec.toNat_ofNat, BitVec.toNat_ofNat, Nat.mod_eq_of_lt (a := 63) (by omega), Nat.mod_eq_of_lt (a := x.toBitVec.toNat % 64) (by omega)]
  exact Nat.and_two_pow_sub_one_eq_mod _ 6
set_option maxHeartbeats 4000000 in
set_option maxRecDepth 8000 in
theorem law_case {d n p T : Nat} {M0 M : Mem} {S : KS} {u6 u7 u8 u9 : Value} {Q : Out → Mem → Prop} (h : LW M0 M S p T n) (hn : n < 512) (hlen : 6 * n + 6 ≤ mN M0 27 0) (k : KLW d M0 n Q) : ∀ c, c < 64 → WP mL_law (d + 22) 45 [.ref (rf 27 0), .ref (rf 10 0), .ref (rf 11 0), .ref (rf 15 0), .ref (rf 16 0), .int (nI (6 * n)), u6, u7, u8, u9] [.int (nI c)] M Q
  | 0, _ => R.tableIn (off := 267) (tgt := 312) dL_law_45 (by decide) (by decide) (by decide +kernel) (by decide) (lw_appendInput h hn hlen k)
  | 1, _ => R.tableIn (off := 340) (tgt := 385) dL_law_45 (by decide) (by decide) (by decide +kernel) (by decide) (lw_truncateInput h hn hlen k)
  | 2, _ => R.tableIn (off := 365) (tgt := 410) dL_law_45 (by decide) (by decide) (by decide +kernel) (by decide) (lw_loadYard h hn hlen k)
  | 3, _ => R.tableIn (off := 378) (tgt := 423) dL_law_45 (by decide) (by decide) (by decide +kernel) (by decide) (lw_runScript h hn hlen k)
  | 4, _ => R.tableIn (off := 391) (tgt := 436) dL_law_45 (by decide) (by decide) (by decide +kernel) (by decide) (lw_errorCode h hn hlen k)
  | 5, _ => R.tableIn (off := 404) (tgt := 449) dL_law_45 (by decide) (by decide) (by decide +kernel) (by decide) (lw_errorOffset h hn hlen k)
  | 6, _ => R.tableIn (off := 417) (tgt := 462) dL_law_45 (by decide) (by decide) (by decide +kernel) (by decide) (lw_crateCount h hn hlen k)
  | 7, _ => R.tableIn (off := 430) (tgt := 475) dL_law_45 (by decide) (by decide) (by decide +kernel) (by decide) (lw_buyerCount h hn hlen k)
  | 8, _ => R.tableIn (off := 443) (tgt := 488) dL_law_45 (by decide) (by decide) (by decide +kernel) (by decide) (lw_crateNameByte h hn hlen k)
  | 9, _ => R.tableIn (off := 511) (tgt := 556) dL_law_45 (by decide) (by decide) (by decide +kernel) (by decide) (lw_buyerNameByte h hn hlen k)
  | 10, _ => R.tableIn (off := 579) (tgt := 624) dL_law_45 (by decide) (by decide) (by decide +kernel) (by decide) (lw_tareOf h hn hlen k)
  | 11, _ => R.tableIn (off := 635) (tgt := 680) dL_law_45 (by decide) (by decide) (by decide +kernel) (by decide) (lw_goodsOf h hn hlen k)
  | 12, _ => R.tableIn (off := 691) (tgt := 736) dL_law_45 (by decide) (by decide) (by decide +kernel) (by decide) (lw_grossOf h hn hlen k)
  | 13, _ => R.tableIn (off := 747) (tgt := 792) dL_law_45 (by decide) (by decide) (by decide +kernel) (by decide) (lw_parentOf h hn hlen k)
  | 14, _ => R.tableIn (off := 803) (tgt := 848) dL_law_45 (by decide) (by decide) (by decide +kernel) (by decide) (lw_depthOf h hn hlen k)
  | 15, _ => R.tableIn (off := 859) (tgt := 904) dL_law_45 (by decide) (by decide) (by decide +kernel) (by decide) (lw_childCount h hn hlen k)
  | 16, _ => R.tableIn (off := 915) (tgt := 960) dL_law_45 (by decide) (by decide) (by decide +kernel) (by decide) (lw_childOf h hn hlen k)
  | 17, _ => R.tableIn (off := 983) (tgt := 1028) dL_law_45 (by decide) (by decide) (by decide +kernel) (by decide) (lw_isInYard h hn hlen k)
  | 18, _ => R.tableIn (off := 1046) (tgt := 1091) dL_law_45 (by decide) (by decide) (by decide +kernel) (by decide) (lw_readingCount h hn hlen k)
  | 19, _ => R.tableIn (off := 1102) (tgt := 1147) dL_law_45 (by decide) (by decide) (by decide +kernel) (by decide) (lw_lastReading h hn hlen k)
  | 20, _ => R.tableIn (off := 1158) (tgt := 1203) dL_law_45 (by decide) (by decide) (by decide +kernel) (by decide) (lw_meanReading h hn hlen k)
  | 21, _ => R.tableIn (off := 1214) (tgt := 1259) dL_law_45 (by decide) (by decide) (by decide +kernel) (by decide) (lw_meanError h hn hlen k)
  | 22, _ => R.tableIn (off := 1270) (tgt := 1315) dL_law_45 (by decide) (by decide) (by decide +kernel) (by decide) (lw_exactMean h hn hlen k)
  | 23, _ => R.tableIn (off := 1347) (tgt := 1392) dL_law_45 (by decide) (by decide) (by decide +kernel) (by decide) (lw_springAge h hn hlen k)
  | 24, _ => R.tableIn (off := 1360) (tgt := 1405) dL_law_45 (by decide) (by decide) (by decide +kernel) (by decide) (lw_springSag h hn hlen k)
  | 25, _ => R.tableIn (off := 1373) (tgt := 1418) dL_law_45 (by decide) (by decide) (by decide +kernel) (by decide) (lw_amplitude h hn hlen k)
  | 26, _ => R.tableIn (off := 1386) (tgt := 1431) dL_law_45 (by decide) (by decide) (by decide +kernel) (by decide) (lw_aging h hn hlen k)
  | 27, _ => R.tableIn (off := 1399) (tgt := 1444) dL_law_45 (by decide) (by decide) (by decide +kernel) (by decide) (lw_requiredReadings h hn hlen k)
  | 28, _ => R.tableIn (off := 1412) (tgt := 1457) dL_law_45 (by decide) (by decide) (by decide +kernel) (by decide) (lw_requiredTrust h hn hlen k)
  | 29, _ => R.tableIn (off := 1425) (tgt := 1470) dL_law_45 (by decide) (by decide) (by decide +kernel) (by decide) (lw_predictReading h hn hlen k)
  | 30, _ => R.tableIn (off := 1481) (tgt := 1526) dL_law_45 (by decide) (by decide) (by decide +kernel) (by decide) (lw_predictMean h hn hlen k)
  | 31, _ => R.tableIn (off := 1549) (tgt := 1594) dL_law_45 (by decide) (by decide) (by decide +kernel) (by decide) (lw_readingsUntilWithin h hn hlen k)
  | 32, _ => R.tableIn (off := 1617) (tgt := 1662) dL_law_45 (by decide) (by decide) (by decide +kernel) (by decide) (lw_worstErrorWithin h hn hlen k)
  | 33, _ => R.tableIn (off := 1685) (tgt := 1730) dL_law_45 (by decide) (by decide) (by decide +kernel) (by decide) (lw_moneyOf h hn hlen k)
  | 34, _ => R.tableIn (off := 1741) (tgt := 1786) dL_law_45 (by decide) (by decide) (by decide +kernel) (by decide) (lw_toleranceOf h hn hlen k)
  | 35, _ => R.tableIn (off := 1797) (tgt := 1842) dL_law_45 (by decide) (by decide) (by decide +kernel) (by decide) (lw_trustOf h hn hlen k)
  | 36, _ => R.tableIn (off := 1853) (tgt := 1898) dL_law_45 (by decide) (by decide) (by decide +kernel) (by decide) (lw_purchasesOf h hn hlen k)
  | 37, _ => R.tableIn (off := 1909) (tgt := 1954) dL_law_45 (by decide) (by decide) (by decide +kernel) (by decide) (lw_refusalReason h hn hlen k)
  | 38, _ => R.tableIn (off := 1977) (tgt := 2022) dL_law_45 (by decide) (by decide) (by decide +kernel) (by decide) (lw_refusalDetail h hn hlen k)
  | 39, _ => R.tableIn (off := 2045) (tgt := 2090) dL_law_45 (by decide) (by decide) (by decide +kernel) (by decide) (lw_bestBuyer h hn hlen k)
  | 40, _ => R.tableIn (off := 2101) (tgt := 2146) dL_law_45 (by decide) (by decide) (by decide +kernel) (by decide) (lw_trustAfterSale h hn hlen k)
  | 41, _ => R.tableIn (off := 2169) (tgt := 2214) dL_law_45 (by decide) (by decide) (by decide +kernel) (by decide) (lw_totalReadings h hn hlen k)
  | 42, _ => R.tableIn (off := 2182) (tgt := 2227) dL_law_45 (by decide) (by decide) (by decide +kernel) (by decide) (lw_totalDiscarded h hn hlen k)
  | 43, _ => R.tableIn (off := 2195) (tgt := 2240) dL_law_45 (by decide) (by decide) (by decide +kernel) (by decide) (lw_springsReplaced h hn hlen k)
  | 44, _ => R.tableIn (off := 2208) (tgt := 2253) dL_law_45 (by decide) (by decide) (by decide +kernel) (by decide) (lw_salesCount h hn hlen k)
  | 45, _ => R.tableIn (off := 2221) (tgt := 2266) dL_law_45 (by decide) (by decide) (by decide +kernel) (by decide) (lw_totalPrices h hn hlen k)
  | 46, _ => R.tableIn (off := 2234) (tgt := 2279) dL_law_45 (by decide) (by decide) (by decide +kernel) (by decide) (lw_totalRefunds h hn hlen k)
  | 47, _ => R.tableIn (off := 2247) (tgt := 2292) dL_law_45 (by decide) (by decide) (by decide +kernel) (by decide) (lw_isConsistent h hn hlen k)
  | 48, _ => R.tableIn (off := 2260) (tgt := 2305) dL_law_45 (by decide) (by decide) (by decide +kernel) (by decide) (lw_averageTrust h hn hlen k)
  | 49, _ => R.tableIn (off := 2303) (tgt := 2348) dL_law_45 (by decide) (by decide) (by decide +kernel) (by decide) (lw_weigh h hn hlen k)
  | 50, _ => R.tableIn (off := 2359) (tgt := 2404) dL_law_45 (by decide) (by decide) (by decide +kernel) (by decide) (lw_addGoods h hn hlen k)
  | 51, _ => R.tableIn (off := 2427) (tgt := 2472) dL_law_45 (by decide) (by decide) (by decide +kernel) (by decide) (lw_removeGoods h hn hlen k)
  | 52, _ => R.tableIn (off := 2495) (tgt := 2540) dL_law_45 (by decide) (by decide) (by decide +kernel) (by decide) (lw_moveInto h hn hlen k)
  | 53, _ => R.tableIn (off := 2563) (tgt := 2608) dL_law_45 (by decide) (by decide) (by decide +kernel) (by decide) (lw_takeOut h hn hlen k)
  | 54, _ => R.tableIn (off := 2619) (tgt := 2664) dL_law_45 (by decide) (by decide) (by decide +kernel) (by decide) (lw_replaceSpring h hn hlen k)
  | 55, _ => R.tableIn (off := 2632) (tgt := 2677) dL_law_45 (by decide) (by decide) (by decide +kernel) (by decide) (lw_sell h hn hlen k)
  | 56, _ => R.tableIn (off := 2700) (tgt := 2745) dL_law_45 (by decide) (by decide) (by decide +kernel) (by decide) (lw_setAmplitude h hn hlen k)
  | 57, _ => R.tableIn (off := 2756) (tgt := 2801) dL_law_45 (by decide) (by decide) (by decide +kernel) (by decide) (lw_setAging h hn hlen k)
  | 58, _ => R.tableIn (off := 2812) (tgt := 2857) dL_law_45 (by decide) (by decide) (by decide +kernel) (by decide) (lw_undo h hn hlen k)
  | 59, _ => R.tableIn (off := 2856) (tgt := 2901) dL_law_45 (by decide) (by decide) (by decide +kernel) (by decide) (lw_writeTree h hn hlen k)
  | 60, _ => R.tableIn (off := 2912) (tgt := 2957) dL_law_45 (by decide) (by decide) (by decide +kernel) (by decide) (lw_outputByte h hn hlen k)
  | 61, _ => R.tableIn (off := 2937) (tgt := 2982) dL_law_45 (by decide) (by decide) (by decide +kernel) (by decide) (lw_saveState h hn hlen k)
  | 62, _ => R.tableIn (off := 2950) (tgt := 2995) dL_law_45 (by decide) (by decide) (by decide +kernel) (by decide) (lw_restoreState h hn hlen k)
  | 63, _ => R.tableOut (tgt := 3039) dL_law_45 (Or.inr (by decide)) (by decide) (k M S p T _ _ _ _ h.next)
  | c + 64, hc => absurd hc (by omega)
set_option maxHeartbeats 2000000 in
set_option maxRecDepth 8000 in
theorem law_loop {d L : Nat} {M0 : Mem} {Q : Out → Mem → Prop} (hL : mN M0 27 0 = L) (hL2 : L ≤ 3072) (hq : ∀ M' S p T n, n ≤ 512 → LW M0 M' S p T n → Q (.inl (some (.int 1))) M') : ∀ f n M S p T u6 u7 u8 u9, LW M0 M S p T n → 6 * n ≤ L → L < 6 * (n + f) → WP mL_law (d + 22) 28 [.ref (rf 27 0), .ref (rf 10 0), .ref (rf 11 0), .ref (rf 15 0), .ref (rf 16 0), .int (nI (6 * n)), u6, u7, u8, u9] [] M Q := by
  intro f
  induction f with
  | zero => intro n M S p T u6 u7 u8 u9 h h1 h2; omega
  | succ f ih =>
    intro n M S p T u6 u7 u8 u9 h h1 h2
    have e6 : (nI L - nI 6).toInt = (L : Int) - 6 := pk_sub_toInt (by omega) (by decide)
    have en : (nI (6 * n)).toInt = ((6 * n : Nat) : Int) := nI_toInt (by omega)
    refine R.iload dL_law_28 rfl ?_
    refine R.aload_n dL_law_30 rfl (by first | rfl | exact rfv_rf _) ?_
    refine R.scrAlen dL_law_31 ?_
    rw [h.l27, hL]
    refine R.bipush (v := nI 6) dL_law_32 (by decide) ?_
    refine R.isub dL_law_34 ?_
    refine R.icmp_gt (tgt := 3045) dL_law_35 (by decide) (fun c => ?_) (fun c => ?_)
    · refine R.iconst (v := 1) dL_law_3045 rfl ?_
      refine WP.ret (ov := some (.int _)) dL_law_3046 ⟨rfl, _, rfl, by first | rfl | assumption | exact nar_b01 (by assumption)⟩ ?_
      exact hq M S p T n (by omega) h
    · rw [Int32.lt_iff_toInt_lt, e6, en] at c
      have hl : 6 * n + 6 ≤ L := by omega
      refine R.aload_n dL_law_38 rfl (by first | rfl | exact rfv_rf _) ?_
      refine R.iload dL_law_39 rfl ?_
      refine R.scrIald dL_law_41 (nI_pos (by omega)) (by rw [nI_clamp (by omega)]; show _ < mN _ 27 0; rw [h.l27, hL]; omega) ?_
      refine R.bipush (v := 63) dL_law_42 (by decide) ?_
      refine R.iand dL_law_44 ?_
      obtain ⟨c9, e9, hc9⟩ := an63 (mI M 27 0 (nI (6 * n)).toNatClampNeg)
      rw [e9]
      refine law_case h (by omega) (by rw [hL]; exact hl) (fun M' S' p' T' v6 v7 v8 v9 h' => ?_) c9 hc9
      refine R.iinc (v := nI (6 * (n + 1))) dL_law_3039 (Nat.le_of_ble_eq_true rfl) (by decide) (by first | rfl | simp [lft, rf_cat]) rfl ?_ rfl ?_
      · rw [show Int32.ofInt 6 = nI 6 by decide, nI_add9, Nat.mul_add, Nat.mul_one]
      · refine R.goto (tgt := 28) dL_law_3042 (by decide) ?_
        exact ih (n + 1) M' S' p' T' _ _ _ _ h' (by omega) (by omega)
