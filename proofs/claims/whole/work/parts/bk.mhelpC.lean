theorem lw_lastReading {d n p T : Nat} {M0 M : Mem} {S : KS} {u6 u7 u8 u9 : Value} {Q : Out → Mem → Prop} (h : LW M0 M S p T n) (hn : n < 512) (hlen : 6 * n + 6 ≤ mN M0 27 0) (k : KLW d M0 n Q) : WP mL_law (d + 22) 1147 [.ref (rf 27 0), .ref (rf 10 0), .ref (rf 11 0), .ref (rf 15 0), .ref (rf 16 0), .int (nI (6 * n)), u6, u7, u8, u9] [] M Q :=
  lk_lastReading (r := anR S p (aW S (mI M0 27 0 (6 * n + 1)) fun i => yC (kY S) i 11)) h hlen hn rfl (c_lastReading h.c (QA.ou h.c)) (by
    unfold aW
    exact RO.gc (by simp) fun i => by
      split
      · exact RO.e (by simp)
      · exact RO.same) (fun m1 q => n_lastReading m1 (by have := h.t hn; omega) (QMa.r (p := p) q)) k
theorem lw_meanReading {d n p T : Nat} {M0 M : Mem} {S : KS} {u6 u7 u8 u9 : Value} {Q : Out → Mem → Prop} (h : LW M0 M S p T n) (hn : n < 512) (hlen : 6 * n + 6 ≤ mN M0 27 0) (k : KLW d M0 n Q) : WP mL_law (d + 22) 1203 [.ref (rf 27 0), .ref (rf 10 0), .ref (rf 11 0), .ref (rf 15 0), .ref (rf 16 0), .int (nI (6 * n)), u6, u7, u8, u9] [] M Q :=
  lk_meanReading (r := anR S p (aW S (mI M0 27 0 (6 * n + 1)) fun i => yMean (kY S) i)) h hlen hn rfl (c_meanReading h.c (QA.ou h.c)) (by
    unfold aW
    exact RO.gc (by simp) fun i => by
      split
      · exact RO.e (by simp)
      · exact RO.same) (fun m1 q => n_meanReading m1 (by have := h.t hn; omega) (QMa.r (p := p) q)) k
theorem lw_meanError {d n p T : Nat} {M0 M : Mem} {S : KS} {u6 u7 u8 u9 : Value} {Q : Out → Mem → Prop} (h : LW M0 M S p T n) (hn : n < 512) (hlen : 6 * n + 6 ≤ mN M0 27 0) (k : KLW d M0 n Q) : WP mL_law (d + 22) 1259 [.ref (rf 27 0), .ref (rf 10 0), .ref (rf 11 0), .ref (rf 15 0), .ref (rf 16 0), .int (nI (6 * n)), u6, u7, u8, u9] [] M Q :=
  lk_meanError (r := anR S p (aW S (mI M0 27 0 (6 * n + 1)) fun i => yErr (kY S) i)) h hlen hn rfl (c_meanError h.c (QA.ou h.c)) (by
    unfold aW
    exact RO.gc (by simp) fun i => by
      split
      · exact RO.e (by simp)
      · exact RO.same) (fun m1 q => n_meanError m1 (by have := h.t hn; omega) (QMa.r (p := p) q)) k
theorem lw_predictReading {d n p T : Nat} {M0 M : Mem} {S : KS} {u6 u7 u8 u9 : Value} {Q : Out → Mem → Prop} (h : LW M0 M S p T n) (hn : n < 512) (hlen : 6 * n + 6 ≤ mN M0 27 0) (k : KLW d M0 n Q) : WP mL_law (d + 22) 1470 [.ref (rf 27 0), .ref (rf 10 0), .ref (rf 11 0), .ref (rf 15 0), .ref (rf 16 0), .int (nI (6 * n)), u6, u7, u8, u9] [] M Q :=
  lk_predictReading (r := rC S (mI M0 27 0 (6 * n + 1)) fun i => if yC (kY S) i 7 = 0 then .inl eS else .inr ((tkY (kY S) i).1, S, p)) h hlen hn rfl (c_predictReading h.c h.kg QR9.ou) (by
    first
      | exact RO.tre (by simp)
      | exact RO.und (by simp)
      | exact RO.res (by simp)
      | exact RO.c (by simp) fun i => RO.out (by simp)
      | (repeat' (first | exact RO.one | exact RO.same | exact RO.e (by simp) | refine RO.c (by simp) (fun i => ?_) | refine RO.u (by simp) (fun i => ?_) | refine RO.gc (by simp) (fun i => ?_) | refine RO.gu (by simp) (fun i => ?_) | split))) (fun m1 q => n_predictReading (p := p) m1 (by have := h.t hn; omega) q) k
theorem lw_predictMean {d n p T : Nat} {M0 M : Mem} {S : KS} {u6 u7 u8 u9 : Value} {Q : Out → Mem → Prop} (h : LW M0 M S p T n) (hn : n < 512) (hlen : 6 * n + 6 ≤ mN M0 27 0) (k : KLW d M0 n Q) : WP mL_law (d + 22) 1526 [.ref (rf 27 0), .ref (rf 10 0), .ref (rf 11 0), .ref (rf 15 0), .ref (rf 16 0), .int (nI (6 * n)), u6, u7, u8, u9] [] M Q :=
  lk_predictMean (r := rC S (mI M0 27 0 (6 * n + 1)) fun i => if 1 ≤ (mI M0 27 0 (6 * n + 2)) ∧ (mI M0 27 0 (6 * n + 2)) ≤ 100 then (if yC (kY S) i 7 = 0 then .inl eS else .inr (yMean (tkN i (mI M0 27 0 (6 * n + 2)).toNatClampNeg (kY S)) i, S, p)) else .inl eA) h hlen hn rfl rfl (c_predictMean h.c h.kg QR9.ou) (by
    first
      | exact RO.tre (by simp)
      | exact RO.und (by simp)
      | exact RO.res (by simp)
      | exact RO.c (by simp) fun i => RO.out (by simp)
      | (repeat' (first | exact RO.one | exact RO.same | exact RO.e (by simp) | refine RO.c (by simp) (fun i => ?_) | refine RO.u (by simp) (fun i => ?_) | refine RO.gc (by simp) (fun i => ?_) | refine RO.gu (by simp) (fun i => ?_) | split))) (fun m1 q => n_predictMean (p := p) m1 (by have := h.t hn; omega) q) k
theorem lw_readingsUntilWithin {d n p T : Nat} {M0 M : Mem} {S : KS} {u6 u7 u8 u9 : Value} {Q : Out → Mem → Prop} (h : LW M0 M S p T n) (hn : n < 512) (hlen : 6 * n + 6 ≤ mN M0 27 0) (k : KLW d M0 n Q) : WP mL_law (d + 22) 1594 [.ref (rf 27 0), .ref (rf 10 0), .ref (rf 11 0), .ref (rf 15 0), .ref (rf 16 0), .int (nI (6 * n)), u6, u7, u8, u9] [] M Q :=
  lk_readingsUntilWithin (r := rC S (mI M0 27 0 (6 * n + 1)) fun i => if 0 ≤ (mI M0 27 0 (6 * n + 2)) ∧ (mI M0 27 0 (6 * n + 2)) ≤ 50 then (if yC (kY S) i 7 = 0 then .inl eS else if 0 < yC (kY S) i 8 ∧ fabs (yErr (kY S) i) ≤ (mI M0 27 0 (6 * n + 2)) then .inr (0, S, p) else .inr (ruF (kY S) i (mI M0 27 0 (6 * n + 2)) 100 0, S, p)) else .inl eA) h hlen hn rfl rfl (c_readingsUntilWithin h.c h.kg QR9.ou) (by
    first
      | exact RO.tre (by simp)
      | exact RO.und (by simp)
      | exact RO.res (by simp)
      | exact RO.c (by simp) fun i => RO.out (by simp)
      | (repeat' (first | exact RO.one | exact RO.same | exact RO.e (by simp) | refine RO.c (by simp) (fun i => ?_) | refine RO.u (by simp) (fun i => ?_) | refine RO.gc (by simp) (fun i => ?_) | refine RO.gu (by simp) (fun i => ?_) | split))) (fun m1 q => n_readingsUntilWithin (p := p) m1 (by have := h.t hn; omega) q) k
theorem lw_worstErrorWithin {d n p T : Nat} {M0 M : Mem} {S : KS} {u6 u7 u8 u9 : Value} {Q : Out → Mem → Prop} (h : LW M0 M S p T n) (hn : n < 512) (hlen : 6 * n + 6 ≤ mN M0 27 0) (k : KLW d M0 n Q) : WP mL_law (d + 22) 1662 [.ref (rf 27 0), .ref (rf 10 0), .ref (rf 11 0), .ref (rf 15 0), .ref (rf 16 0), .int (nI (6 * n)), u6, u7, u8, u9] [] M Q :=
  lk_worstErrorWithin (r := rC S (mI M0 27 0 (6 * n + 1)) fun i => if 1 ≤ (mI M0 27 0 (6 * n + 2)) ∧ (mI M0 27 0 (6 * n + 2)) ≤ 100 then (if yC (kY S) i 7 = 0 then .inl eS else .inr (woF (kY S) i (mI M0 27 0 (6 * n + 2)).toNatClampNeg 0 0, S, p)) else .inl eA) h hlen hn rfl rfl (c_worstErrorWithin h.c h.kg QR9.ou) (by
    first
      | exact RO.tre (by simp)
      | exact RO.und (by simp)
      | exact RO.res (by simp)
      | exact RO.c (by simp) fun i => RO.out (by simp)
      | (repeat' (first | exact RO.one | exact RO.same | exact RO.e (by simp) | refine RO.c (by simp) (fun i => ?_) | refine RO.u (by simp) (fun i => ?_) | refine RO.gc (by simp) (fun i => ?_) | refine RO.gu (by simp) (fun i => ?_) | split))) (fun m1 q => n_worstErrorWithin (p := p) m1 (by have := h.t hn; omega) q) k
theorem lw_trustAfterSale {d n p T : Nat} {M0 M : Mem} {S : KS} {u6 u7 u8 u9 : Value} {Q : Out → Mem → Prop} (h : LW M0 M S p T n) (hn : n < 512) (hlen : 6 * n + 6 ≤ mN M0 27 0) (k : KLW d M0 n Q) : WP mL_law (d + 22) 2146 [.ref (rf 27 0), .ref (rf 10 0), .ref (rf 11 0), .ref (rf 15 0), .ref (rf 16 0), .int (nI (6 * n)), u6, u7, u8, u9] [] M Q :=
  lk_trustAfterSale (r := anR S p (aC S (mI M0 27 0 (6 * n + 1)) fun i => aU S (mI M0 27 0 (6 * n + 2)) fun b => if yRef (kY S) i b = 0 then .inl (fTrust (yB (kY S) b 4) (yB (kY S) b 3) (yErr (kY S) i)) else .inr eS)) h hlen hn rfl rfl (c_trustAfterSale h.c (QA.ou h.c)) (by
    exact RO.gc (by simp) fun i => RO.gu (by simp) fun b => by
      split
      · exact RO.same
      · exact RO.e (by simp)) (fun m1 q => n_trustAfterSale m1 (by have := h.t hn; omega) (QMa.r (p := p) q)) k
theorem lw_weigh {d n p T : Nat} {M0 M : Mem} {S : KS} {u6 u7 u8 u9 : Value} {Q : Out → Mem → Prop} (h : LW M0 M S p T n) (hn : n < 512) (hlen : 6 * n + 6 ≤ mN M0 27 0) (k : KLW d M0 n Q) : WP mL_law (d + 22) 2348 [.ref (rf 27 0), .ref (rf 10 0), .ref (rf 11 0), .ref (rf 15 0), .ref (rf 16 0), .int (nI (6 * n)), u6, u7, u8, u9] [] M Q :=
  lk_weigh (r := rC S (mI M0 27 0 (6 * n + 1)) fun i => if yC (kY S) i 7 = 0 then .inl eS else r1 S p (tkY (kY S) i).1 (tkY (kY S) i).2) h hlen hn rfl (c_weigh h.c (h.p30 hn) h.kg QR9.ou) (by
    first
      | exact RO.tre (by simp)
      | exact RO.und (by simp)
      | exact RO.res (by simp)
      | exact RO.c (by simp) fun i => RO.out (by simp)
      | (repeat' (first | exact RO.one | exact RO.same | exact RO.e (by simp) | refine RO.c (by simp) (fun i => ?_) | refine RO.u (by simp) (fun i => ?_) | refine RO.gc (by simp) (fun i => ?_) | refine RO.gu (by simp) (fun i => ?_) | split))) (fun m1 q => n_weigh (p := p) m1 (by have := h.t hn; omega) q) k
theorem lw_addGoods {d n p T : Nat} {M0 M : Mem} {S : KS} {u6 u7 u8 u9 : Value} {Q : Out → Mem → Prop} (h : LW M0 M S p T n) (hn : n < 512) (hlen : 6 * n + 6 ≤ mN M0 27 0) (k : KLW d M0 n Q) : WP mL_law (d + 22) 2404 [.ref (rf 27 0), .ref (rf 10 0), .ref (rf 11 0), .ref (rf 15 0), .ref (rf 16 0), .int (nI (6 * n)), u6, u7, u8, u9] [] M Q :=
  lk_addGoods (r := rC S (mI M0 27 0 (6 * n + 1)) fun i => if 1 ≤ (mI M0 27 0 (6 * n + 2)) ∧ (mI M0 27 0 (6 * n + 2)) ≤ 500 then (if (if ¬ yC (kY S) i 7 = 0 ∧ yC (kY S) i 3 + (mI M0 27 0 (6 * n + 2)) ≤ 500 then (1 : Int32) else 0) = 0 then .inl eS else r1 S p (yC (cgY (kY S) i ((mI M0 27 0 (6 * n + 2)))) i 4) (cgY (kY S) i ((mI M0 27 0 (6 * n + 2))))) else .inl eA) h hlen hn rfl rfl (c_addGoods h.c (h.p30 hn) h.kg QR9.ou) (by
    first
      | exact RO.tre (by simp)
      | exact RO.und (by simp)
      | exact RO.res (by simp)
      | exact RO.c (by simp) fun i => RO.out (by simp)
      | (repeat' (first | exact RO.one | exact RO.same | exact RO.e (by simp) | refine RO.c (by simp) (fun i => ?_) | refine RO.u (by simp) (fun i => ?_) | refine RO.gc (by simp) (fun i => ?_) | refine RO.gu (by simp) (fun i => ?_) | split))) (fun m1 q => n_addGoods (p := p) m1 (by have := h.t hn; omega) q) k
theorem lw_removeGoods {d n p T : Nat} {M0 M : Mem} {S : KS} {u6 u7 u8 u9 : Value} {Q : Out → Mem → Prop} (h : LW M0 M S p T n) (hn : n < 512) (hlen : 6 * n + 6 ≤ mN M0 27 0) (k : KLW d M0 n Q) : WP mL_law (d + 22) 2472 [.ref (rf 27 0), .ref (rf 10 0), .ref (rf 11 0), .ref (rf 15 0), .ref (rf 16 0), .int (nI (6 * n)), u6, u7, u8, u9] [] M Q :=
  lk_removeGoods (r := rC S (mI M0 27 0 (6 * n + 1)) fun i => if 1 ≤ (mI M0 27 0 (6 * n + 2)) ∧ (mI M0 27 0 (6 * n + 2)) ≤ 500 then (if (if ¬ yC (kY S) i 7 = 0 ∧ (mI M0 27 0 (6 * n + 2)) ≤ yC (kY S) i 3 then (1 : Int32) else 0) = 0 then .inl eS else r1 S p (yC (cgY (kY S) i (-(mI M0 27 0 (6 * n + 2)))) i 4) (cgY (kY S) i (-(mI M0 27 0 (6 * n + 2))))) else .inl eA) h hlen hn rfl rfl (c_removeGoods h.c (h.p30 hn) h.kg QR9.ou) (by
    first
      | exact RO.tre (by simp)
      | exact RO.und (by simp)
      | exact RO.res (by simp)
      | exact RO.c (by simp) fun i => RO.out (by simp)
      | (repeat' (first | exact RO.one | exact RO.same | exact RO.e (by simp) | refine RO.c (by simp) (fun i => ?_) | refine RO.u (by simp) (fun i => ?_) | refine RO.gc (by simp) (fun i => ?_) | refine RO.gu (by simp) (fun i => ?_) | split))) (fun m1 q => n_removeGoods (p := p) m1 (by have := h.t hn; omega) q) k
theorem lw_moveInto {d n p T : Nat} {M0 M : Mem} {S : KS} {u6 u7 u8 u9 : Value} {Q : Out → Mem → Prop} (h : LW M0 M S p T n) (hn : n < 512) (hlen : 6 * n + 6 ≤ mN M0 27 0) (k : KLW d M0 n Q) : WP mL_law (d + 22) 2540 [.ref (rf 27 0), .ref (rf 10 0), .ref (rf 11 0), .ref (rf 15 0), .ref (rf 16 0), .int (nI (6 * n)), u6, u7, u8, u9] [] M Q :=
  lk_moveInto (r := rC S (mI M0 27 0 (6 * n + 1)) fun i => rC S (mI M0 27 0 (6 * n + 2)) fun b => if yCan (kY S) i b = 0 then .inl eS else r1 S p (nI (dp (neY (kY S) i b) i)) (neY (kY S) i b)) h hlen hn rfl rfl (c_moveInto h.c (h.p30 hn) h.kg QR9.ou) (by
    first
      | exact RO.tre (by simp)
      | exact RO.und (by simp)
      | exact RO.res (by simp)
      | exact RO.c (by simp) fun i => RO.out (by simp)
      | (repeat' (first | exact RO.one | exact RO.same | exact RO.e (by simp) | refine RO.c (by simp) (fun i => ?_) | refine RO.u (by simp) (fun i => ?_) | refine RO.gc (by simp) (fun i => ?_) | refine RO.gu (by simp) (fun i => ?_) | split))) (fun m1 q => n_moveInto (p := p) m1 (by have := h.t hn; omega) q) k
theorem lw_takeOut {d n p T : Nat} {M0 M : Mem} {S : KS} {u6 u7 u8 u9 : Value} {Q : Out → Mem → Prop} (h : LW M0 M S p T n) (hn : n < 512) (hlen : 6 * n + 6 ≤ mN M0 27 0) (k : KLW d M0 n Q) : WP mL_law (d + 22) 2608 [.ref (rf 27 0), .ref (rf 10 0), .ref (rf 11 0), .ref (rf 15 0), .ref (rf 16 0), .int (nI (6 * n)), u6, u7, u8, u9] [] M Q :=
  lk_takeOut (r := rC S (mI M0 27 0 (6 * n + 1)) fun i => rOut S p i) h hlen hn rfl (c_takeOut h.c (h.p30 hn) h.kg QR9.ou) (by
    first
      | exact RO.tre (by simp)
      | exact RO.und (by simp)
      | exact RO.res (by simp)
      | exact RO.c (by simp) fun i => RO.out (by simp)
      | (repeat' (first | exact RO.one | exact RO.same | exact RO.e (by simp) | refine RO.c (by simp) (fun i => ?_) | refine RO.u (by simp) (fun i => ?_) | refine RO.gc (by simp) (fun i => ?_) | refine RO.gu (by simp) (fun i => ?_) | split))) (fun m1 q => n_takeOut (p := p) m1 (by have := h.t hn; omega) q) k
theorem lw_sell {d n p T : Nat} {M0 M : Mem} {S : KS} {u6 u7 u8 u9 : Value} {Q : Out → Mem → Prop} (h : LW M0 M S p T n) (hn : n < 512) (hlen : 6 * n + 6 ≤ mN M0 27 0) (k : KLW d M0 n Q) : WP mL_law (d + 22) 2677 [.ref (rf 27 0), .ref (rf 10 0), .ref (rf 11 0), .ref (rf 15 0), .ref (rf 16 0), .int (nI (6 * n)), u6, u7, u8, u9] [] M Q :=
  lk_sell (r := rC S (mI M0 27 0 (6 * n + 1)) fun i => rU S (mI M0 27 0 (6 * n + 2)) fun b => if yRef (kY S) i b = 0 then r1 S p (yPrice (kY S) i - fRefund (yB (kY S) b 3) (yErr (kY S) i)) (trY (kY S) i b) else .inl eS) h hlen hn rfl rfl (c_sell h.c (h.p30 hn) h.kg QR9.ou) (by
    exact RO.c (by simp) fun i => RO.u (by simp) fun b => by
      split
      · exact RO.one
      · exact RO.e (by simp)) (fun m1 q => n_sell (p := p) m1 (by have := h.t hn; omega) q) k
theorem lw_setAmplitude {d n p T : Nat} {M0 M : Mem} {S : KS} {u6 u7 u8 u9 : Value} {Q : Out → Mem → Prop} (h : LW M0 M S p T n) (hn : n < 512) (hlen : 6 * n + 6 ≤ mN M0 27 0) (k : KLW d M0 n Q) : WP mL_law (d + 22) 2745 [.ref (rf 27 0), .ref (rf 10 0), .ref (rf 11 0), .ref (rf 15 0), .ref (rf 16 0), .int (nI (6 * n)), u6, u7, u8, u9] [] M Q :=
  lk_setAmplitude (r := if 0 ≤ (mI M0 27 0 (6 * n + 1)) ∧ (mI M0 27 0 (6 * n + 1)) ≤ 50 then r1 S p (yS (kY S) 1) (uS (kY S) 1 (mI M0 27 0 (6 * n + 1))) else .inl eA) h hlen hn rfl (c_setAmplitude h.c (h.p30 hn) h.kg QR9.ou) (by
    first
      | exact RO.tre (by simp)
      | exact RO.und (by simp)
      | exact RO.res (by simp)
      | exact RO.c (by simp) fun i => RO.out (by simp)
      | (repeat' (first | exact RO.one | exact RO.same | exact RO.e (by simp) | refine RO.c (by simp) (fun i => ?_) | refine RO.u (by simp) (fun i => ?_) | refine RO.gc (by simp) (fun i => ?_) | refine RO.gu (by simp) (fun i => ?_) | split))) (fun m1 q => n_setAmplitude (p := p) m1 (by have := h.t hn; omega) q) k
theorem lw_setAging {d n p T : Nat} {M0 M : Mem} {S : KS} {u6 u7 u8 u9 : Value} {Q : Out → Mem → Prop} (h : LW M0 M S p T n) (hn : n < 512) (hlen : 6 * n + 6 ≤ mN M0 27 0) (k : KLW d M0 n Q) : WP mL_law (d + 22) 2801 [.ref (rf 27 0), .ref (rf 10 0), .ref (rf 11 0), .ref (rf 15 0), .ref (rf 16 0), .int (nI (6 * n)), u6, u7, u8, u9] [] M Q :=
  lk_setAging (r := if 1 ≤ (mI M0 27 0 (6 * n + 1)) ∧ (mI M0 27 0 (6 * n + 1)) ≤ 100 then r1 S p (yS (kY S) 2) (uS (kY S) 2 (mI M0 27 0 (6 * n + 1))) else .inl eA) h hlen hn rfl (c_setAging h.c (h.p30 hn) h.kg QR9.ou) (by
    first
      | exact RO.tre (by simp)
      | exact RO.und (by simp)
      | exact RO.res (by simp)
      | exact RO.c (by simp) fun i => RO.out (by simp)
      | (repeat' (first | exact RO.one | exact RO.same | exact RO.e (by simp) | refine RO.c (by simp) (fun i => ?_) | refine RO.u (by simp) (fun i => ?_) | refine RO.gc (by simp) (fun i => ?_) | refine RO.gu (by simp) (fun i => ?_) | split))) (fun m1 q => n_setAging (p := p) m1 (by have := h.t hn; omega) q) k
theorem lw_undo {d n p T : Nat} {M0 M : Mem} {S : KS} {u6 u7 u8 u9 : Value} {Q : Out → Mem → Prop} (h : LW M0 M S p T n) (hn : n < 512) (hlen : 6 * n + 6 ≤ mN M0 27 0) (k : KLW d M0 n Q) : WP mL_law (d + 22) 2857 [.ref (rf 27 0), .ref (rf 10 0), .ref (rf 11 0), .ref (rf 15 0), .ref (rf 16 0), .int (nI (6 * n)), u6, u7, u8, u9] [] M Q :=
  lk_undo (r := rUnd S p) h hlen hn (c_undo h.c (h.p30 hn) h.kgH QR9.ou) (by
    first
      | exact RO.tre (by simp)
      | exact RO.und (by simp)
      | exact RO.res (by simp)
      | exact RO.c (by simp) fun i => RO.out (by simp)
      | (repeat' (first | exact RO.one | exact RO.same | exact RO.e (by simp) | refine RO.c (by simp) (fun i => ?_) | refine RO.u (by simp) (fun i => ?_) | refine RO.gc (by simp) (fun i => ?_) | refine RO.gu (by simp) (fun i => ?_) | split))) (fun m1 q => n_undo (p := p) m1 (by have := h.t hn; omega) q) k
theorem lw_writeTree {d n p T : Nat} {M0 M : Mem} {S : KS} {u6 u7 u8 u9 : Value} {Q : Out → Mem → Prop} (h : LW M0 M S p T n) (hn : n < 512) (hlen : 6 * n + 6 ≤ mN M0 27 0) (k : KLW d M0 n Q) : WP mL_law (d + 22) 2901 [.ref (rf 27 0), .ref (rf 10 0), .ref (rf 11 0), .ref (rf 15 0), .ref (rf 16 0), .int (nI (6 * n)), u6, u7, u8, u9] [] M Q :=
  lk_writeTree (r := rTre S p (mI M0 27 0 (6 * n + 1))) h hlen hn rfl (c_writeTree h.c h.gro (h.che hn) (h.wr hn) QR9.ou) (by
    first
      | exact RO.tre (by simp)
      | exact RO.und (by simp)
      | exact RO.res (by simp)
      | exact RO.c (by simp) fun i => RO.out (by simp)
      | (repeat' (first | exact RO.one | exact RO.same | exact RO.e (by simp) | refine RO.c (by simp) (fun i => ?_) | refine RO.u (by simp) (fun i => ?_) | refine RO.gc (by simp) (fun i => ?_) | refine RO.gu (by simp) (fun i => ?_) | split))) (fun m1 q => n_writeTree (p := p) m1 (by have := h.t hn; omega) q) k
theorem lw_restoreState {d n p T : Nat} {M0 M : Mem} {S : KS} {u6 u7 u8 u9 : Value} {Q : Out → Mem → Prop} (h : LW M0 M S p T n) (hn : n < 512) (hlen : 6 * n + 6 ≤ mN M0 27 0) (k : KLW d M0 n Q) : WP mL_law (d + 22) 2995 [.ref (rf 27 0), .ref (rf 10 0), .ref (rf 11 0), .ref (rf 15 0), .ref (rf 16 0), .int (nI (6 * n)), u6, u7, u8, u9] [] M Q :=
  lk_restoreState (r := rRes S p) h hlen hn (c_restoreState h.c h.kgV QR9.ou) (by
    first
      | exact RO.tre (by simp)
      | exact RO.und (by simp)
      | exact RO.res (by simp)
      | exact RO.c (by simp) fun i => RO.out (by simp)
      | (repeat' (first | exact RO.one | exact RO.same | exact RO.e (by simp) | refine RO.c (by simp) (fun i => ?_) | refine RO.u (by simp) (fun i => ?_) | refine RO.gc (by simp) (fun i => ?_) | refine RO.gu (by simp) (fun i => ?_) | split))) (fun m1 q => n_restoreState (p := p) m1 (by have := h.t hn; omega) q) k
