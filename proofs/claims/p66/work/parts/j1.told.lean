/-! the text told to the class -/
set_option maxHeartbeats 1000000 in
set_option maxRecDepth 4000 in
theorem c_app9 {d : Nat} {S : KS} {p : Nat} {x1 x2 x3 x4 x5 : Int32} {M : Mem} {Q : Out → Mem → Prop} (h : CSt M S p) (z : ¬ 600 < kN S + 20) (hq : ∀ M', CSt M' (kSt S (ap20 (kB S) (kN S) x1 x2 x3 x4 x5) (kN S + 20) (kE S) (kQ S)) p → Fr inT M M' → Q (.inl (some (.int (nI (kN S + 20))))) M') : WPc (d + 20) mX12_appendInput [.ref (rf 10 0), .int x1, .int x2, .int x3, .int x4, .int x5] M Q := by
  refine WPc.of (by decide +kernel) (Nat.le_of_ble_eq_true rfl) rfl ?_
  have hn := h.t.hn
  refine R.aload_n dX12_appendInput_0 rfl (by first | rfl | exact rfv_rf _) ?_
  refine R.getS (h.l.2.2.2.2.1) dX12_appendInput_1 fl_X12_32 (by decide) rfl ?_
  refine R.getI dX12_appendInput_4 fl_X12_89 (by decide) rfl ?_
  rw [h.t.hl]
  refine R.bipush (v := nI 20) dX12_appendInput_7 (by decide) ?_
  refine R.iadd dX12_appendInput_9 ?_
  rw [nI_add]
  refine R.sipush (v := nI 600) dX12_appendInput_10 (by decide) ?_
  refine R.icmp_le (tgt := 18) dX12_appendInput_13 (by decide) (fun _ => ?_) (fun c => absurd (nI_le (by omega) (by omega)) c)
  refine R.aload_n dX12_appendInput_18 rfl (by first | rfl | exact rfv_rf _) ?_
  refine R.getS (h.l.2.2.2.2.1) dX12_appendInput_19 fl_X12_32 (by decide) rfl ?_
  refine R.iload_n dX12_appendInput_22 rfl ?_
  refine cl_X12_93 rfl rfl (by first | exact Nat.le_of_ble_eq_true rfl | simp [rf_cat, Value.category]) dX12_appendInput_23 ?_
  refine s_tAppI h.t (by omega) (fun M1 h1 F1 => ?_)
  refine R.aload_n dX12_appendInput_26 rfl (by first | rfl | exact rfv_rf _) ?_
  refine R.getS (by rw [(F1.2.2.2.2 10 0 (by unfold inT; omega)).2.2.1]; exact h.l.2.2.2.2.1) dX12_appendInput_27 fl_X12_32 (by decide) rfl ?_
  refine R.iload_n dX12_appendInput_30 rfl ?_
  refine cl_X12_93 rfl rfl (by first | exact Nat.le_of_ble_eq_true rfl | simp [rf_cat, Value.category]) dX12_appendInput_31 ?_
  refine s_tAppI h1 (by omega) (fun M2 h2 F2 => ?_)
  refine R.aload_n dX12_appendInput_34 rfl (by first | rfl | exact rfv_rf _) ?_
  refine R.getS (by rw [(F2.2.2.2.2 10 0 (by unfold inT; omega)).2.2.1, (F1.2.2.2.2 10 0 (by unfold inT; omega)).2.2.1]; exact h.l.2.2.2.2.1) dX12_appendInput_35 fl_X12_32 (by decide) rfl ?_
  refine R.iload_n dX12_appendInput_38 rfl ?_
  refine cl_X12_93 rfl rfl (by first | exact Nat.le_of_ble_eq_true rfl | simp [rf_cat, Value.category]) dX12_appendInput_39 ?_
  refine s_tAppI h2 (by omega) (fun M3 h3 F3 => ?_)
  refine R.aload_n dX12_appendInput_42 rfl (by first | rfl | exact rfv_rf _) ?_
  refine R.getS (by rw [(F3.2.2.2.2 10 0 (by unfold inT; omega)).2.2.1, (F2.2.2.2.2 10 0 (by unfold inT; omega)).2.2.1, (F1.2.2.2.2 10 0 (by unfold inT; omega)).2.2.1]; exact h.l.2.2.2.2.1) dX12_appendInput_43 fl_X12_32 (by decide) rfl ?_
  refine R.iload dX12_appendInput_46 rfl ?_
  refine cl_X12_93 rfl rfl (by first | exact Nat.le_of_ble_eq_true rfl | simp [rf_cat, Value.category]) dX12_appendInput_48 ?_
  refine s_tAppI h3 (by omega) (fun M4 h4 F4 => ?_)
  refine R.aload_n dX12_appendInput_51 rfl (by first | rfl | exact rfv_rf _) ?_
  refine R.getS (by rw [(F4.2.2.2.2 10 0 (by unfold inT; omega)).2.2.1, (F3.2.2.2.2 10 0 (by unfold inT; omega)).2.2.1, (F2.2.2.2.2 10 0 (by unfold inT; omega)).2.2.1, (F1.2.2.2.2 10 0 (by unfold inT; omega)).2.2.1]; exact h.l.2.2.2.2.1) dX12_appendInput_52 fl_X12_32 (by decide) rfl ?_
  refine R.iload dX12_appendInput_55 rfl ?_
  refine cl_X12_93 rfl rfl (by first | exact Nat.le_of_ble_eq_true rfl | simp [rf_cat, Value.category]) dX12_appendInput_57 ?_
  refine s_tAppI h4 (by omega) (fun M5 h5 F5 => ?_)
  refine R.aload_n dX12_appendInput_60 rfl (by first | rfl | exact rfv_rf _) ?_
  refine R.getS (by rw [(F5.2.2.2.2 10 0 (by unfold inT; omega)).2.2.1, (F4.2.2.2.2 10 0 (by unfold inT; omega)).2.2.1, (F3.2.2.2.2 10 0 (by unfold inT; omega)).2.2.1, (F2.2.2.2.2 10 0 (by unfold inT; omega)).2.2.1, (F1.2.2.2.2 10 0 (by unfold inT; omega)).2.2.1]; exact h.l.2.2.2.2.1) dX12_appendInput_61 fl_X12_32 (by decide) rfl ?_
  refine R.getI dX12_appendInput_64 fl_X12_89 (by decide) rfl ?_
  rw [h5.hl]
  refine WP.ret (ov := some (.int _)) dX12_appendInput_67 ⟨rfl, _, rfl, by first | rfl | assumption | exact nar_b01 (by assumption)⟩ ?_
  have FT := (((F1.tr F2).tr F3).tr F4).tr F5
  exact hq _ (h.tx h5 FT) FT
/-- m bytes from place s on, as one number -/
def pkN (c : Nat → Nat) (s : Nat) : Nat → Nat
  | 0 => 0
  | m + 1 => pkN c s m * 256 + c (s + m)
theorem pkN_lt {c : Nat → Nat} (hc : ∀ j, c j < 128) (s : Nat) : ∀ m, pkN c s m < 256 ^ m := by
  intro m
  induction m with
  | zero => exact Nat.one_pos
  | succ m ih =>
    have := hc (s + m)
    have e : 256 ^ (m + 1) = 256 ^ m * 256 := Nat.pow_succ 256 m
    show pkN c s m * 256 + c (s + m) < _
    omega
theorem shl8 {x c : Nat} (hx : x < 2 ^ 24) (hc : c < 256) : (nI x <<< ((8 : Int32) &&& 31)) ||| nI c = nI (x * 256 + c) := by
  apply Int32.toBitVec_inj.mp
  apply BitVec.eq_of_toNat_eq
  have e1 : ((nI x <<< ((8 : Int32) &&& 31)) ||| nI c).toBitVec = (BitVec.ofNat 32 x <<< (8 : Nat)) ||| BitVec.ofNat 32 c := by
    show (BitVec.ofNat 32 x <<< ((((8 : Int32) &&& 31).toBitVec).smod 32)) ||| BitVec.ofNat 32 c = _
    rw [show (((8 : Int32) &&& 31).toBitVec).smod 32 = BitVec.ofNat 32 8 by decide]
    rfl
  rw [e1, BitVec.toNat_or, BitVec.toNat_shiftLeft, BitVec.toNat_ofNat, BitVec.toNat_ofNat]
  show _ = (BitVec.ofNat 32 (x * 256 + c)).toNat
  rw [BitVec.toNat_ofNat, Nat.mod_eq_of_lt (a := x) (by omega), Nat.mod_eq_of_lt (a := c) (by omega), Nat.mod_eq_of_lt (a := x * 256 + c) (by omega)]
  have e2 : x <<< 8 = x * 256 := by rw [Nat.shiftLeft_eq]
  rw [e2, Nat.mod_eq_of_lt (by omega)]
  have := Nat.shiftLeft_add_eq_or_of_lt (i := 8) (b := c) (show c < 2 ^ 8 by omega) x
  rw [e2] at this
  exact this.symm
theorem dv_nI {a b : Nat} (ha : a < 1000) (hb : 0 < b) (hb2 : b < 1000) : nI a / nI b = nI (a / b) := by
  have ea : (nI a).toInt = a := nI_toInt (by omega)
  have eb : (nI b).toInt = b := nI_toInt (by omega)
  obtain ⟨q, hq⟩ : ∃ q, q = a / b := ⟨_, rfl⟩
  have h1 : q ≤ a := by rw [hq]; exact Nat.div_le_self _ _
  have hd : ((a : Int).tdiv (b : Int)) = (q : Int) := by rw [hq]; exact (Int.ofNat_tdiv a b).symm
  apply Int32.toInt_inj.mp
  have hb1 : -2147483648 ≤ (nI a).toInt.tdiv (nI b).toInt ∧ (nI a).toInt.tdiv (nI b).toInt ≤ 2147483647 := by
    rw [ea, eb, hd]; omega
  rw [i_div hb1.1 hb1.2, ea, eb, hd, ← hq, nI_toInt (by omega)]
theorem t8 (m : Nat) : (nI m).toInt8 = (nI (m % 256)).toInt8 := by
  apply Int8.toBitVec_inj.mp
  apply BitVec.eq_of_toNat_eq
  show ((BitVec.ofNat 32 m).signExtend 8).toNat = ((BitVec.ofNat 32 (m % 256)).signExtend 8).toNat
  rw [BitVec.signExtend_eq_setWidth_of_le _ (by decide), BitVec.signExtend_eq_setWidth_of_le _ (by decide), BitVec.toNat_setWidth, BitVec.toNat_setWidth, BitVec.toNat_ofNat, BitVec.toNat_ofNat]
  omega
theorem bt_nI {m c : Nat} (h : m % 256 = c) (hc : c < 128) : bt (nI m) = nI c := by
  unfold bt
  rw [t8, h, i2b_k hc, vp_byte hc]
/-- letter j of a text, a space behind its end -/
def cO (O : List Int32) (j : Nat) : Nat := match O[j]? with
  | some x => x.toNatClampNeg
  | none => 32
theorem cO_in {O : List Int32} (hP : Pl O) {j : Nat} (hj : j < O.length) : O[j]? = some (nI (cO O j)) ∧ cO O j < 128 := by
  have hx : O[j]? = some O[j] := List.getElem?_eq_getElem hj
  obtain ⟨k, hk, hk2⟩ := hP _ (List.getElem_mem hj)
  have e : cO O j = k := by
    unfold cO
    rw [hx, hk]
    exact nI_clamp (by omega)
  rw [e, hx, hk]
  exact ⟨rfl, hk2⟩
theorem cO_out {O : List Int32} {j : Nat} (hj : O.length ≤ j) : cO O j = 32 := by
  unfold cO
  rw [List.getElem?_eq_none hj]
theorem cO_lt {O : List Int32} (hP : Pl O) (j : Nat) : cO O j < 128 := by
  by_cases h : j < O.length
  · exact (cO_in hP h).2
  · rw [cO_out (by omega)]; decide
/-- four bytes of a word come out as they went in -/
theorem ap4_e {c : Nat → Nat} (hc : ∀ j, c j < 128) (b : Nat → Int32) (n s : Nat) : ∀ j, ap4 b n (nI (pkN c s 4)) j = if n ≤ j ∧ j < n + 4 then nI (c (s + (j - n))) else b j := by
  intro j
  have h0 := hc s
  have h1 := hc (s + 1)
  have h2 := hc (s + 2)
  have h3 := hc (s + 3)
  have e : pkN c s 4 = ((c s * 256 + c (s + 1)) * 256 + c (s + 2)) * 256 + c (s + 3) := by
    show (((0 * 256 + c (s + 0)) * 256 + c (s + 1)) * 256 + c (s + 2)) * 256 + c (s + 3) = _
    rw [Nat.add_zero]; omega
  obtain ⟨X, hX⟩ : ∃ X, X = pkN c s 4 := ⟨_, rfl⟩
  rw [← hX] at e ⊢
  have hXl : X < 2 ^ 31 := by omega
  have b3 : bt (nI X) = nI (c (s + 3)) := bt_nI (by omega) h3
  have b2 : bt (nI X >>> ((8 : Int32) &&& 31)) = nI (c (s + 2)) := by
    rw [pk_shrN hXl ((8 : Int32) &&& 31) 8 (by decide)]
    exact bt_nI (by omega) h2
  have b1 : bt (nI X >>> ((16 : Int32) &&& 31)) = nI (c (s + 1)) := by
    rw [pk_shrN hXl ((16 : Int32) &&& 31) 16 (by decide)]
    exact bt_nI (by omega) h1
  have b0 : bt (nI X >>> ((24 : Int32) &&& 31)) = nI (c s) := by
    rw [pk_shrN hXl ((24 : Int32) &&& 31) 24 (by decide)]
    exact bt_nI (by omega) h0
  unfold ap4 upB
  rw [b0, b1, b2, b3]
  by_cases z3 : j = n + 3
  · rw [if_pos z3, if_pos (by omega), show s + (j - n) = s + 3 by omega]
  · rw [if_neg z3]
    by_cases z2 : j = n + 2
    · rw [if_pos z2, if_pos (by omega), show s + (j - n) = s + 2 by omega]
    · rw [if_neg z2]
      by_cases z1 : j = n + 1
      · rw [if_pos z1, if_pos (by omega), show s + (j - n) = s + 1 by omega]
      · rw [if_neg z1]
        by_cases z0 : j = n
        · rw [if_pos z0, if_pos (by omega), show s + (j - n) = s by omega]
        · rw [if_neg z0, if_neg (by omega)]
theorem ap20_e {c : Nat → Nat} (hc : ∀ j, c j < 128) (b : Nat → Int32) (n s : Nat) : ∀ j, ap20 b n (nI (pkN c s 4)) (nI (pkN c (s + 4) 4)) (nI (pkN c (s + 8) 4)) (nI (pkN c (s + 12) 4)) (nI (pkN c (s + 16) 4)) j = if n ≤ j ∧ j < n + 20 then nI (c (s + (j - n))) else b j := by
  intro j
  unfold ap20
  rw [ap4_e hc, ap4_e hc, ap4_e hc, ap4_e hc, ap4_e hc]
  by_cases z4 : n + 16 ≤ j ∧ j < n + 16 + 4
  · rw [if_pos z4, if_pos (by omega), show s + 16 + (j - (n + 16)) = s + (j - n) by omega]
  · rw [if_neg z4]
    by_cases z3 : n + 12 ≤ j ∧ j < n + 12 + 4
    · rw [if_pos z3, if_pos (by omega), show s + 12 + (j - (n + 12)) = s + (j - n) by omega]
    · rw [if_neg z3]
      by_cases z2 : n + 8 ≤ j ∧ j < n + 8 + 4
      · rw [if_pos z2, if_pos (by omega), show s + 8 + (j - (n + 8)) = s + (j - n) by omega]
      · rw [if_neg z2]
        by_cases z1 : n + 4 ≤ j ∧ j < n + 4 + 4
        · rw [if_pos z1, if_pos (by omega), show s + 4 + (j - (n + 4)) = s + (j - n) by omega]
        · rw [if_neg z1]
          by_cases z0 : n ≤ j ∧ j < n + 4
          · rw [if_pos z0, if_pos (by omega)]
          · rw [if_neg z0, if_neg (by omega)]
/-- but for array v of ints nothing has changed -/
def F14 (v : Nat) (M M' : Mem) : Prop := (∀ k i, ¬ (k = 14 ∧ i = v) → Sm M M' k i) ∧ mC M' = mC M ∧ mN M' = mN M ∧ mK M' = mK M ∧ mS M' = mS M
theorem F14.rf (v : Nat) (M : Mem) : F14 v M M := ⟨fun _ _ _ => Sm.rf _ _ _, rfl, rfl, rfl, rfl⟩
theorem StO.sm {M M' : Mem} {i w : Nat} {O : List Int32} (h : StO M i w O) (h1 : Sm M M' 36 i) (h2 : Sm M M' 13 w) : StO M' i w O := by
  obtain ⟨a, b, c, d⟩ := h
  exact ⟨by rw [h1.2.2.1]; exact a, by rw [h1.1]; exact b, by rw [h2.2.2.2.2]; exact c, fun j x hx => by rw [h2.1]; exact d j x hx⟩
abbrev s14 (M : Mem) (v f : Nat) (x : Int32) : Mem := sI M 14 v f x
theorem F14.st {M M' : Mem} {v f : Nat} {x : Int32} (h : F14 v M M') : F14 v M (s14 M' v f x) := by
  obtain ⟨a, b, c, d, e⟩ := h
  refine ⟨fun k i hn => ?_, b, c, d, e⟩
  have g := a k i hn
  refine ⟨?_, g.2.1, g.2.2.1, g.2.2.2.1, g.2.2.2.2⟩
  funext f'
  show mI (sI M' 14 v f x) k i f' = _
  rw [mI_sI, if_neg (fun q => hn ⟨q.1, q.2.1⟩), g.1]
set_option maxHeartbeats 1000000 in
set_option maxRecDepth 8000 in
theorem tl_in {d i0 w0 v k : Nat} {O : List Int32} {M0 : Mem} {Q : Out → Mem → Prop} (hP : Pl O) (hl : O.length ≤ 300) (hk : k < 300) (hS : StO M0 i0 w0 O) (hv5 : mN M0 14 v = 5) (hq : ∀ M' v4, F14 v M0 M' → (∀ q, q < 5 → mI M' 14 v q = nI (pkN (cO O) (k + 4 * q) 4)) → WP mL_told (d + 22) 70 [.ref (rf 10 0), .ref (rf 36 i0), .int (nI k), .ref (rf 14 v), v4] [] M' Q) : ∀ (f i : Nat) (M1 : Mem), i + f = 20 → F14 v M0 M1 → (∀ q, q < 5 → mI M1 14 v q = nI (pkN (cO O) (k + 4 * q) (min 4 (i - 4 * q)))) → WP mL_told (d + 22) 17 [.ref (rf 10 0), .ref (rf 36 i0), .int (nI k), .ref (rf 14 v), .int (nI i)] [] M1 Q := by
  intro f
  induction f with
  | zero =>
    intro i M1 hi hF hI
    have e : i = 20 := by omega
    subst e
    refine R.iload dL_told_17 rfl ?_
    refine R.bipush (v := nI 20) dL_told_19 (by decide) ?_
    refine R.icmp_ge (tgt := 70) dL_told_21 (by decide) (fun _ => ?_) (fun z => absurd (Int32.le_refl _) z)
    refine hq M1 _ hF (fun q hq9 => ?_)
    rw [hI q hq9, show min 4 (20 - 4 * q) = 4 by omega]
  | succ f ih =>
    intro i M1 hi hF hI
    have hS1 : StO M1 i0 w0 O := hS.sm (hF.1 36 i0 (by omega)) (hF.1 13 w0 (by omega))
    have hn1 : mN M1 14 v = 5 := by rw [hF.2.2.1]; exact hv5
    have hq4 : i / 4 < 5 := by omega
    have hlt : pkN (cO O) (k + 4 * (i / 4)) (min 4 (i - 4 * (i / 4))) < 2 ^ 24 := by
      have h1 := pkN_lt (cO_lt hP) (k + 4 * (i / 4)) (min 4 (i - 4 * (i / 4)))
      have h2 : 256 ^ (min 4 (i - 4 * (i / 4))) ≤ 256 ^ 3 := Nat.pow_le_pow_right (by decide) (by omega)
      omega
    have hst : pkN (cO O) (k + 4 * (i / 4)) (min 4 (i - 4 * (i / 4))) * 256 + cO O (k + i) = pkN (cO O) (k + 4 * (i / 4)) (min 4 (i + 1 - 4 * (i / 4))) := by
      rw [show min 4 (i + 1 - 4 * (i / 4)) = min 4 (i - 4 * (i / 4)) + 1 by omega, pkN, show k + 4 * (i / 4) + min 4 (i - 4 * (i / 4)) = k + i by omega]
    have go : WP mL_told (d + 22) 62 [.ref (rf 10 0), .ref (rf 36 i0), .int (nI k), .ref (rf 14 v), .int (nI i)] [.int (nI (cO O (k + i))), .int (nI (pkN (cO O) (k + 4 * (i / 4)) (min 4 (i - 4 * (i / 4)))) <<< ((8 : Int32) &&& 31)), .int (nI (i / 4)), .ref (rf 14 v)] M1 Q := by
      refine R.ior dL_told_62 ?_
      rw [shl8 hlt (Nat.lt_trans (cO_lt hP _) (by decide)), hst]
      refine R.iastN dL_told_63 (by omega) (by omega) ?_
      refine R.iinc dL_told_64 (Nat.le_of_ble_eq_true rfl) (by decide) rfl rfl (inc_nI _) rfl ?_
      refine R.goto (tgt := 17) dL_told_67 (by decide) ?_
      refine ih (i + 1) _ (by omega) hF.st (fun q hq9 => ?_)
      rw [mI_sI]
      by_cases z : q = i / 4
      · subst z
        rw [if_pos ⟨rfl, rfl, rfl⟩]
      · rw [if_neg (fun y => z y.2.2), hI q hq9, show min 4 (i + 1 - 4 * q) = min 4 (i - 4 * q) by omega]
    by_cases zl : k + i < O.length
    · obtain ⟨hx, hx2⟩ := cO_in hP zl
      refine R.iload dL_told_17 rfl ?_
      refine R.bipush (v := nI 20) dL_told_19 (by decide) ?_
      refine R.icmp_ge (tgt := 70) dL_told_21 (by decide) (fun z => absurd (nI_lt (show i < 20 by omega) (by omega)) (Int32.not_lt.mpr z)) (fun _ => ?_)
      refine R.aload_n dL_told_24 rfl (by first | rfl | exact rfv_rf _) ?_
      refine R.iload dL_told_25 rfl ?_
      refine R.iconst (v := nI 4) dL_told_27 rfl ?_
      refine R.idiv dL_told_28 (by decide) ?_
      rw [dv_nI (by omega) (by decide) (by decide)]
      refine R.aload_n dL_told_29 rfl (by first | rfl | exact rfv_rf _) ?_
      refine R.iload dL_told_30 rfl ?_
      refine R.iconst (v := nI 4) dL_told_32 rfl ?_
      refine R.idiv dL_told_33 (by decide) ?_
      rw [dv_nI (by omega) (by decide) (by decide)]
      refine R.ialdN dL_told_34 (by omega) (by omega) ?_
      rw [hI _ hq4]
      refine R.bipush (v := 8) dL_told_35 (by decide) ?_
      refine R.ishl dL_told_37 ?_
      refine R.iload_n dL_told_38 rfl ?_
      refine R.iload dL_told_39 rfl ?_
      refine R.iadd dL_told_41 ?_
      rw [nI_add]
      refine R.aload_n dL_told_42 rfl (by first | rfl | exact rfv_rf _) ?_
      refine cl_L_7 rfl rfl (by first | exact Nat.le_of_ble_eq_true rfl | simp [rf_cat, Value.category]) dL_told_43 ?_
      refine t_len36 hS1 ?_
      refine R.icmp_ge (tgt := 60) dL_told_46 (by decide) (fun z => absurd (nI_lt zl (by omega)) (Int32.not_lt.mpr z)) (fun _ => ?_)
      refine R.aload_n dL_told_49 rfl (by first | rfl | exact rfv_rf _) ?_
      refine R.iload_n dL_told_50 rfl ?_
      refine R.iload dL_told_51 rfl ?_
      refine R.iadd dL_told_53 ?_
      rw [nI_add]
      refine cl_L_13 rfl rfl (by first | exact Nat.le_of_ble_eq_true rfl | simp [rf_cat, Value.category]) dL_told_54 ?_
      refine t_ch36 hS1 (by omega) hx hx2 ?_
      refine R.goto (tgt := 62) dL_told_57 (by decide) ?_
      exact go
    · have hx := cO_out (O := O) (j := k + i) (by omega)
      rw [hx] at go
      refine R.iload dL_told_17 rfl ?_
      refine R.bipush (v := nI 20) dL_told_19 (by decide) ?_
      refine R.icmp_ge (tgt := 70) dL_told_21 (by decide) (fun z => absurd (nI_lt (show i < 20 by omega) (by omega)) (Int32.not_lt.mpr z)) (fun _ => ?_)
      refine R.aload_n dL_told_24 rfl (by first | rfl | exact rfv_rf _) ?_
      refine R.iload dL_told_25 rfl ?_
      refine R.iconst (v := nI 4) dL_told_27 rfl ?_
      refine R.idiv dL_told_28 (by decide) ?_
      rw [dv_nI (by omega) (by decide) (by decide)]
      refine R.aload_n dL_told_29 rfl (by first | rfl | exact rfv_rf _) ?_
      refine R.iload dL_told_30 rfl ?_
      refine R.iconst (v := nI 4) dL_told_32 rfl ?_
      refine R.idiv dL_told_33 (by decide) ?_
      rw [dv_nI (by omega) (by decide) (by decide)]
      refine R.ialdN dL_told_34 (by omega) (by omega) ?_
      rw [hI _ hq4]
      refine R.bipush (v := 8) dL_told_35 (by decide) ?_
      refine R.ishl dL_told_37 ?_
      refine R.iload_n dL_told_38 rfl ?_
      refine R.iload dL_told_39 rfl ?_
      refine R.iadd dL_told_41 ?_
      rw [nI_add]
      refine R.aload_n dL_told_42 rfl (by first | rfl | exact rfv_rf _) ?_
      refine cl_L_7 rfl rfl (by first | exact Nat.le_of_ble_eq_true rfl | simp [rf_cat, Value.category]) dL_told_43 ?_
      refine t_len36 hS1 ?_
      refine R.icmp_ge (tgt := 60) dL_told_46 (by decide) (fun _ => ?_) (fun z => absurd (Int32.not_lt.mp (nI_nlt (by omega) (by omega))) z)
      refine R.bipush (v := nI 32) dL_told_60 (by decide) ?_
      exact go
/-- what telling leaves alone -/
def FTl (t : Nat) (M M' : Mem) : Prop := (∀ k i, k ≠ 14 → ¬ inT k i → Sm M M' k i) ∧ (∀ k, k ≠ 14 → mC M' k = mC M k) ∧ mK M' = mK M + t ∧ mS M' = mS M + 5 * t
theorem FTl.rf (M : Mem) : FTl 0 M M := ⟨fun _ _ _ _ => Sm.rf _ _ _, fun _ _ => rfl, rfl, rfl⟩
theorem CSt.f14 {M M' : Mem} {S : KS} {p v : Nat} (h : CSt M S p) (F : F14 v M M') : CSt M' S p :=
  h.fq (c := mC M 13) (fun k i hn => F.1 k i (fun z => hn (Or.inl (by unfold inK; omega)))) (Nat.le_refl _) (by rw [F.2.1]; exact Nat.le_refl _)
theorem CSt.al14 {M : Mem} {S : KS} {p n s : Nat} (h : CSt M S p) : CSt (al M 14 n s) S p :=
  h.fq (c := mC M 13) (((FC.rf _ M).al (Or.inl (by unfold inK; omega)))) (Nat.le_refl _) (by rw [mC_al, if_neg (by decide)]; exact Nat.le_refl _)
set_option maxHeartbeats 2000000 in
set_option maxRecDepth 8000 in
theorem tl_out {d i0 w0 : Nat} {O : List Int32} {M0 : Mem} {p : Nat} {Q : Out → Mem → Prop} (hP : Pl O) (hl : O.length ≤ 300) (hw0 : 1 ≤ w0) (hS : StO M0 i0 w0 O) (hq : ∀ M' S' t v3 v4, CSt M' S' p → kN S' = 20 * t → O.length ≤ 20 * t → t ≤ 15 → (∀ j, j < 20 * t → kB S' j = nI (cO O j)) → FTl t M0 M' → WP mL_told (d + 22) 96 [.ref (rf 10 0), .ref (rf 36 i0), .int (nI (20 * t)), v3, v4] [] M' Q) : ∀ (f t : Nat) (S : KS) (M1 : Mem) (v3 v4 : Value), t + f = 16 → 20 * t < O.length + 20 → CSt M1 S p → kN S = 20 * t → (∀ j, j < 20 * t → kB S j = nI (cO O j)) → FTl t M0 M1 → WP mL_told (d + 22) 2 [.ref (rf 10 0), .ref (rf 36 i0), .int (nI (20 * t)), v3, v4] [] M1 Q := by
  intro f
  induction f with
  | zero =>
    intro t S M1 v3 v4 ht hlt; omega
  | succ f ih =>
    intro t S M1 v3 v4 ht hlt hC hN hB hF
    have hS1 : StO M1 i0 w0 O := hS.sm (hF.1 36 i0 (by decide) (by unfold inT; omega)) (hF.1 13 w0 (by decide) (by unfold inT; omega))
    by_cases zl : 20 * t < O.length
    · skip
      refine R.iload_n dL_told_2 rfl ?_
      refine R.aload_n dL_told_3 rfl (by first | rfl | exact rfv_rf _) ?_
      refine cl_L_7 rfl rfl (by first | exact Nat.le_of_ble_eq_true rfl | simp [rf_cat, Value.category]) dL_told_4 ?_
      refine t_len36 hS1 ?_
      refine R.icmp_ge (tgt := 96) dL_told_7 (by decide) (fun z => absurd (nI_lt zl (by omega)) (Int32.not_lt.mpr z)) (fun _ => ?_)
      refine R.iconst (v := nI 5) dL_told_10 rfl ?_
      refine R.newarr (k := 14) (N := 5) (by decide) (by decide) rfl ac_int (by decide) (by decide) (by decide) dL_told_11 ?_
      refine R.astore_n dL_told_13 (by first | rfl | exact rfv_rf _) (Nat.le_of_ble_eq_true rfl) (by decide) (by first | rfl | simp [lft, rf_cat]) rfl ?_
      skip
      obtain ⟨v, hv⟩ : ∃ v, v = mC M1 14 := ⟨_, rfl⟩
      rw [← hv]
      have hC2 : CSt (al M1 14 5 5) S p := hC.al14
      have hS2 : StO (al M1 14 5 5) i0 w0 O := by
        obtain ⟨a, b, c, d⟩ := hS1
        exact ⟨a, by rw [mI_al, if_neg (by omega)]; exact b, by rw [mN_al, if_neg (by omega)]; exact c, fun j x hx => by rw [mI_al, if_neg (by omega)]; exact d j x hx⟩
      have hN2 : mN (al M1 14 5 5) 14 v = 5 := by rw [mN_al, if_pos ⟨rfl, hv⟩]
      have hI2 : ∀ q, q < 5 → mI (al M1 14 5 5) 14 v q = nI (pkN (cO O) (20 * t + 4 * q) (min 4 (0 - 4 * q))) := fun q _ => by
        rw [mI_al, if_pos ⟨rfl, hv⟩, show min 4 (0 - 4 * q) = 0 by omega]
        rfl
      refine R.iconst (v := nI 0) dL_told_14 rfl ?_
      refine R.istore dL_told_15 (Nat.le_of_ble_eq_true rfl) (by decide) (by first | rfl | simp [lft, rf_cat]) rfl ?_
      skip
      refine tl_in hP hl (by omega) hS2 hN2 (fun M3 v49 F3 hI3 => ?_) 20 0 _ (by omega) (F14.rf v _) hI2
      have hN3 : mN M3 14 v = 5 := by rw [F3.2.2.1]; exact hN2
      have hC3 := hC2.f14 F3
      refine R.aload_n dL_told_70 rfl (by first | rfl | exact rfv_rf _) ?_
      refine R.aload_n dL_told_71 rfl (by first | rfl | exact rfv_rf _) ?_
      refine R.iconst (v := nI 0) dL_told_72 rfl ?_
      refine R.ialdN (k := 0) dL_told_73 (by decide) (by omega) ?_
      rw [hI3 0 (by decide)]
      refine R.aload_n dL_told_74 rfl (by first | rfl | exact rfv_rf _) ?_
      refine R.iconst (v := nI 1) dL_told_75 rfl ?_
      refine R.ialdN (k := 1) dL_told_76 (by decide) (by omega) ?_
      rw [hI3 1 (by decide)]
      refine R.aload_n dL_told_77 rfl (by first | rfl | exact rfv_rf _) ?_
      refine R.iconst (v := nI 2) dL_told_78 rfl ?_
      refine R.ialdN (k := 2) dL_told_79 (by decide) (by omega) ?_
      rw [hI3 2 (by decide)]
      refine R.aload_n dL_told_80 rfl (by first | rfl | exact rfv_rf _) ?_
      refine R.iconst (v := nI 3) dL_told_81 rfl ?_
      refine R.ialdN (k := 3) dL_told_82 (by decide) (by omega) ?_
      rw [hI3 3 (by decide)]
      refine R.aload_n dL_told_83 rfl (by first | rfl | exact rfv_rf _) ?_
      refine R.iconst (v := nI 4) dL_told_84 rfl ?_
      refine R.ialdN (k := 4) dL_told_85 (by decide) (by omega) ?_
      rw [hI3 4 (by decide)]
      refine cl_L_17 rfl rfl (by first | exact Nat.le_of_ble_eq_true rfl | simp [rf_cat, Value.category]) dL_told_86 ?_
      refine c_app9 (d := d + 1) hC3 (by rw [hN]; omega) (fun M4 hC4 F4 => ?_)
      refine R.pop dL_told_89 (by first | rfl | exact rf_cat _) ?_
      refine R.iinc dL_told_90 (Nat.le_of_ble_eq_true rfl) (by decide) (by first | rfl | simp [lft, rf_cat]) rfl (show nI (20 * t) + Int32.ofInt 20 = nI (20 * (t + 1)) by rw [show Int32.ofInt 20 = nI 20 by decide, nI_add, Nat.mul_add]) rfl ?_
      refine R.goto (tgt := 2) dL_told_93 (by decide) ?_
      refine ih (t + 1) _ M4 _ _ (by omega) (by omega) hC4 (by show kN S + 20 = _; rw [hN]; omega) (fun j hj => ?_) ?_
      · show ap20 (kB S) (kN S) _ _ _ _ _ j = _
        refine Eq.trans (ap20_e (cO_lt hP) (kB S) (kN S) (20 * t) j) ?_
        rw [hN]
        by_cases z : 20 * t ≤ j
        · rw [if_pos ⟨z, by omega⟩, show 20 * t + (j - 20 * t) = j by omega]
        · rw [if_neg (fun y => z y.1)]
          exact hB j (by omega)
      · obtain ⟨f1, f2, f3, f4⟩ := hF
        obtain ⟨g1, g2, g3, g4, g5⟩ := F3
        obtain ⟨h1, h2, h3, h4, h5⟩ := F4
        refine ⟨fun k i hk hT => ?_, fun k hk => ?_, ?_, ?_⟩
        · have e1 := f1 k i hk hT
          have e2 := g1 k i (fun z => hk z.1)
          have e3 := h5 k i hT
          have e0 : Sm M1 (al M1 14 5 5) k i := by
            have hne : ¬ (k = 14 ∧ i = mC M1 14) := fun z => hk z.1
            refine ⟨?_, ?_, ?_, ?_, ?_⟩
            · funext x; rw [mI_al, if_neg hne]
            · funext x; rw [mL_al, if_neg hne]
            · funext x; rw [mR_al, if_neg hne]
            · funext x
              show (if k = 14 ∧ i = mC M1 14 then 0 else mD M1 k i x) = _
              rw [if_neg hne]
            · rw [mN_al, if_neg hne]
          exact ((e1.tr e0).tr e2).tr ⟨e3.1, e3.2.1, e3.2.2.1, e3.2.2.2, by rw [h2]⟩
        · rw [h1, g2, mC_al, if_neg hk]; exact f2 k hk
        · rw [h3, g4, mK_al, f3]; omega
        · rw [h4, g5, mS_al, f4]; omega
    · skip
      refine R.iload_n dL_told_2 rfl ?_
      refine R.aload_n dL_told_3 rfl (by first | rfl | exact rfv_rf _) ?_
      refine cl_L_7 rfl rfl (by first | exact Nat.le_of_ble_eq_true rfl | simp [rf_cat, Value.category]) dL_told_4 ?_
      refine t_len36 hS1 ?_
      refine R.icmp_ge (tgt := 96) dL_told_7 (by decide) (fun _ => ?_) (fun z => absurd (Int32.not_lt.mp (nI_nlt (by omega) (by omega))) z)
      exact hq M1 S t _ _ hC hN (by omega) (by omega) hB hF
theorem QR_g {Q : Out → Mem → Prop} {M : Mem} {v : Int32} {S' : KS} {p' : Nat} {r : Rr} (e : r = .inr (v, S', p')) (k : ∀ M', CSt M' S' p' → FrK M M' → Q (.inl (some (.int v))) M') : QR9 Q M r := by
  rw [e]; exact k
set_option maxHeartbeats 1000000 in
set_option maxRecDepth 8000 in
theorem s_told {d i0 w0 : Nat} {O : List Int32} {M : Mem} {S : KS} {p : Nat} {Q : Out → Mem → Prop} (hC : CSt M S p) (hN : kN S = 0) (hP : Pl O) (hl : O.length ≤ 300) (hw0 : 1 ≤ w0) (hS : StO M i0 w0 O) (hq : ∀ M1 M' S', CSt M' S' p → kN S' = O.length → (∀ j x, O[j]? = some x → kB S' j = x) → (∃ t, t ≤ 15 ∧ FTl t M M1) → FrK M1 M' → Q (.inl none) M') : WPc (d + 22) mL_told [.ref (rf 10 0), .ref (rf 36 i0)] M Q := by
  refine WPc.of (by decide +kernel) (Nat.le_of_ble_eq_true rfl) rfl ?_
  refine R.iconst (v := nI (20 * 0)) dL_told_0 rfl ?_
  refine R.istore_n dL_told_1 (Nat.le_of_ble_eq_true rfl) (by decide) (by first | rfl | simp [lft, rf_cat]) rfl ?_
  skip
  refine tl_out hP hl hw0 hS (fun M1 S1 t v3 v4 hC1 hN1 hle ht hB F1 => ?_) 16 0 S M _ _ (by omega) (by omega) hC hN (fun j hj => absurd hj (by omega)) (FTl.rf M)
  have hS1 : StO M1 i0 w0 O := hS.sm (F1.1 36 i0 (by decide) (by unfold inT; omega)) (F1.1 13 w0 (by decide) (by unfold inT; omega))
  refine R.aload_n dL_told_96 rfl (by first | rfl | exact rfv_rf _) ?_
  refine R.aload_n dL_told_97 rfl (by first | rfl | exact rfv_rf _) ?_
  refine cl_L_7 rfl rfl (by first | exact Nat.le_of_ble_eq_true rfl | simp [rf_cat, Value.category]) dL_told_98 ?_
  refine t_len36 hS1 ?_
  refine cl_L_23 rfl rfl (by first | exact Nat.le_of_ble_eq_true rfl | simp [rf_cat, Value.category]) dL_told_101 ?_
  have hr9 : rTru S1 p (nI O.length) = .inr (1, kSt S1 (kB S1) O.length (kE S1) (kQ S1), p) := by
    unfold rTru
    rw [if_neg (by rintro (z | z); exact nI_pos (by omega) z; rw [hN1] at z; exact nI_nlt hle (by omega) z), nI_clamp (by omega)]
  refine c_truncateInput (d := d + 1) hC1 (QR_g hr9 (fun M2 hC2 F2 => ?_))
  refine R.pop dL_told_104 (by first | rfl | exact rf_cat _) ?_
  refine WP.ret (ov := none) dL_told_105 ⟨rfl, rfl⟩ ?_
  refine hq M1 M2 _ hC2 rfl (fun j x hx => ?_) ⟨t, ht, F1⟩ F2
  have hj := (List.getElem?_eq_some_iff.mp hx).1
  have hx2 := (cO_in hP hj).1
  show kB S1 j = x
  rw [hB j (by omega)]
  rw [hx] at hx2
  exact (Option.some.inj hx2).symm
