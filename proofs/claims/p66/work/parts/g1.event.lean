/-! an event: which crate, how much; goods in and out -/
/-- before an event -/
def EH (M : Mem) (S : KS) (p : Nat) (W : LW) (T : Nat) : Prop := CSt M S p ∧ LM M W ∧ IV (kY S) W T ∧ T + 1 ≤ 39 ∧ p < 2 ^ 30
/-- after it -/
def EQ (M : Mem) (p T : Nat) (Q : Out → Mem → Prop) : Prop := ∀ M' S' p' W', CSt M' S' p' → LM M' W' → IV (kY S') W' (T + 1) → p' ≤ p + 1 → mK M' ≤ mK M + 1500 → mS M' ≤ mS M + 4000 → Q (.inl (some (.int 1))) M'
theorem rm_nI {a b : Nat} (ha : a < 1000) (hb : 0 < b) (hb2 : b < 1000) : nI a - nI a / nI b * nI b = nI (a % b) := by
  have ea : (nI a).toInt = a := nI_toInt (by omega)
  have eb : (nI b).toInt = b := nI_toInt (by omega)
  obtain ⟨q, hq⟩ : ∃ q, q = a / b := ⟨_, rfl⟩
  have h1 : q ≤ a := by rw [hq]; exact Nat.div_le_self _ _
  have h2 : q * b ≤ a := by rw [hq]; exact Nat.div_mul_le_self _ _
  have hd : ((a : Int).tdiv (b : Int)) = (q : Int) := by rw [hq]; exact (Int.ofNat_tdiv a b).symm
  have e1 : (nI a / nI b).toInt = (q : Int) := by
    have hb1 : -2147483648 ≤ (nI a).toInt.tdiv (nI b).toInt ∧ (nI a).toInt.tdiv (nI b).toInt ≤ 2147483647 := by
      rw [ea, eb, hd]; omega
    rw [i_div hb1.1 hb1.2, ea, eb, hd]
  have e2 : (nI a / nI b * nI b).toInt = ((q * b : Nat) : Int) := by
    have hb1 : -2147483648 ≤ (nI a / nI b).toInt * (nI b).toInt ∧ (nI a / nI b).toInt * (nI b).toInt ≤ 2147483647 := by
      rw [e1, eb, ← Int.natCast_mul]; omega
    rw [i_mul hb1.1 hb1.2, e1, eb, ← Int.natCast_mul]
  have e3 : a % b + q * b = a := by rw [hq, Nat.mul_comm]; exact Nat.mod_add_div a b
  have h3 : a % b < b := Nat.mod_lt _ hb
  apply Int32.toInt_inj.mp
  have hb1 : -2147483648 ≤ (nI a).toInt - (nI a / nI b * nI b).toInt ∧ (nI a).toInt - (nI a / nI b * nI b).toInt ≤ 2147483647 := by
    rw [ea, e2]; omega
  rw [i_sub hb1.1 hb1.2, ea, e2, nI_toInt (by omega)]
  omega
set_option maxHeartbeats 1000000 in
set_option maxRecDepth 8000 in
theorem ev_head {d : Nat} {W : LW} {x : Int32} {M : Mem} {Q : Out → Mem → Prop} (hW : LM M W) (n2 : 2 ≤ wN W) (hq : ∀ k v0 c9 : Nat, k < wN W → v0 < 32 → c9 < 16 → WP mL_event (d + 22) 46 [.ref (rf 10 0), .ref (rf 32 0), .int x, .ref (rf 11 k), .int (nI (1 + v0)), UN] [.int (nI c9)] M Q) : WPc (d + 22) mL_event [.ref (rf 10 0), .ref (rf 32 0), .int x] M Q := by
  refine WPc.of (by decide +kernel) (Nat.le_of_ble_eq_true rfl) rfl ?_
  have n9 := hW.n
  obtain ⟨k0, hk0, e0⟩ := bi_in x 4 (b := 4) (n := 4) (by decide) (by decide)
  obtain ⟨v0, hv0, ev⟩ := bi_in x 8 (b := 5) (n := 5) (by decide) (by decide)
  obtain ⟨c9, hc9, ec⟩ := bi_in x 0 (b := 4) (n := 4) (by decide) (by decide)
  have hlt : k0 % wN W < wN W := Nat.mod_lt _ (by omega)
  refine R.aload_n dL_event_0 rfl (by first | rfl | exact rfv_rf _) ?_
  refine R.getS (hW.y) dL_event_1 fl_L_84 (by decide) rfl ?_
  refine R.iload_n dL_event_4 rfl ?_
  refine R.iconst (v := 4) dL_event_5 rfl ?_
  refine R.iconst (v := 4) dL_event_6 rfl ?_
  refine cl_L_181 rfl rfl (by first | exact Nat.le_of_ble_eq_true rfl | simp [rf_cat, Value.category]) dL_event_7 ?_
  refine s_bits ?_
  rw [e0]
  refine R.aload_n dL_event_10 rfl (by first | rfl | exact rfv_rf _) ?_
  refine R.getS (hW.y) dL_event_11 fl_L_84 (by decide) rfl ?_
  refine ic_L_140 rfl (by first | exact Nat.le_of_ble_eq_true rfl | simp [rf_cat, Value.category]) dL_event_14 ?_
  refine s_alSize hW.all ?_
  rw [List.length_map, List.length_range]
  refine ⟨_, rfl, ?_⟩
  refine R.irem dL_event_19 (fun z => by have := (nI_inj (b := 0) (by omega) (by omega)).mp z; omega) ?_
  rw [rm_nI (by omega) (by omega) (by omega)]
  refine ic_L_160 rfl (by first | exact Nat.le_of_ble_eq_true rfl | simp [rf_cat, Value.category]) dL_event_20 ?_
  refine s_alGet hW.all (rg_at hlt) ?_
  refine ⟨_, rfl, ?_⟩
  refine R.cast (k0 := 11) rfl (rcv_own (k := 11) rfl) cw_L_104 dL_event_25 ?_
  refine R.astore_n dL_event_28 (by first | rfl | exact rfv_rf _) (Nat.le_of_ble_eq_true rfl) (by decide) (by first | rfl | simp [lft, rf_cat]) rfl ?_
  refine R.iconst (v := nI 1) dL_event_29 rfl ?_
  refine R.iload_n dL_event_30 rfl ?_
  refine R.bipush (v := 8) dL_event_31 (by decide) ?_
  refine R.iconst (v := 5) dL_event_33 rfl ?_
  refine cl_L_181 rfl rfl (by first | exact Nat.le_of_ble_eq_true rfl | simp [rf_cat, Value.category]) dL_event_34 ?_
  refine s_bits ?_
  rw [ev]
  refine R.iadd dL_event_37 ?_
  rw [nI_add]
  refine R.istore dL_event_38 (Nat.le_of_ble_eq_true rfl) (by decide) (by first | rfl | simp [lft, rf_cat]) rfl ?_
  refine R.iload_n dL_event_40 rfl ?_
  refine R.iconst (v := 0) dL_event_41 rfl ?_
  refine R.iconst (v := 4) dL_event_42 rfl ?_
  refine cl_L_181 rfl rfl (by first | exact Nat.le_of_ble_eq_true rfl | simp [rf_cat, Value.category]) dL_event_43 ?_
  refine s_bits ?_
  rw [ec]
  exact hq (k0 % wN W) v0 c9 hlt hv0 hc9
set_option maxHeartbeats 2000000 in
set_option maxRecDepth 8000 in
theorem ev_add {S : KS} {p k v0 d T : Nat} {W : LW} {x : Int32} {M : Mem} {Q : Out → Mem → Prop} (h : EH M S p W T) (hk : k < wN W) (hv : v0 < 32) (hq : EQ M p T Q) : WP mL_event (d + 22) 96 [.ref (rf 10 0), .ref (rf 32 0), .int x, .ref (rf 11 k), .int (nI (1 + v0)), UN] [] M Q := by
  obtain ⟨hC, hW, hI, hT, hp⟩ := h
  have c := hW.c hk
  have r := hI.rc hk
  have hns := hI.ns hk
  have hk16 : k < 16 := by have := hI.n9; omega
  have no : WP mL_event (d + 22) 116 [.ref (rf 10 0), .ref (rf 32 0), .int x, .ref (rf 11 k), .int (nI (1 + v0)), UN] [] M Q := by
    refine R.aload_n dL_event_116 rfl (by first | rfl | exact rfv_rf _) ?_
    refine R.aload_n dL_event_117 rfl (by first | rfl | exact rfv_rf _) ?_
    refine R.getIS (c.i.trans r.1) dL_event_118 fl_L_106 (by decide) rfl ?_
    refine cl_L_115 rfl rfl (by first | exact Nat.le_of_ble_eq_true rfl | simp [rf_cat, Value.category]) dL_event_121 ?_
    refine c_goodsOf (d := d + 1) hC (QA_s (hI.kc hk) (congrArg Sum.inl r.2.2.1) ?_)
    refine R.aload_n dL_event_124 rfl (by first | rfl | exact rfv_rf _) ?_
    refine R.getIS (c.i) dL_event_125 fl_L_118 (by decide) rfl ?_
    refine R.icmp_ne (tgt := 135) dL_event_128 (by decide) (fun c => absurd rfl c) (fun _ => ?_)
    refine R.iconst (v := 1) dL_event_131 rfl ?_
    refine R.goto (tgt := 136) dL_event_132 (by decide) ?_
    refine WP.ret (ov := some (.int _)) dL_event_136 ⟨rfl, _, rfl, by first | rfl | assumption | exact nar_b01 (by assumption)⟩ ?_
    exact hq M S p W hC hW (hI.mono (Nat.le_succ T) hT) (by omega) (by omega) (by omega)
  by_cases zg : wI W k 4 = 0
  · obtain ⟨ta, go, -, -, eg, hg⟩ := hI.pv.d k hk16
    have ew : wI W k 2 = nI go := r.2.2.1.symm.trans eg
    refine R.aload_n dL_event_96 rfl (by first | rfl | exact rfv_rf _) ?_
    refine R.getIS (c.i.trans zg) dL_event_97 fl_L_146 (by decide) rfl ?_
    refine R.if_ne (tgt := 116) dL_event_100 (by decide) (fun z => absurd rfl z) (fun _ => ?_)
    skip
    by_cases zc : go + (1 + v0) ≤ 500
    · skip
      refine R.aload_n dL_event_103 rfl (by first | rfl | exact rfv_rf _) ?_
      refine R.getIS (c.i.trans ew) dL_event_104 fl_L_118 (by decide) rfl ?_
      refine R.iload dL_event_107 rfl ?_
      refine R.iadd dL_event_109 ?_
      rw [nI_add]
      refine R.sipush (v := nI 500) dL_event_110 (by decide) ?_
      refine R.icmp_le (tgt := 137) dL_event_113 (by decide) (fun _ => ?_) (fun z => absurd (Int32.not_lt.mp (nI_nlt zc (by omega))) z)
      skip
      have hv2 : wI W k 2 + nI (1 + v0) = nI (go + (1 + v0)) := by rw [ew, nI_add]
      have h9 : IV (cgY (kY S) k (nI (1 + v0))) (evG W k (nI (1 + v0))) T := hI.goods hk hv2 zc
      have hN : wN (evG W k (nI (1 + v0))) = wN W := (fgF_f 5 (vI W k 2 (wI W k 2 + nI (1 + v0))) k).1
      have hk9 : k < wN (evG W k (nI (1 + v0))) := by rw [hN]; exact hk
      have hns9 := h9.ns hk9
      refine R.aload_n dL_event_137 rfl (by first | rfl | exact rfv_rf _) ?_
      refine R.dup dL_event_138 (by first | rfl | exact rf_cat _) ?_
      refine R.getIS (c.i) dL_event_139 fl_L_118 (by decide) rfl ?_
      refine R.iload dL_event_142 rfl ?_
      refine R.iadd dL_event_144 ?_
      refine R.putI dL_event_145 fl_L_118 (fun q hq => by cases hq; exact Or.inl rfl) (by decide) rfl rfl rfl ?_
      have hM1 := hW.uI (k := k) (f := 2) (v := wI W k 2 + nI (1 + v0))
      refine R.aload_n dL_event_148 rfl (by first | rfl | exact rfv_rf _) ?_
      refine R.dup dL_event_149 (by first | rfl | exact rf_cat _) ?_
      refine R.getIS ((hM1.yi (by decide)).trans (show _ = wYs W 6 from rfl)) dL_event_150 fl_L_51 (by decide) rfl ?_
      skip
      obtain ⟨W1, hW1⟩ : ∃ W1, W1 = vI W k 2 (wI W k 2 + nI (1 + v0)) := ⟨_, rfl⟩
      have F1 : Fx SWl 0 0 M (sI M 11 k 2 (wI W k 2 + nI (1 + v0))) := (Fx.rf _ 0 0 M).sI (Or.inl (Or.inl rfl))
      rw [← hW1] at hM1
      have e6 : wYs (vI W k 2 (wI W k 2 + nI (1 + v0))) 6 = wYs W 6 := rfl
      refine R.aload_n dL_event_153 rfl (by first | rfl | exact rfv_rf _) ?_
      refine cl_L_187 rfl rfl (by first | exact Nat.le_of_ble_eq_true rfl | simp [rf_cat, Value.category]) dL_event_154 ?_
      refine s_forg 5 k (d + 15) (by rw [hW1]; exact hk) (by rw [hW1]; exact hI.ac hk) hM1 (fun M2 hM2 F2 => ?_)
      refine R.iadd dL_event_157 ?_
      refine R.putI dL_event_158 fl_L_51 (fun q hq => by cases hq; exact Or.inl rfl) (by decide) rfl rfl rfl ?_
      have hM3 := hM2.sY (f := 6) (v := wYs W 6 + (fgF 5 W1 k).1)
      skip
      have F3 : Fx SWl 0 0 M (sI M2 32 0 6 (wYs W 6 + (fgF 5 W1 k).1)) := ((F1.tr F2 (fun _ _ z => Or.inl z)).le (by omega) (by omega)).y (Or.inr (Or.inr (Or.inl rfl)))
      generalize sI M2 32 0 6 (wYs W 6 + (fgF 5 W1 k).1) = M3 at hM3 F3 ⊢
      rw [hW1] at hM3
      have hM3 : LM M3 (evG W k (nI (1 + v0))) := hM3
      have hC3 := hC.fx F3 (fun _ _ z => SWl_K z)
      have hv1 : 1 ≤ nI (1 + v0) ∧ nI (1 + v0) ≤ 500 := ⟨show nI 1 ≤ nI (1 + v0) from Int32.not_lt.mp (nI_nlt (by omega) (by omega)), show nI (1 + v0) ≤ nI 500 from Int32.not_lt.mp (nI_nlt (by omega) (by omega))⟩
      have h7 : ¬ yC (kY S) k 7 = 0 := fun z => by
        have q := r.2.2.2.1
        rw [z, zg] at q
        exact absurd q (by decide)
      have hcd : ¬ yC (kY S) k 7 = 0 ∧ yC (kY S) k 3 + nI (1 + v0) ≤ 500 := ⟨h7, by rw [r.2.2.1, hv2]; exact (show nI (go + (1 + v0)) ≤ nI 500 from Int32.not_lt.mp (nI_nlt zc (by omega)))⟩
      refine R.aload_n dL_event_161 rfl (by first | rfl | exact rfv_rf _) ?_
      refine R.aload_n dL_event_162 rfl (by first | rfl | exact rfv_rf _) ?_
      refine R.getIS ((hM3.c hk9).i.trans (h9.rc hk9).1) dL_event_163 fl_L_106 (by decide) rfl ?_
      refine R.iload dL_event_166 rfl ?_
      refine cl_L_190 rfl rfl (by first | exact Nat.le_of_ble_eq_true rfl | simp [rf_cat, Value.category]) dL_event_168 ?_
      refine c_addGoods (d := d + 1) hC3 hp hI.pv.kg (QR_c (S := S) (p := p) (hI.kc hk) (v := yC (cgY (kY S) k (nI (1 + v0))) k 4) (Y := cgY (kY S) k (nI (1 + v0))) ?_ (fun M4 hC4 F4 => ?_))
      · show (if _ then (if (if _ then (1 : Int32) else 0) = 0 then _ else _) else _) = _
        rw [if_pos hv1, if_neg (show ¬ (if (¬ yC (kY S) k 7 = 0 ∧ yC (kY S) k 3 + nI (1 + v0) ≤ 500) then (1 : Int32) else 0) = 0 by rw [if_pos hcd]; decide)]
      have hM4 := hM3.fk F4
      refine R.aload_n dL_event_171 rfl (by first | rfl | exact rfv_rf _) ?_
      refine cl_L_112 rfl rfl (by first | exact Nat.le_of_ble_eq_true rfl | simp [rf_cat, Value.category]) dL_event_172 ?_
      refine s_gross 5 k (d + 12) hk9 (h9.hg hk9) hM4 (fun M5 hM5 F5 => ?_)
      rw [h9.gr hk9]
      refine R.icmp_ne (tgt := 182) dL_event_175 (by decide) (fun c => absurd rfl c) (fun _ => ?_)
      refine R.iconst (v := 1) dL_event_178 rfl ?_
      refine R.goto (tgt := 183) dL_event_179 (by decide) ?_
      refine WP.ret (ov := some (.int _)) dL_event_183 ⟨rfl, _, rfl, by first | rfl | assumption | exact nar_b01 (by assumption)⟩ ?_
      have b1 := F3.2.2.2.1
      have b2 := F3.2.2.2.2
      have b3 := F4.2.2.1
      have b4 := F4.2.2.2
      have b5 := F5.2.2.2.1
      have b6 := F5.2.2.2.2
      exact hq M5 _ (p + 1) _ (hC4.fz F5) hM5 (h9.mono (Nat.le_succ T) hT) (by omega) (by omega) (by omega)
    · skip
      refine R.aload_n dL_event_103 rfl (by first | rfl | exact rfv_rf _) ?_
      refine R.getIS (c.i.trans ew) dL_event_104 fl_L_118 (by decide) rfl ?_
      refine R.iload dL_event_107 rfl ?_
      refine R.iadd dL_event_109 ?_
      rw [nI_add]
      refine R.sipush (v := nI 500) dL_event_110 (by decide) ?_
      refine R.icmp_le (tgt := 137) dL_event_113 (by decide) (fun z => absurd (nI_lt (Nat.not_le.mp zc) (by omega)) (Int32.not_lt.mpr z)) (fun _ => ?_)
      exact no
  · skip
    refine R.aload_n dL_event_96 rfl (by first | rfl | exact rfv_rf _) ?_
    refine R.getIS (c.i) dL_event_97 fl_L_146 (by decide) rfl ?_
    refine R.if_ne (tgt := 116) dL_event_100 (by decide) (fun _ => ?_) (fun z => absurd z zg)
    exact no
set_option maxHeartbeats 2000000 in
set_option maxRecDepth 8000 in
theorem ev_rem {S : KS} {p k v0 d T : Nat} {W : LW} {x : Int32} {M : Mem} {Q : Out → Mem → Prop} (h : EH M S p W T) (hk : k < wN W) (hv : v0 < 32) (hq : EQ M p T Q) : WP mL_event (d + 22) 184 [.ref (rf 10 0), .ref (rf 32 0), .int x, .ref (rf 11 k), .int (nI (1 + v0)), UN] [] M Q := by
  obtain ⟨hC, hW, hI, hT, hp⟩ := h
  have c := hW.c hk
  have r := hI.rc hk
  have hns := hI.ns hk
  have hk16 : k < 16 := by have := hI.n9; omega
  have no : WP mL_event (d + 22) 200 [.ref (rf 10 0), .ref (rf 32 0), .int x, .ref (rf 11 k), .int (nI (1 + v0)), UN] [] M Q := by
    refine R.aload_n dL_event_200 rfl (by first | rfl | exact rfv_rf _) ?_
    refine R.aload_n dL_event_201 rfl (by first | rfl | exact rfv_rf _) ?_
    refine R.getIS (c.i.trans r.1) dL_event_202 fl_L_106 (by decide) rfl ?_
    refine cl_L_193 rfl rfl (by first | exact Nat.le_of_ble_eq_true rfl | simp [rf_cat, Value.category]) dL_event_205 ?_
    refine c_tareOf (d := d + 1) hC (QA_s (hI.kc hk) (congrArg Sum.inl r.2.1) ?_)
    refine R.aload_n dL_event_208 rfl (by first | rfl | exact rfv_rf _) ?_
    refine R.getIS (c.i) dL_event_209 fl_L_196 (by decide) rfl ?_
    refine R.icmp_ne (tgt := 219) dL_event_212 (by decide) (fun c => absurd rfl c) (fun _ => ?_)
    refine R.iconst (v := 1) dL_event_215 rfl ?_
    refine R.goto (tgt := 220) dL_event_216 (by decide) ?_
    refine WP.ret (ov := some (.int _)) dL_event_220 ⟨rfl, _, rfl, by first | rfl | assumption | exact nar_b01 (by assumption)⟩ ?_
    exact hq M S p W hC hW (hI.mono (Nat.le_succ T) hT) (by omega) (by omega) (by omega)
  by_cases zg : wI W k 4 = 0
  · obtain ⟨ta, go, -, -, eg, hg⟩ := hI.pv.d k hk16
    have ew : wI W k 2 = nI go := r.2.2.1.symm.trans eg
    refine R.aload_n dL_event_184 rfl (by first | rfl | exact rfv_rf _) ?_
    refine R.getIS (c.i.trans zg) dL_event_185 fl_L_146 (by decide) rfl ?_
    refine R.if_ne (tgt := 200) dL_event_188 (by decide) (fun z => absurd rfl z) (fun _ => ?_)
    skip
    by_cases zc : 1 + v0 ≤ go
    · skip
      refine R.aload_n dL_event_191 rfl (by first | rfl | exact rfv_rf _) ?_
      refine R.getIS (c.i.trans ew) dL_event_192 fl_L_118 (by decide) rfl ?_
      refine R.iload dL_event_195 rfl ?_
      refine R.icmp_ge (tgt := 221) dL_event_197 (by decide) (fun _ => ?_) (fun z => absurd (Int32.not_lt.mp (nI_nlt zc (by omega))) z)
      skip
      have hv2 : wI W k 2 + - nI (1 + v0) = nI (go - (1 + v0)) := by rw [ew, ← Int32.sub_eq_add_neg, nI_sub zc]
      have h9 : IV (cgY (kY S) k (- nI (1 + v0))) (evG W k (- nI (1 + v0))) T := hI.goods hk hv2 (by omega)
      have hN : wN (evG W k (- nI (1 + v0))) = wN W := (fgF_f 5 (vI W k 2 (wI W k 2 + - nI (1 + v0))) k).1
      have hk9 : k < wN (evG W k (- nI (1 + v0))) := by rw [hN]; exact hk
      have hns9 := h9.ns hk9
      refine R.aload_n dL_event_221 rfl (by first | rfl | exact rfv_rf _) ?_
      refine R.dup dL_event_222 (by first | rfl | exact rf_cat _) ?_
      refine R.getIS (c.i) dL_event_223 fl_L_118 (by decide) rfl ?_
      refine R.iload dL_event_226 rfl ?_
      refine R.isub dL_event_228 ?_
      rw [Int32.sub_eq_add_neg]
      refine R.putI dL_event_229 fl_L_118 (fun q hq => by cases hq; exact Or.inl rfl) (by decide) rfl rfl rfl ?_
      have hM1 := hW.uI (k := k) (f := 2) (v := wI W k 2 + - nI (1 + v0))
      refine R.aload_n dL_event_232 rfl (by first | rfl | exact rfv_rf _) ?_
      refine R.dup dL_event_233 (by first | rfl | exact rf_cat _) ?_
      refine R.getIS ((hM1.yi (by decide)).trans (show _ = wYs W 6 from rfl)) dL_event_234 fl_L_51 (by decide) rfl ?_
      skip
      obtain ⟨W1, hW1⟩ : ∃ W1, W1 = vI W k 2 (wI W k 2 + - nI (1 + v0)) := ⟨_, rfl⟩
      have F1 : Fx SWl 0 0 M (sI M 11 k 2 (wI W k 2 + - nI (1 + v0))) := (Fx.rf _ 0 0 M).sI (Or.inl (Or.inl rfl))
      rw [← hW1] at hM1
      have e6 : wYs (vI W k 2 (wI W k 2 + - nI (1 + v0))) 6 = wYs W 6 := rfl
      refine R.aload_n dL_event_237 rfl (by first | rfl | exact rfv_rf _) ?_
      refine cl_L_187 rfl rfl (by first | exact Nat.le_of_ble_eq_true rfl | simp [rf_cat, Value.category]) dL_event_238 ?_
      refine s_forg 5 k (d + 15) (by rw [hW1]; exact hk) (by rw [hW1]; exact hI.ac hk) hM1 (fun M2 hM2 F2 => ?_)
      refine R.iadd dL_event_241 ?_
      refine R.putI dL_event_242 fl_L_51 (fun q hq => by cases hq; exact Or.inl rfl) (by decide) rfl rfl rfl ?_
      have hM3 := hM2.sY (f := 6) (v := wYs W 6 + (fgF 5 W1 k).1)
      skip
      have F3 : Fx SWl 0 0 M (sI M2 32 0 6 (wYs W 6 + (fgF 5 W1 k).1)) := ((F1.tr F2 (fun _ _ z => Or.inl z)).le (by omega) (by omega)).y (Or.inr (Or.inr (Or.inl rfl)))
      generalize sI M2 32 0 6 (wYs W 6 + (fgF 5 W1 k).1) = M3 at hM3 F3 ⊢
      rw [hW1] at hM3
      have hM3 : LM M3 (evG W k (- nI (1 + v0))) := hM3
      have hC3 := hC.fx F3 (fun _ _ z => SWl_K z)
      have hv1 : 1 ≤ nI (1 + v0) ∧ nI (1 + v0) ≤ 500 := ⟨show nI 1 ≤ nI (1 + v0) from Int32.not_lt.mp (nI_nlt (by omega) (by omega)), show nI (1 + v0) ≤ nI 500 from Int32.not_lt.mp (nI_nlt (by omega) (by omega))⟩
      have h7 : ¬ yC (kY S) k 7 = 0 := fun z => by
        have q := r.2.2.2.1
        rw [z, zg] at q
        exact absurd q (by decide)
      have hcd : ¬ yC (kY S) k 7 = 0 ∧ nI (1 + v0) ≤ yC (kY S) k 3 := ⟨h7, by rw [r.2.2.1, ew]; exact Int32.not_lt.mp (nI_nlt zc (by omega))⟩
      refine R.aload_n dL_event_245 rfl (by first | rfl | exact rfv_rf _) ?_
      refine R.aload_n dL_event_246 rfl (by first | rfl | exact rfv_rf _) ?_
      refine R.getIS ((hM3.c hk9).i.trans (h9.rc hk9).1) dL_event_247 fl_L_106 (by decide) rfl ?_
      refine R.iload dL_event_250 rfl ?_
      refine cl_L_199 rfl rfl (by first | exact Nat.le_of_ble_eq_true rfl | simp [rf_cat, Value.category]) dL_event_252 ?_
      refine c_removeGoods (d := d + 1) hC3 hp hI.pv.kg (QR_c (S := S) (p := p) (hI.kc hk) (v := yC (cgY (kY S) k (- nI (1 + v0))) k 4) (Y := cgY (kY S) k (- nI (1 + v0))) ?_ (fun M4 hC4 F4 => ?_))
      · show (if _ then (if (if _ then (1 : Int32) else 0) = 0 then _ else _) else _) = _
        rw [if_pos hv1, if_neg (show ¬ (if (¬ yC (kY S) k 7 = 0 ∧ nI (1 + v0) ≤ yC (kY S) k 3) then (1 : Int32) else 0) = 0 by rw [if_pos hcd]; decide)]
      have hM4 := hM3.fk F4
      refine R.aload_n dL_event_255 rfl (by first | rfl | exact rfv_rf _) ?_
      refine cl_L_112 rfl rfl (by first | exact Nat.le_of_ble_eq_true rfl | simp [rf_cat, Value.category]) dL_event_256 ?_
      refine s_gross 5 k (d + 12) hk9 (h9.hg hk9) hM4 (fun M5 hM5 F5 => ?_)
      rw [h9.gr hk9]
      refine R.icmp_ne (tgt := 266) dL_event_259 (by decide) (fun c => absurd rfl c) (fun _ => ?_)
      refine R.iconst (v := 1) dL_event_262 rfl ?_
      refine R.goto (tgt := 267) dL_event_263 (by decide) ?_
      refine WP.ret (ov := some (.int _)) dL_event_267 ⟨rfl, _, rfl, by first | rfl | assumption | exact nar_b01 (by assumption)⟩ ?_
      have b1 := F3.2.2.2.1
      have b2 := F3.2.2.2.2
      have b3 := F4.2.2.1
      have b4 := F4.2.2.2
      have b5 := F5.2.2.2.1
      have b6 := F5.2.2.2.2
      exact hq M5 _ (p + 1) _ (hC4.fz F5) hM5 (h9.mono (Nat.le_succ T) hT) (by omega) (by omega) (by omega)
    · skip
      refine R.aload_n dL_event_191 rfl (by first | rfl | exact rfv_rf _) ?_
      refine R.getIS (c.i.trans ew) dL_event_192 fl_L_118 (by decide) rfl ?_
      refine R.iload dL_event_195 rfl ?_
      refine R.icmp_ge (tgt := 221) dL_event_197 (by decide) (fun z => absurd (nI_lt (Nat.not_le.mp zc) (by omega)) (Int32.not_lt.mpr z)) (fun _ => ?_)
      exact no
  · skip
    refine R.aload_n dL_event_184 rfl (by first | rfl | exact rfv_rf _) ?_
    refine R.getIS (c.i) dL_event_185 fl_L_146 (by decide) rfl ?_
    refine R.if_ne (tgt := 200) dL_event_188 (by decide) (fun _ => ?_) (fun z => absurd z zg)
    exact no
