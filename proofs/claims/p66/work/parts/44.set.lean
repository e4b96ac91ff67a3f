/-! the class's methods that change it -/
abbrev Rr : Type := String ⊕ (Int32 × KS × Nat)
/-- what a call answers, and the state behind it -/
def QR9 (Q : Out → Mem → Prop) (M : Mem) (r : Rr) : Prop := match r with
  | .inl E => Q (.inr E) (ax M)
  | .inr (v, S', p') => ∀ M', CSt M' S' p' → FrK M M' → Q (.inl (some (.int v))) M'
def kSy (S : KS) (Y : Yd) : KS := (Y, S.2)
def kSt (S : KS) (b : Nat → Int32) (n : Nat) (c q : Int32) : KS := (kY S, kV S, kH S, b, n, c, q, kO S)
def kSh (S : KS) (L : List Yd) : KS := (kY S, kV S, L, S.2.2.2)
def kSv (S : KS) (V : Option Yd) : KS := (kY S, V, S.2.2)
def kR (S : KS) : KS := kSh S ((kY S :: kH S).take 8)
/-- a live yard: counts, names, chains -/
def CrB (Y : Yd) (m w : Nat) : Prop := m ≤ 16 ∧ w ≤ 6 ∧ yF Y 4 = nI m ∧ yF Y 5 = nI w ∧ (∀ i, i < 16 → m ≤ i → yC Y i 1 = 0) ∧ (∀ j, j < 6 → w ≤ j → yB Y j 1 = 0) ∧ ∀ i j, i < 16 → yP Y i = some j → i < m ∧ j < m
def KG (Y : Yd) : Prop := (∀ i, i < 16 → yC Y i 7 = 0 ∨ yC Y i 7 = 1) ∧ Acy Y ∧ ∃ m w, CrB Y m w
theorem KG.a {Y : Yd} (h : KG Y) : Acy Y := h.2.1
theorem KG.g {Y : Yd} (h : KG Y) : YG Y := by
  obtain ⟨h1, h2, m, w, a1, a2, a3, a4, a5, a6, a7⟩ := h
  refine ⟨h1, fun i hi j hj => ?_⟩
  rw [a3]
  exact nI_ge (a7 i j hi hj).2 (by omega)
section CM
variable {M M' : Mem} {S : KS} {p : Nat}
theorem CSt.yd {Y : Yd} (h : CSt M S p) (hY : Yv M' 0 Y) (hF : Fr (inY 0) M M') : CSt M' (kSy S Y) p := by
  obtain ⟨a1, a2, a3, ⟨Z, a4⟩, a5, a6, a7, a8, cap, a9⟩ := h
  exact ⟨a1.fr hF (by unfold inY; omega), hY, a3.fr hF (fun k i z z2 => by have := inY_u z z2; omega) (by unfold inY; omega), ⟨Z, a4.other hF (by omega)⟩, a5.fr hF (fun k i z z2 => nYH (by omega) k i z2 z) (by unfold inY; omega), a6.fr hF nY5, a7.fr hF (by unfold inY; omega) (by unfold inY; omega), a8.fr hF nY7 nY13, cap, a9.fr hF (by unfold inY; omega) (fun v _ => by unfold inY; omega)⟩
theorem nH_misc : ¬ inH 10 0 ∧ ¬ inH 20 0 ∧ ¬ inH 5 0 ∧ ¬ inH 4 0 ∧ ¬ inH 19 0 ∧ ¬ inH 7 0 ∧ ¬ inH 13 0 ∧ ¬ inH 12 0 ∧ ∀ v, ¬ inH 13 v := by
  refine ⟨?_, ?_, ?_, ?_, ?_, ?_, ?_, ?_, fun v => ?_⟩ <;> (intro z; rcases z with z | ⟨j, -, z⟩; omega; unfold inY at z; omega)
theorem CSt.hi {L : List Yd} {p' : Nat} (h : CSt M S p) (hH : Hv M' p' L) (hF : Fr inH M M') : CSt M' (kSh S L) p' := by
  obtain ⟨a1, a2, a3, ⟨Z, a4⟩, a5, a6, a7, a8, cap, a9⟩ := h
  obtain ⟨n1, n2, n3, n4, n5, n6, n7, n8, n9⟩ := nH_misc
  exact ⟨a1.fr hF n1, a2.fr hF (nYH (by omega)), a3.fr hF (nYH (by omega)) n1, ⟨Z, a4.fr hF (nYH (by omega))⟩, hH, a6.fr hF n3, a7.fr hF n4 n5, a8.fr hF n6 n7, cap, a9.fr hF n8 (fun v _ => n9 v)⟩
theorem CSt.yh {Y : Yd} {L : List Yd} {p' : Nat} (h : CSt M S p) (hY : Yv M' 0 Y) (hH : Hv M' p' L) (hF : Fr (fun k i => inY 0 k i ∨ inH k i) M M') : CSt M' (kSh (kSy S Y) L) p' := by
  obtain ⟨a1, a2, a3, ⟨Z, a4⟩, a5, a6, a7, a8, cap, a9⟩ := h
  obtain ⟨n1, n2, n3, n4, n5, n6, n7, n8, n9⟩ := nH_misc
  have q : ∀ k i, ¬ inY 0 k i → ¬ inH k i → ¬ (inY 0 k i ∨ inH k i) := fun k i z1 z2 z => z.elim z1 z2
  exact ⟨a1.fr hF (q _ _ (by unfold inY; omega) n1), hY, a3.fr hF (fun k i z => q _ _ (fun z2 => by have := inY_u z z2; omega) (nYH (by omega) k i z)) (q _ _ (by unfold inY; omega) n1), ⟨Z, a4.fr hF (fun k i z => q _ _ (fun z2 => by have := inY_u z z2; omega) (nYH (by omega) k i z))⟩, hH, a6.fr hF (q _ _ nY5 n3), a7.fr hF (q _ _ (by unfold inY; omega) n4) (q _ _ (by unfold inY; omega) n5), a8.fr hF (q _ _ nY7 n6) (q _ _ nY13 n7), cap, a9.fr hF (q _ _ (by unfold inY; omega) n8) (fun v _ => q _ _ (by unfold inY; omega) (n9 v))⟩
theorem CSt.tx {b : Nat → Int32} {n : Nat} {c q : Int32} (h : CSt M S p) (hT : Tz M' b n c q) (hF : Fr inT M M') : CSt M' (kSt S b n c q) p := by
  obtain ⟨a1, a2, a3, ⟨Z, a4⟩, a5, a6, a7, a8, cap, a9⟩ := h
  have nT : ∀ y k i, inY y k i → ¬ inT k i := fun y => nTY
  refine ⟨a1.fr hF (by unfold inT; omega), a2.fr hF nTY, a3.fr hF nTY (by unfold inT; omega), ⟨Z, a4.fr hF nTY⟩, a5.fr hF ?_ (by unfold inT; omega), a6.fr hF nT5, a7.fr hF nT4 nT19, hT, cap, a9.fr hF (by unfold inT; omega) (fun v hv => by unfold inT; omega)⟩
  rintro k i (⟨rfl, rfl⟩ | ⟨j, -, z⟩)
  · unfold inT; omega
  · exact nTY k i z
theorem nTK : ∀ k i, inK k → ¬ inT k i := nKT
end CM
def ap20 (b : Nat → Int32) (n : Nat) (x1 x2 x3 x4 x5 : Int32) : Nat → Int32 := ap4 (ap4 (ap4 (ap4 (ap4 b n x1) (n + 4) x2) (n + 8) x3) (n + 12) x4) (n + 16) x5
def rApp (S : KS) (p : Nat) (x1 x2 x3 x4 x5 : Int32) : Rr := if 600 < kN S + 20 then .inr (-1, S, p) else .inr (nI (kN S + 20), kSt S (ap20 (kB S) (kN S) x1 x2 x3 x4 x5) (kN S + 20) (kE S) (kQ S), p)
def rTru (S : KS) (p : Nat) (x : Int32) : Rr := if x < 0 ∨ nI (kN S) < x then .inr (0, S, p) else .inr (1, kSt S (kB S) x.toNatClampNeg (kE S) (kQ S), p)
set_option maxHeartbeats 1000000 in
set_option maxRecDepth 4000 in
theorem c_appendInput {d : Nat} {S : KS} {p : Nat} {x1 x2 x3 x4 x5 : Int32} {M : Mem} {Q : Out → Mem → Prop} (h : CSt M S p) (hq : QR9 Q M (rApp S p x1 x2 x3 x4 x5)) : WPc (d + 20) mX12_appendInput [.ref (rf 10 0), .int x1, .int x2, .int x3, .int x4, .int x5] M Q := by
  refine WPc.of (by decide +kernel) (Nat.le_of_ble_eq_true rfl) rfl ?_
  have hn := h.t.hn
  by_cases z : 600 < kN S + 20
  · skip
    refine R.aload_n dX12_appendInput_0 rfl (by first | rfl | exact rfv_rf _) ?_
    refine R.getS (h.l.2.2.2.2.1) dX12_appendInput_1 fl_X12_32 (by decide) rfl ?_
    refine R.getI dX12_appendInput_4 fl_X12_89 (by decide) rfl ?_
    rw [h.t.hl]
    refine R.bipush (v := nI 20) dX12_appendInput_7 (by decide) ?_
    refine R.iadd dX12_appendInput_9 ?_
    rw [nI_add]
    refine R.sipush (v := nI 600) dX12_appendInput_10 (by decide) ?_
    refine R.icmp_le (tgt := 18) dX12_appendInput_13 (by decide) (fun c => absurd c (nI_ge z (by omega))) (fun _ => ?_)
    refine R.iconst (v := (-1)) dX12_appendInput_16 rfl ?_
    refine WP.ret (ov := some (.int _)) dX12_appendInput_17 ⟨rfl, _, rfl, by first | rfl | assumption | exact nar_b01 (by assumption)⟩ ?_
    rw [rApp, if_pos z] at hq
    exact hq _ h FrK.rf
  · skip
    refine R.aload_n dX12_appendInput_0 rfl (by first | rfl | exact rfv_rf _) ?_
    refine R.getS (h.l.2.2.2.2.1) dX12_appendInput_1 fl_X12_32 (by decide) rfl ?_
    refine R.getI dX12_appendInput_4 fl_X12_89 (by decide) rfl ?_
    rw [h.t.hl]
    refine R.bipush (v := nI 20) dX12_appendInput_7 (by decide) ?_
    refine R.iadd dX12_appendInput_9 ?_
    rw [nI_add]
    refine R.sipush (v := nI 600) dX12_appendInput_10 (by decide) ?_
    refine R.icmp_le (tgt := 18) dX12_appendInput_13 (by decide) (fun _ => ?_) (fun c => absurd (nI_le (by omega) (by omega)) c)
    refine R.aload_n dX12_appendInput_18 rfl (by first | rfl | exact rfv_rf _) ?_
    refine R.getS (h.l.2.2.2.2.1) dX12_appendInput_19 fl_X12_32 (by decide) rfl ?_
    refine R.iload_n dX12_appendInput_22 rfl ?_
    refine cl_X12_93 rfl rfl (by first | exact Nat.le_of_ble_eq_true rfl | simp [rf_cat, Value.category]) dX12_appendInput_23 ?_
    refine s_tAppI h.t (by omega) (fun M1 h1 F1 => ?_)
    refine R.aload_n dX12_appendInput_26 rfl (by first | rfl | exact rfv_rf _) ?_
    refine R.getS (by rw [(F1.2.2.2.2 10 0 (by unfold inT; omega)).2.2.1]; exact h.l.2.2.2.2.1) dX12_appendInput_27 fl_X12_32 (by decide) rfl ?_
    refine R.iload_n dX12_appendInput_30 rfl ?_
    refine cl_X12_93 rfl rfl (by first | exact Nat.le_of_ble_eq_true rfl | simp [rf_cat, Value.category]) dX12_appendInput_31 ?_
    refine s_tAppI h1 (by omega) (fun M2 h2 F2 => ?_)
    refine R.aload_n dX12_appendInput_34 rfl (by first | rfl | exact rfv_rf _) ?_
    refine R.getS (by rw [(F2.2.2.2.2 10 0 (by unfold inT; omega)).2.2.1, (F1.2.2.2.2 10 0 (by unfold inT; omega)).2.2.1]; exact h.l.2.2.2.2.1) dX12_appendInput_35 fl_X12_32 (by decide) rfl ?_
    refine R.iload_n dX12_appendInput_38 rfl ?_
    refine cl_X12_93 rfl rfl (by first | exact Nat.le_of_ble_eq_true rfl | simp [rf_cat, Value.category]) dX12_appendInput_39 ?_
    refine s_tAppI h2 (by omega) (fun M3 h3 F3 => ?_)
    refine R.aload_n dX12_appendInput_42 rfl (by first | rfl | exact rfv_rf _) ?_
    refine R.getS (by rw [(F3.2.2.2.2 10 0 (by unfold inT; omega)).2.2.1, (F2.2.2.2.2 10 0 (by unfold inT; omega)).2.2.1, (F1.2.2.2.2 10 0 (by unfold inT; omega)).2.2.1]; exact h.l.2.2.2.2.1) dX12_appendInput_43 fl_X12_32 (by decide) rfl ?_
    refine R.iload dX12_appendInput_46 rfl ?_
    refine cl_X12_93 rfl rfl (by first | exact Nat.le_of_ble_eq_true rfl | simp [rf_cat, Value.category]) dX12_appendInput_48 ?_
    refine s_tAppI h3 (by omega) (fun M4 h4 F4 => ?_)
    refine R.aload_n dX12_appendInput_51 rfl (by first | rfl | exact rfv_rf _) ?_
    refine R.getS (by rw [(F4.2.2.2.2 10 0 (by unfold inT; omega)).2.2.1, (F3.2.2.2.2 10 0 (by unfold inT; omega)).2.2.1, (F2.2.2.2.2 10 0 (by unfold inT; omega)).2.2.1, (F1.2.2.2.2 10 0 (by unfold inT; omega)).2.2.1]; exact h.l.2.2.2.2.1) dX12_appendInput_52 fl_X12_32 (by decide) rfl ?_
    refine R.iload dX12_appendInput_55 rfl ?_
    refine cl_X12_93 rfl rfl (by first | exact Nat.le_of_ble_eq_true rfl | simp [rf_cat, Value.category]) dX12_appendInput_57 ?_
    refine s_tAppI h4 (by omega) (fun M5 h5 F5 => ?_)
    refine R.aload_n dX12_appendInput_60 rfl (by first | rfl | exact rfv_rf _) ?_
    refine R.getS (by rw [(F5.2.2.2.2 10 0 (by unfold inT; omega)).2.2.1, (F4.2.2.2.2 10 0 (by unfold inT; omega)).2.2.1, (F3.2.2.2.2 10 0 (by unfold inT; omega)).2.2.1, (F2.2.2.2.2 10 0 (by unfold inT; omega)).2.2.1, (F1.2.2.2.2 10 0 (by unfold inT; omega)).2.2.1]; exact h.l.2.2.2.2.1) dX12_appendInput_61 fl_X12_32 (by decide) rfl ?_
    refine R.getI dX12_appendInput_64 fl_X12_89 (by decide) rfl ?_
    rw [h5.hl]
    refine WP.ret (ov := some (.int _)) dX12_appendInput_67 ⟨rfl, _, rfl, by first | rfl | assumption | exact nar_b01 (by assumption)⟩ ?_
    rw [rApp, if_neg z] at hq
    have FT := (((F1.tr F2).tr F3).tr F4).tr F5
    exact hq _ (h.tx h5 FT) (FrK.of FT nKT)
set_option maxHeartbeats 1000000 in
set_option maxRecDepth 4000 in
theorem c_truncateInput {d : Nat} {S : KS} {p : Nat} {x : Int32} {M : Mem} {Q : Out → Mem → Prop} (h : CSt M S p) (hq : QR9 Q M (rTru S p x)) : WPc (d + 20) mX12_truncateInput [.ref (rf 10 0), .int x] M Q := by
  refine WPc.of (by decide +kernel) (Nat.le_of_ble_eq_true rfl) rfl ?_
  refine R.iload_n dX12_truncateInput_0 rfl ?_
  refine R.if_lt (tgt := 15) dX12_truncateInput_1 (by decide) (fun c1 => ?_) (fun c1 => ?_)
  · have n1 := i_nle c1
    refine R.iconst (v := 0) dX12_truncateInput_15 rfl ?_
    refine WP.ret (ov := some (.int _)) dX12_truncateInput_16 ⟨rfl, _, rfl, by first | rfl | assumption | exact nar_b01 (by assumption)⟩ ?_
    rw [rTru, if_pos (Or.inl c1)] at hq
    exact hq _ h FrK.rf
  · have n1 := i_nlt c1
    refine R.iload_n dX12_truncateInput_4 rfl ?_
    refine R.aload_n dX12_truncateInput_5 rfl (by first | rfl | exact rfv_rf _) ?_
    refine R.getS (h.l.2.2.2.2.1) dX12_truncateInput_6 fl_X12_32 (by decide) rfl ?_
    refine R.getI dX12_truncateInput_9 fl_X12_89 (by decide) rfl ?_
    rw [h.t.hl]
    refine R.icmp_le (tgt := 17) dX12_truncateInput_12 (by decide) (fun c12 => ?_) (fun c12 => ?_)
    · have n12 := i_nl2 c12
      refine R.aload_n dX12_truncateInput_17 rfl (by first | rfl | exact rfv_rf _) ?_
      refine R.getS (h.l.2.2.2.2.1) dX12_truncateInput_18 fl_X12_32 (by decide) rfl ?_
      refine R.iload_n dX12_truncateInput_21 rfl ?_
      refine R.putI dX12_truncateInput_22 fl_X12_89 (fun q hq => by cases hq; exact Or.inl rfl) (by decide) rfl rfl rfl ?_
      refine R.iconst (v := 1) dX12_truncateInput_25 rfl ?_
      refine WP.ret (ov := some (.int _)) dX12_truncateInput_26 ⟨rfl, _, rfl, by first | rfl | assumption | exact nar_b01 (by assumption)⟩ ?_
      rw [rTru, if_neg (fun z => z.elim c1 (fun w => absurd c12 (i_nle w)))] at hq
      obtain ⟨j, hj, rfl⟩ := nI_of c1
      have hn := h.t.hn
      have hj2 : j ≤ kN S := (nI_leI hj (by omega)).mp c12
      rw [nI_clamp hj] at hq
      have FT : Fr inT M (sI M 7 0 1 (nI j)) := Fr.sI (Fr.rf _ _) inT_F
      exact hq _ (h.tx (h.t.len (by omega)) FT) (FrK.of FT nKT)
    · have n12 := i_lt c12
      refine R.iconst (v := 0) dX12_truncateInput_15 rfl ?_
      refine WP.ret (ov := some (.int _)) dX12_truncateInput_16 ⟨rfl, _, rfl, by first | rfl | assumption | exact nar_b01 (by assumption)⟩ ?_
      rw [rTru, if_pos (Or.inr n12)] at hq
      exact hq _ h FrK.rf
theorem ins_u {S : KS} {M M' : Mem} {p n : Nat} {b : Nat → Int32} {c q : Int32} {Y : Yd} (h : CSt M S p) (hF : Fr inS M M') (hT : Tz M' b n c q) (hY : Yv M' 2 Y) : CSt M' (kSt S b n c q) p := by
  obtain ⟨a1, a2, a3, ⟨Z, a4⟩, a5, a6, a7, a8, cap, a9⟩ := h
  have nn : ∀ y, y ≠ 2 → ∀ k i, inY y k i → ¬ inS k i := fun y hy k i z z2 => z2.elim (nTY k i z) fun z3 => hy (inY_u z z3)
  have n2 : ∀ k i, (k = 10 ∨ k = 4 ∨ k = 19 ∨ k = 12 ∨ k = 20 ∨ k = 2) → ¬ inS k i := fun k i z z2 => z2.elim (fun z3 => by unfold inT at z3; omega) fun z3 => by unfold inY at z3; omega
  refine ⟨a1.fr hF (n2 _ _ (by omega)), a2.fr hF (nn 0 (by omega)), a3.fr hF (nn 1 (by omega)) (n2 _ _ (by omega)), ⟨Y, hY⟩, a5.fr hF ?_ (n2 _ _ (by omega)), a6.fr hF nS5, a7.fr hF (n2 _ _ (by omega)) (n2 _ _ (by omega)), hT, cap, a9.fr hF (n2 _ _ (by omega)) (fun v hv z => z.elim (fun z3 => by unfold inT at z3; omega) fun z3 => by unfold inY at z3; omega)⟩
  rintro k i (⟨rfl, rfl⟩ | ⟨j, -, z⟩)
  · exact n2 _ _ (by omega)
  · exact nn (3 + j) (by omega) k i z
theorem inx_u {S : KS} {M M' : Mem} {p n : Nat} {b : Nat → Int32} {c q : Int32} (h : CSt M S p) (hF : Fr inX M M') (hS : SLay M') (hT : Tz M' b n c q) : CSt M' (kSt S b n c q) p := by
  obtain ⟨a1, a2, a3, ⟨Z, a4⟩, a5, a6, a7, a8, cap, a9⟩ := h
  have n2 : ∀ k i, (k = 10 ∨ k = 5 ∨ k = 12 ∨ k = 20 ∨ k = 2) → ¬ inX k i := fun k i z z2 => by unfold inX inT at z2; omega
  refine ⟨a1.fr hF (n2 _ _ (by omega)), a2.fr hF nXY, a3.fr hF nXY (n2 _ _ (by omega)), ⟨Z, a4.fr hF nXY⟩, a5.fr hF ?_ (n2 _ _ (by omega)), a6.fr hF (n2 _ _ (by omega)), hS, hT, cap, a9.fr hF (n2 _ _ (by omega)) (fun v hv z => by unfold inX inT at z; omega)⟩
  rintro k i (⟨rfl, rfl⟩ | ⟨j, -, z⟩)
  · exact n2 _ _ (by omega)
  · exact nXY k i z
def NmP (b : Nat → Int32) (n : Nat) (nm : Int32) : Prop := ∃ e, nnC b n e = 0 ∧ nm = nmF b (tS b n e) (tE b n e)
theorem nb_in {b : Nat → Int32} {n e : Nat} {lo hi : Int32} (h : nbC b n e lo hi = 0) : lo ≤ nbV b n e ∧ nbV b n e ≤ hi := by
  unfold nbC at h
  split at h
  · split at h
    · assumption
    · exact absurd h (by decide)
  · exact absurd h (by decide)
def stC (b : Nat → Int32) (n : Nat) (P : Yd → Prop) : Prop := ∀ Y m w nm ta go, DY Y m w → P Y → m < 16 → NmP b n nm → cnF Y nm 16 0 = none → 1 ≤ ta → ta ≤ 50 → 0 ≤ go → go ≤ 500 → P (acY Y m nm ta go) ∧ ∀ j, j < m → nI (dp Y j) < 5 → P (neY (acY Y m nm ta go) m j)
def stB (b : Nat → Int32) (n : Nat) (P : Yd → Prop) : Prop := ∀ Y m w nm mo to tr, DY Y m w → P Y → w < 6 → NmP b n nm → bnF Y nm 6 0 = none → 0 ≤ mo → mo ≤ 9999 → 0 ≤ to → to ≤ 50 → 0 ≤ tr → tr ≤ 100 → P (abY Y w nm mo to tr)
def stS (P : Yd → Prop) : Prop := ∀ Y m w, DY Y m w → P Y → (∀ v, 0 ≤ v → v ≤ 50 → P (uS Y 1 v)) ∧ (∀ v, 0 ≤ v → v ≤ 9999 → P (uS Y 0 v)) ∧ (∀ v, 1 ≤ v → v ≤ 100 → P (uS Y 2 v)) ∧ (∀ v, 1 ≤ v → v ≤ 9 → P (uF Y 6 v)) ∧ ∀ v, 0 ≤ v → v ≤ 100 → P (uF Y 7 v)
def Pof (P : Yd → Prop) (r : PR) : Prop := match r with
  | .inl _ => True
  | .inr (_, Y') => P Y'
theorem pof9 {b : Nat → Int32} {n e : Nat} {Y : Yd} {P : Yd → Prop} (h : P Y) : Pof P (crP9 b n e Y) := by
  unfold crP9
  split
  · exact h
  · trivial
theorem pofC {b : Nat → Int32} {n s e m w : Nat} {Y : Yd} {P : Yd → Prop} (hC : stC b n P) (h : DY Y m w) (hP : P Y) : Pof P (crP0 b n s e m Y) := by
  unfold crP0
  split
  next => trivial
  next hm =>
  unfold crP1
  split
  next z1 =>
    unfold crP2
    split
    next z2 =>
      unfold crP3
      split
      next z3 =>
        unfold crP4
        split
        next z4 =>
          have hc := hC Y m w _ _ _ h hP (by omega) ⟨_, z1, rfl⟩ z2 (nb_in z3).1 (nb_in z3).2 (nb_in z4).1 (nb_in z4).2
          unfold crP5
          split
          next z5 =>
            unfold crP6
            split
            next z6 =>
              unfold crP7
              split
              next z7 =>
                split
                next => trivial
                next j hj => exact pof9 (hc.2 j (cn_m h z6 hj) (rq_lt z7 hj))
              next => trivial
            next => trivial
          next => exact pof9 hc.1
        next => trivial
      next => trivial
    next => trivial
  next => trivial
theorem pofB {b : Nat → Int32} {n s e m w : Nat} {Y : Yd} {P : Yd → Prop} (hB : stB b n P) (h : DY Y m w) (hP : P Y) : Pof P (buP0 b n s e w Y) := by
  unfold buP0
  split
  next => trivial
  next hw =>
  unfold buP1
  split
  next z1 =>
    unfold buP2
    split
    next z2 =>
      unfold buP3
      split
      next z3 =>
        unfold buP4
        split
        next z4 =>
          unfold buP5
          split
          next z5 =>
            unfold buP6
            split
            next => exact hB Y m w _ _ _ _ h hP (by omega) ⟨_, z1, rfl⟩ z2 (nb_in z3).1 (nb_in z3).2 (nb_in z4).1 (nb_in z4).2 (nb_in z5).1 (nb_in z5).2
            next => trivial
          next => trivial
        next => trivial
      next => trivial
    next => trivial
  next => trivial
theorem pofS1 {b : Nat → Int32} {n e : Nat} {lo hi : Int32} {F : Int32 → Yd} {P : Yd → Prop} (h : ∀ v, lo ≤ v → v ≤ hi → P (F v)) : Pof P (seP b n (st1 b n e lo hi F)) := by
  unfold st1
  split
  next z =>
    unfold seP
    dsimp only
    split
    · exact h _ (nb_in z).1 (nb_in z).2
    · trivial
  next => trivial
theorem pofS {b : Nat → Int32} {n s e m w : Nat} {k : Int32} {Y : Yd} {P : Yd → Prop} (hS : stS P) (h : DY Y m w) (hP : P Y) : Pof P (seP b n (setR b n s e k Y)) := by
  obtain ⟨h1, h2, h3, h4, h5⟩ := hS Y m w h hP
  unfold setR
  split
  · exact pofS1 h1
  split
  · exact pofS1 h2
  split
  · exact pofS1 h3
  split
  · exact pofS1 h4
  split
  · exact pofS1 h5
  · trivial
theorem pofT {b : Nat → Int32} {n s e m w : Nat} {k : Int32} {Y : Yd} {P : Yd → Prop} (hC : stC b n P) (hB : stB b n P) (hS : stS P) (h : DY Y m w) (hP : P Y) : Pof P (stmP b n s e k Y) := by
  unfold stmP
  split
  · rw [h.m]; exact pofC hC h hP
  split
  · rw [h.w]; exact pofB hB h hP
  · exact pofS hS h hP
/-- what every step of a setup keeps holds of the yard that it gives -/
theorem suP_ind {b : Nat → Int32} {n : Nat} {P : Yd → Prop} (hC : stC b n P) (hB : stB b n P) (hS : stS P) : ∀ (f e : Nat) (Y : Yd) (m w : Nat), DY Y m w → P Y → ∀ e' Y', suP b n f e Y = .inr (e', Y') → P Y' ∧ 0 < yF Y' 4 ∧ ∃ m w, DY Y' m w := by
  have fin : ∀ s Y m w, DY Y m w → P Y → ∀ e' Y', finS s Y = .inr (e', Y') → P Y' ∧ 0 < yF Y' 4 ∧ ∃ m w, DY Y' m w := by
    intro s Y m w hD hP e' Y' h
    unfold finS at h
    split at h
    · cases h; exact ⟨hP, by assumption, m, w, hD⟩
    · cases h
  intro f
  induction f with
  | zero => intro e Y m w hD hP e' Y' h; exact fin _ Y m w hD hP e' Y' h
  | succ f ih =>
    intro e Y m w hD hP e' Y' h
    rw [suP] at h
    split at h
    · exact fin _ Y m w hD hP e' Y' h
    · have ho := okStm (b := b) (n := n) (s := tS b n e) (e := tE b n e) (k := tK b n e) hD
      have hp := pofT (b := b) (n := n) (s := tS b n e) (e := tE b n e) (k := tK b n e) hC hB hS hD hP
      split at h
      · cases h
      next e1 Y1 hr =>
        rw [hr] at ho hp
        obtain ⟨-, m1, w1, hD1⟩ := ho
        exact ih e1 Y1 m1 w1 hD1 hp e' Y' h
def PG (Y : Yd) : Prop := (∀ i, i < 16 → yC Y i 7 = 0 ∨ yC Y i 7 = 1) ∧ ∀ j, j < 6 → yF Y 5 ≤ nI j → yB Y j 1 = 0
theorem y7_awO : ∀ (n : Nat) (Y : Yd) (o : Option Nat) (w : Int32) (i f : Nat), (f = 0 ∨ f = 1 ∨ f = 2 ∨ f = 3 ∨ f = 6 ∨ f = 7) → yC (awO n Y o w) i f = yC Y i f := by
  intro n
  induction n with
  | zero => intro Y o w i f _; rfl
  | succ n ih =>
    intro Y o w i f hf
    cases o with
    | none => rfl
    | some j =>
      show yC (awO n (awC Y j w) (yP Y j) w) i f = _
      rw [ih _ _ _ _ _ hf]
      show yC (dscY (uT (uC Y j 4 (yC Y j 4 + w)) 1 (yT Y 1 + yC Y j 8)) j) i f = _
      unfold dscY
      simp only [yC_uC, yC_uL, yC_uT]
      rw [if_neg (by omega), if_neg (by omega), if_neg (by omega), if_neg (by omega)]
theorem yB_awO : ∀ (n : Nat) (Y : Yd) (o : Option Nat) (w : Int32), yB (awO n Y o w) = yB Y := by
  intro n
  induction n with
  | zero => intro Y o w; rfl
  | succ n ih =>
    intro Y o w
    cases o with
    | none => rfl
    | some j =>
      show yB (awO n (awC Y j w) (yP Y j) w) = _
      rw [ih]; rfl
theorem y7_neY (Y : Yd) (i o k f : Nat) (hf : f = 0 ∨ f = 1 ∨ f = 2 ∨ f = 3 ∨ f = 7) : yC (neY Y i o) k f = yC Y k f := by
  unfold neY
  rw [y7_awO _ _ _ _ _ _ (by omega)]
  show yC (uC (uF (uP (awO _ Y _ _) i (some o)) 8 _) i 6 _) k f = _
  rw [yC_uC, if_neg (by omega), yC_uF, yC_uP, y7_awO _ _ _ _ _ _ (by omega)]
theorem yB_neY (Y : Yd) (i o : Nat) : yB (neY Y i o) = yB Y := by
  unfold neY
  rw [yB_awO]
  show yB (uC (uF (uP (awO _ Y _ _) i (some o)) 8 _) i 6 _) = _
  rw [yB_uC, yB_uF, yB_uP, yB_awO]
theorem PG_acY {Y : Yd} {m : Nat} {nm ta go : Int32} (h : PG Y) : PG (acY Y m nm ta go) := by
  refine ⟨fun i hi => ?_, fun j hj hl => ?_⟩
  · unfold acY
    simp only [yC_uC, yC_uF]
    split
    · exact Or.inr rfl
    · rw [if_neg (by omega), if_neg (by omega), if_neg (by omega), if_neg (by omega)]
      exact h.1 i hi
  · exact h.2 j hj hl
theorem PG_st {b : Nat → Int32} {n : Nat} : stC b n PG ∧ stB b n PG ∧ stS PG := by
  refine ⟨fun Y m w nm ta go hD h hm _ _ _ _ _ _ => ⟨PG_acY h, fun j hj _ => ?_⟩, fun Y m w nm mo to tr hD h hw _ _ _ _ _ _ _ _ => ?_, fun Y m w hD h => ⟨fun v _ _ => h, fun v _ _ => h, fun v _ _ => h, fun v _ _ => h, fun v _ _ => h⟩⟩
  · have h1 := PG_acY (m := m) (nm := nm) (ta := ta) (go := go) h
    refine ⟨fun i hi => by rw [y7_neY _ _ _ _ _ (by omega)]; exact h1.1 i hi, fun k hk hl => ?_⟩
    rw [yB_neY]
    rw [yF_neY _ _ _ _ (by decide)] at hl
    exact h1.2 k hk hl
  · refine ⟨fun i hi => h.1 i hi, fun k hk hl => ?_⟩
    unfold abY at hl ⊢
    simp only [yB_uB, yB_uF, yB_uT] at hl ⊢
    simp only [yF_uT, yF_uB, yF_uF] at hl
    rw [if_pos trivial, hD.2.2.2.1, nI_1, nI_leI (by omega) (by omega)] at hl
    rw [if_neg (fun z => absurd z.2 (by decide)), if_neg (fun z => absurd z.2 (by decide)), if_neg (fun z => absurd z.2 (by decide)), if_neg (fun z => by have := z.1; omega)]
    exact h.2 k hk (by rw [hD.2.2.2.1]; exact nI_le (by omega) (by omega))
theorem PG_bl : PG blY := ⟨fun i _ => Or.inl rfl, fun j _ _ => rfl⟩
theorem KG_of {Y : Yd} {m w : Nat} (h : PG Y) (hD : DY Y m w) : KG Y := by
  obtain ⟨a1, a2, a3, a4, a5, a6, a7⟩ := hD
  refine ⟨h.1, a6, m, w, a1, a2, a3, a4, a7, fun j hj hw => h.2 j hj ?_, a5⟩
  rw [a4]; exact nI_le hw (by omega)
theorem suP_KG {b : Nat → Int32} {n e : Nat} {Y : Yd} (h : suP b n 600 0 blY = .inr (e, Y)) : KG Y := by
  obtain ⟨h1, h2, h3⟩ := PG_st (b := b) (n := n)
  obtain ⟨hp, -, m, w, hD⟩ := suP_ind h1 h2 h3 600 0 blY 0 0 DY_bl PG_bl e Y h
  exact KG_of hp hD
def rLod (S : KS) (p : Nat) : Rr := match suP (kB S) (kN S) 600 0 blY with
  | .inl (cd, f) => .inr (-1, kSt S (kB S) 0 cd (nI f), p)
  | .inr (_, Y) => .inr (yF Y 4, (Y, none, [], kB S, 0, 0, -1, kO S), p)
/-- what loadInput answers: whether the setup is right -/
def rLi (S : KS) (p : Nat) : Rr := match suP (kB S) (kN S) 600 0 blY with
  | .inl (cd, f) => .inr (0, kSt S (kB S) 0 cd (nI f), p)
  | .inr (_, Y) => .inr (1, (Y, none, [], kB S, 0, 0, -1, kO S), p)
set_option maxHeartbeats 1000000 in
set_option maxRecDepth 4000 in
theorem s_load {d : Nat} {S : KS} {p : Nat} {M : Mem} {Q : Out → Mem → Prop} (h : CSt M S p) (hq : QR9 Q M (rLi S p)) : WPc (d + 10) mX12_loadInput [.ref (rf 10 0)] M Q := by
  refine WPc.of (by decide +kernel) (Nat.le_of_ble_eq_true rfl) rfl ?_
  obtain ⟨Z9, hZ⟩ := h.d
  refine R.aload_n dX12_loadInput_0 rfl (by first | rfl | exact rfv_rf _) ?_
  refine R.getS (h.l.2.2.2.2.2.1) dX12_loadInput_1 fl_X12_41 (by decide) rfl ?_
  refine cl_X12_370 rfl rfl (by first | exact Nat.le_of_ble_eq_true rfl | simp [rf_cat, Value.category]) dX12_loadInput_4 ?_
  refine s_suParse h.t hZ h.se (fun M4 P4 => ?_)
  refine R.istore_n dX12_loadInput_7 (Nat.le_of_ble_eq_true rfl) (by decide) (by first | rfl | simp [lft, rf_cat]) rfl ?_
  cases hr : suP (kB S) (kN S) 600 0 blY with
  | inl x =>
    obtain ⟨cd, f⟩ := x
    rw [hr] at P4
    obtain ⟨F4, ⟨e9, k9, h4⟩, Y4, hY4⟩ := P4
    have h4 := h4.z
    have hx : CSt (sI M4 7 0 1 (nI 0)) (kSt S (kB S) 0 cd (nI f)) p := by
      have FT : Fr inT M4 (sI M4 7 0 1 (nI 0)) := Fr.sI (Fr.rf _ _) inT_F
      exact ins_u h (F4.tr (FT.mo T_S)) (h4.len (Nat.zero_le _)) (hY4.fr FT nTY)
    have kx : FrK M (sI M4 7 0 1 (nI 0)) := FrK.of (F4.tr (Fr.sI (Fr.rf _ _) (Or.inl inT_F))) nKS
    rw [rLi, hr] at hq
    rw [show okR (.inl (cd, f)) = 0 from rfl]
    refine R.aload_n dX12_loadInput_8 rfl (by first | rfl | exact rfv_rf _) ?_
    refine R.getS (by rw [(F4.2.2.2.2 10 0 (by unfold inS inT inY; omega)).2.2.1]; exact h.l.2.2.2.2.1) dX12_loadInput_9 fl_X12_32 (by decide) rfl ?_
    refine R.iconst (v := 0) dX12_loadInput_12 rfl ?_
    refine R.putI dX12_loadInput_13 fl_X12_89 (fun q hq => by cases hq; exact Or.inl rfl) (by decide) rfl rfl rfl ?_
    refine R.iload_n dX12_loadInput_16 rfl ?_
    refine R.if_eq (tgt := 43) dX12_loadInput_17 (by decide) (fun _ => ?_) (fun c => absurd rfl c)
    refine R.iload_n dX12_loadInput_43 rfl ?_
    refine WP.ret (ov := some (.int _)) dX12_loadInput_44 ⟨rfl, _, rfl, by first | rfl | assumption | exact nar_b01 (by assumption)⟩ ?_
    exact hq _ hx kx
  | inr x =>
    obtain ⟨e9, Y⟩ := x
    have hG := (suP_KG hr).g
    rw [hr] at P4
    obtain ⟨F4, ⟨s9, k9, h4⟩, hY4⟩ := P4
    have h4 := h4.z
    have FT : Fr inT M4 (sI M4 7 0 1 (nI 0)) := Fr.sI (Fr.rf _ _) inT_F
    have hY5 := hY4.fr FT nTY
    have hx : CSt (sI M4 7 0 1 (nI 0)) (kSt S (kB S) 0 0 (-1)) p := ins_u h (F4.tr (FT.mo T_S)) (h4.len (Nat.zero_le _)) hY5
    have kx : FrK M (sI M4 7 0 1 (nI 0)) := FrK.of (F4.tr (FT.mo T_S)) nKS
    rw [rLi, hr] at hq
    rw [show okR (.inr (e9, Y)) = 1 from rfl]
    refine R.aload_n dX12_loadInput_8 rfl (by first | rfl | exact rfv_rf _) ?_
    refine R.getS (by rw [(F4.2.2.2.2 10 0 (by unfold inS inT inY; omega)).2.2.1]; exact h.l.2.2.2.2.1) dX12_loadInput_9 fl_X12_32 (by decide) rfl ?_
    refine R.iconst (v := 0) dX12_loadInput_12 rfl ?_
    refine R.putI dX12_loadInput_13 fl_X12_89 (fun q hq => by cases hq; exact Or.inl rfl) (by decide) rfl rfl rfl ?_
    refine R.iload_n dX12_loadInput_16 rfl ?_
    refine R.if_eq (tgt := 43) dX12_loadInput_17 (by decide) (fun c => absurd c (by decide)) (fun _ => ?_)
    refine R.aload_n dX12_loadInput_20 rfl (by first | rfl | exact rfv_rf _) ?_
    refine R.getS (hx.l.1) dX12_loadInput_21 fl_X12_10 (by decide) rfl ?_
    refine R.aload_n dX12_loadInput_24 rfl (by first | rfl | exact rfv_rf _) ?_
    refine R.getS (hx.l.2.2.1) dX12_loadInput_25 fl_X12_19 (by decide) rfl ?_
    refine cl_X12_356 rfl rfl (by first | exact Nat.le_of_ble_eq_true rfl | simp [rf_cat, Value.category]) dX12_loadInput_28 ?_
    refine s_yCopy hx.y hY5 (by decide) hG.1 hG.2 (fun M6 h6 F6 => ?_)
    refine R.aload_n dX12_loadInput_31 rfl (by first | rfl | exact rfv_rf _) ?_
    refine R.getS ((hx.yd h6 F6).l.2.2.2.1) dX12_loadInput_32 fl_X12_25 (by decide) rfl ?_
    refine cl_X12_367 rfl rfl (by first | exact Nat.le_of_ble_eq_true rfl | simp [rf_cat, Value.category]) dX12_loadInput_35 ?_
    refine s_hForget (hx.yd h6 F6).h (fun M7 h7 F7 => ?_)
    have hy := (hx.yd h6 F6).hi h7 F7
    refine R.aload_n dX12_loadInput_38 rfl (by first | rfl | exact rfv_rf _) ?_
    refine R.iconst (v := 0) dX12_loadInput_39 rfl ?_
    refine R.putI dX12_loadInput_40 fl_X12_359 (fun q hq => by cases hq; exact Or.inl rfl) (by decide) rfl (by first | rfl | assumption) (by first | rfl | assumption) ?_
    refine R.iload_n dX12_loadInput_43 rfl ?_
    refine WP.ret (ov := some (.int _)) dX12_loadInput_44 ⟨rfl, _, rfl, by first | rfl | assumption | exact nar_b01 (by assumption)⟩ ?_
    have F8 : Fr (fun k i => k = 10 ∧ i = 0) M7 (sI M7 10 0 10 0) := Fr.sI (Fr.rf _ _) ⟨rfl, rfl⟩
    refine hq _ ?_ ?_
    · obtain ⟨a1, a2, ⟨Z, a3, a3b⟩, ⟨Z2, a4⟩, a5, a6, a7, a8, cap, a9⟩ := hy
      have nY : ∀ y k i, inY y k i → ¬ (k = 10 ∧ i = 0) := fun y k i z z2 => by unfold inY at z; omega
      refine ⟨a1, a2.fr F8 (nY 0), ⟨Z, a3.fr F8 (nY 1), rfl⟩, ⟨Z2, a4.fr F8 (nY 2)⟩, a5.fr F8 ?_ (by omega), a6.fr F8 (by omega), a7.fr F8 (by omega) (by omega), a8.fr F8 (by omega) (by omega), cap, a9.fr F8 (by omega) (fun v _ => by omega)⟩
      rintro k i (⟨rfl, rfl⟩ | ⟨j, -, z⟩)
      · omega
      · exact nY _ k i z
    · have F9 : Fr (fun k i => (inY 0 k i ∨ inH k i) ∨ (k = 10 ∧ i = 0)) (sI M4 7 0 1 (nI 0)) (sI M7 10 0 10 0) := ((F6.mo fun k i z => Or.inl (Or.inl z)).tr (F7.mo fun k i z => Or.inl (Or.inr z))).tr (F8.mo fun k i z => Or.inr z)
      have F10 : Fr (fun k i => inS k i ∨ ((inY 0 k i ∨ inH k i) ∨ (k = 10 ∧ i = 0))) M (sI M7 10 0 10 0) := ((F4.tr (FT.mo T_S)).mo fun k i z => Or.inl z).tr (F9.mo fun k i z => Or.inr z)
      exact FrK.of F10 fun k i hk z => z.elim (nKS k i hk) fun z => z.elim (fun z => z.elim (nKY k i hk) (nKH k i hk)) fun z => by unfold inK at hk; omega
