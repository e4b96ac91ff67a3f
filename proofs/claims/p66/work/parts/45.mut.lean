/-! scripts that were read name what there is -/
def NV (t : St) : Prop := (t.1 = 0 → 1 ≤ t.2.2.2 ∧ t.2.2.2 ≤ 50) ∧ (t.1 = 1 ∨ t.1 = 2 → 1 ≤ t.2.2.2 ∧ t.2.2.2 ≤ 500) ∧ (t.1 = 7 → 0 ≤ t.2.2.2 ∧ t.2.2.2 ≤ 50) ∧ (t.1 = 8 → 1 ≤ t.2.2.2 ∧ t.2.2.2 ≤ 100)
theorem cn_cv {b : Nat → Int32} {n e m w j : Nat} {Y : Yd} (hB : CrB Y m w) (h : nnC b n e = 0) (hc : cnF Y (nmF b (tS b n e) (tE b n e)) 16 0 = some j) : j < 16 ∧ ¬ yF Y 4 ≤ nI j := by
  have hj := cnF_lt 16 0 rfl hc
  refine ⟨hj, ?_⟩
  rw [hB.2.2.1]
  by_cases z : m ≤ j
  · have e1 := cnF_at 16 0 hc
    rw [hB.2.2.2.2.1 j hj z] at e1
    exact absurd e1.symm (nm_ne0 h)
  · exact nI_ge (by omega) (by have := hB.1; omega)
theorem bnF_at {Y : Yd} {x : Int32} {c : Nat} : ∀ k i, bnF Y x k i = some c → yB Y c 1 = x := by
  intro k
  induction k with
  | zero => intro i h; cases h
  | succ k ih =>
    intro i h
    rw [bnF] at h
    split at h
    · cases h; assumption
    · exact ih (i + 1) h
theorem bn_cv {b : Nat → Int32} {n e m w j : Nat} {Y : Yd} (hB : CrB Y m w) (h : nnC b n e = 0) (hc : bnF Y (nmF b (tS b n e) (tE b n e)) 6 0 = some j) : j < 6 ∧ ¬ yF Y 5 ≤ nI j := by
  have hj := bnF_lt 6 0 rfl hc
  refine ⟨hj, ?_⟩
  rw [hB.2.2.2.1]
  by_cases z : w ≤ j
  · have e1 := bnF_at 6 0 hc
    rw [hB.2.2.2.2.2.1 j hj z] at e1
    exact absurd e1.symm (nm_ne0 h)
  · exact nI_ge (by omega) (by have := hB.2.1; omega)
theorem qC_in {b : Nat → Int32} {n e e' : Nat} {Y : Yd} {t : St} {K : Nat → Nat → QR} {m w : Nat} (hB : CrB Y m w) (h : qC b n e Y K = .inr (e', t)) : ∃ j, (j < 16 ∧ ¬ yF Y 4 ≤ nI j) ∧ K j (tE b n e) = .inr (e', t) := by
  unfold qC at h
  split at h
  next z =>
    split at h
    · cases h
    next j hc => exact ⟨j, cn_cv hB z hc, h⟩
  · cases h
theorem qB_in {b : Nat → Int32} {n e e' : Nat} {Y : Yd} {t : St} {K : Nat → Nat → QR} {m w : Nat} (hB : CrB Y m w) (h : qB b n e Y K = .inr (e', t)) : ∃ j, (j < 6 ∧ ¬ yF Y 5 ≤ nI j) ∧ K j (tE b n e) = .inr (e', t) := by
  unfold qB at h
  split at h
  next z =>
    split at h
    · cases h
    next j hc => exact ⟨j, bn_cv hB z hc, h⟩
  · cases h
theorem qN_in {b : Nat → Int32} {n e e' : Nat} {lo hi : Int32} {t : St} {K : Int32 → St} (h : qN b n e lo hi K = .inr (e', t)) : ∃ x, lo ≤ x ∧ x ≤ hi ∧ t = K x := by
  unfold qN at h
  split at h
  next z => cases h; exact ⟨_, (nb_in z).1, (nb_in z).2, rfl⟩
  · cases h
theorem qW_in {b : Nat → Int32} {n e e' v : Nat} {t : St} {K : Nat → QR} (h : qW b n e v K = .inr (e', t)) : K (tE b n e) = .inr (e', t) := by
  unfold qW at h
  split at h
  · exact h
  · cases h
theorem x50 {x : Int32} (h1 : 1 ≤ x) (h2 : x ≤ 50) : ∃ k, x = nI k ∧ k ≤ 50 := by
  obtain ⟨k, hk, rfl⟩ := nI_of (x := x) (by rw [Int32.le_iff_toInt_le] at h1; rw [Int32.lt_iff_toInt_lt]; have : (1 : Int32).toInt = 1 := by decide
                                            have : (0 : Int32).toInt = 0 := by decide
                                            omega)
  exact ⟨k, rfl, (nI_leI (b := 50) hk (by decide)).mp h2⟩
theorem sq_in {b : Nat → Int32} {n e e' v m w : Nat} {Y : Yd} {t : St} (hB : CrB Y m w) (h : sqP b n e v Y = .inr (e', t)) : CV Y t ∧ NV t := by
  have no : ∀ {a c : Nat} {P : Prop}, ¬ a = c → a = c → P := fun h1 h2 => absurd h2 h1
  unfold sqP at h
  split at h
  · obtain ⟨j, hj, h⟩ := qC_in hB h
    obtain ⟨x, h1, h2, rfl⟩ := qN_in h
    exact ⟨⟨fun _ => hj, no (by decide : ¬ (0 : Nat) = 3), no (by decide : ¬ (0 : Nat) = 6), fun _ => x50 h1 h2⟩, fun _ => ⟨h1, h2⟩, fun z => z.elim (no (by decide : ¬ (0 : Nat) = 1)) (no (by decide : ¬ (0 : Nat) = 2)), no (by decide : ¬ (0 : Nat) = 7), no (by decide : ¬ (0 : Nat) = 8)⟩
  split at h
  · obtain ⟨j, hj, h⟩ := qC_in hB h
    obtain ⟨x, h1, h2, rfl⟩ := qN_in h
    exact ⟨⟨fun _ => hj, no (by decide : ¬ (1 : Nat) = 3), no (by decide : ¬ (1 : Nat) = 6), no (by decide : ¬ (1 : Nat) = 0)⟩, no (by decide : ¬ (1 : Nat) = 0), fun _ => ⟨h1, h2⟩, no (by decide : ¬ (1 : Nat) = 7), no (by decide : ¬ (1 : Nat) = 8)⟩
  split at h
  · obtain ⟨j, hj, h⟩ := qC_in hB h
    obtain ⟨x, h1, h2, rfl⟩ := qN_in h
    exact ⟨⟨fun _ => hj, no (by decide : ¬ (2 : Nat) = 3), no (by decide : ¬ (2 : Nat) = 6), no (by decide : ¬ (2 : Nat) = 0)⟩, no (by decide : ¬ (2 : Nat) = 0), fun _ => ⟨h1, h2⟩, no (by decide : ¬ (2 : Nat) = 7), no (by decide : ¬ (2 : Nat) = 8)⟩
  split at h
  · obtain ⟨j, hj, h⟩ := qC_in hB h
    obtain ⟨k, hk, h⟩ := qC_in hB (qW_in h)
    cases h
    exact ⟨⟨fun _ => hj, fun _ => hk, no (by decide : ¬ (3 : Nat) = 6), no (by decide : ¬ (3 : Nat) = 0)⟩, no (by decide : ¬ (3 : Nat) = 0), fun z => z.elim (no (by decide : ¬ (3 : Nat) = 1)) (no (by decide : ¬ (3 : Nat) = 2)), no (by decide : ¬ (3 : Nat) = 7), no (by decide : ¬ (3 : Nat) = 8)⟩
  split at h
  · obtain ⟨j, hj, h⟩ := qC_in hB h
    cases h
    exact ⟨⟨fun _ => hj, no (by decide : ¬ (4 : Nat) = 3), no (by decide : ¬ (4 : Nat) = 6), no (by decide : ¬ (4 : Nat) = 0)⟩, no (by decide : ¬ (4 : Nat) = 0), fun z => z.elim (no (by decide : ¬ (4 : Nat) = 1)) (no (by decide : ¬ (4 : Nat) = 2)), no (by decide : ¬ (4 : Nat) = 7), no (by decide : ¬ (4 : Nat) = 8)⟩
  split at h
  · cases h
    exact ⟨⟨fun z => absurd (show nCr 5 = true from z) (by decide), no (by decide : ¬ (5 : Nat) = 3), no (by decide : ¬ (5 : Nat) = 6), no (by decide : ¬ (5 : Nat) = 0)⟩, no (by decide : ¬ (5 : Nat) = 0), fun z => z.elim (no (by decide : ¬ (5 : Nat) = 1)) (no (by decide : ¬ (5 : Nat) = 2)), no (by decide : ¬ (5 : Nat) = 7), no (by decide : ¬ (5 : Nat) = 8)⟩
  split at h
  · obtain ⟨j, hj, h⟩ := qC_in hB h
    obtain ⟨k, hk, h⟩ := qB_in hB (qW_in h)
    cases h
    exact ⟨⟨fun _ => hj, no (by decide : ¬ (6 : Nat) = 3), fun _ => hk, no (by decide : ¬ (6 : Nat) = 0)⟩, no (by decide : ¬ (6 : Nat) = 0), fun z => z.elim (no (by decide : ¬ (6 : Nat) = 1)) (no (by decide : ¬ (6 : Nat) = 2)), no (by decide : ¬ (6 : Nat) = 7), no (by decide : ¬ (6 : Nat) = 8)⟩
  split at h
  · obtain ⟨x, h1, h2, rfl⟩ := qN_in h
    exact ⟨⟨fun z => absurd (show nCr 7 = true from z) (by decide), no (by decide : ¬ (7 : Nat) = 3), no (by decide : ¬ (7 : Nat) = 6), no (by decide : ¬ (7 : Nat) = 0)⟩, no (by decide : ¬ (7 : Nat) = 0), fun z => z.elim (no (by decide : ¬ (7 : Nat) = 1)) (no (by decide : ¬ (7 : Nat) = 2)), fun _ => ⟨h1, h2⟩, no (by decide : ¬ (7 : Nat) = 8)⟩
  · obtain ⟨x, h1, h2, rfl⟩ := qN_in h
    exact ⟨⟨fun z => absurd (show nCr 8 = true from z) (by decide), no (by decide : ¬ (8 : Nat) = 3), no (by decide : ¬ (8 : Nat) = 6), no (by decide : ¬ (8 : Nat) = 0)⟩, no (by decide : ¬ (8 : Nat) = 0), fun z => z.elim (no (by decide : ¬ (8 : Nat) = 1)) (no (by decide : ¬ (8 : Nat) = 2)), no (by decide : ¬ (8 : Nat) = 7), fun _ => ⟨h1, h2⟩⟩
/-! mutators -/
def r1 (S : KS) (p : Nat) (v : Int32) (Y : Yd) : Rr := .inr (v, kSy (kR S) Y, p + 1)
def rC (S : KS) (x : Int32) (f : Nat → Rr) : Rr := match kC (kY S) x with
  | none => .inl eI
  | some i => f i
def rU (S : KS) (x : Int32) (f : Nat → Rr) : Rr := match kU (kY S) x with
  | none => .inl eI
  | some i => f i
theorem rC_n {S : KS} {x : Int32} {f : Nat → Rr} (h : kC (kY S) x = none) : rC S x f = .inl eI := by unfold rC; rw [h]
theorem rC_s {S : KS} {x : Int32} {f : Nat → Rr} {i : Nat} (h : kC (kY S) x = some i) : rC S x f = f i := by unfold rC; rw [h]
theorem rU_n {S : KS} {x : Int32} {f : Nat → Rr} (h : kU (kY S) x = none) : rU S x f = .inl eI := by unfold rU; rw [h]
theorem rU_s {S : KS} {x : Int32} {f : Nat → Rr} {i : Nat} (h : kU (kY S) x = some i) : rU S x f = f i := by unfold rU; rw [h]
theorem FrK.tr1 {M M' M'' : Mem} {T : Nat → Nat → Prop} (h : FrK M M') (hF : Fr T M' M'') (hn : ∀ k i, inK k → ¬ T k i) : FrK M M'' := by
  obtain ⟨h1, h2, h3, h4⟩ := h
  obtain ⟨g1, g2, g3, g4, g5⟩ := hF
  refine ⟨fun k i hk => ?_, fun k hk => by rw [g1]; exact h2 k hk, by omega, by omega⟩
  have e := g5 k i (hn k i hk)
  have e0 := h1 k i hk
  exact ⟨e.1.trans e0.1, e.2.1.trans e0.2.1, e.2.2.1.trans e0.2.2.1, e.2.2.2.trans e0.2.2.2.1, by rw [g2]; exact e0.2.2.2.2⟩
theorem rLod_eq (S : KS) (p : Nat) : (∃ cd f, suP (kB S) (kN S) 600 0 blY = .inl (cd, f) ∧ rLi S p = .inr (0, kSt S (kB S) 0 cd (nI f), p) ∧ rLod S p = .inr (-1, kSt S (kB S) 0 cd (nI f), p)) ∨ ∃ e Y, suP (kB S) (kN S) 600 0 blY = .inr (e, Y) ∧ rLi S p = .inr (1, (Y, none, [], kB S, 0, 0, -1, kO S), p) ∧ rLod S p = .inr (yF Y 4, (Y, none, [], kB S, 0, 0, -1, kO S), p) := by
  unfold rLi rLod
  cases h : suP (kB S) (kN S) 600 0 blY with
  | inl x => obtain ⟨cd, f⟩ := x; exact Or.inl ⟨cd, f, rfl, rfl, rfl⟩
  | inr x => obtain ⟨e, Y⟩ := x; exact Or.inr ⟨e, Y, rfl, rfl, rfl⟩
set_option maxHeartbeats 1000000 in
set_option maxRecDepth 4000 in
theorem c_loadYard {d : Nat} {S : KS} {p : Nat} {M : Mem} {Q : Out → Mem → Prop} (h : CSt M S p) (hq : QR9 Q M (rLod S p)) : WPc (d + 20) mX12_loadYard [.ref (rf 10 0)] M Q := by
  refine WPc.of (by decide +kernel) (Nat.le_of_ble_eq_true rfl) rfl ?_
  rcases rLod_eq S p with ⟨cd, f, e1, e2, e3⟩ | ⟨e, Y, e1, e2, e3⟩
  · skip
    refine R.aload_n dX12_loadYard_0 rfl (by first | rfl | exact rfv_rf _) ?_
    refine cl_X12_85 rfl rfl (by first | exact Nat.le_of_ble_eq_true rfl | simp [rf_cat, Value.category]) dX12_loadYard_1 ?_
    refine s_load h ?_
    rw [e2]
    intro M1 h1 F1
    refine R.if_eq (tgt := 17) dX12_loadYard_4 (by decide) (fun _ => ?_) (fun c => absurd rfl c)
    refine R.iconst (v := (-1)) dX12_loadYard_17 rfl ?_
    refine WP.ret (ov := some (.int _)) dX12_loadYard_18 ⟨rfl, _, rfl, by first | rfl | assumption | exact nar_b01 (by assumption)⟩ ?_
    rw [e3] at hq
    exact hq _ h1 F1
  · skip
    refine R.aload_n dX12_loadYard_0 rfl (by first | rfl | exact rfv_rf _) ?_
    refine cl_X12_85 rfl rfl (by first | exact Nat.le_of_ble_eq_true rfl | simp [rf_cat, Value.category]) dX12_loadYard_1 ?_
    refine s_load h ?_
    rw [e2]
    intro M1 h1 F1
    refine R.if_eq (tgt := 17) dX12_loadYard_4 (by decide) (fun c => absurd c (by decide)) (fun _ => ?_)
    refine R.aload_n dX12_loadYard_7 rfl (by first | rfl | exact rfv_rf _) ?_
    refine R.getS (h1.l.1) dX12_loadYard_8 fl_X12_10 (by decide) rfl ?_
    refine R.getI dX12_loadYard_11 fl_X12_96 (by decide) rfl ?_
    rw [h1.y.rF]
    refine R.goto (tgt := 18) dX12_loadYard_14 (by decide) ?_
    refine WP.ret (ov := some (.int _)) dX12_loadYard_18 ⟨rfl, _, rfl, by first | rfl | assumption | exact nar_b01 (by assumption)⟩ ?_
    rw [e3] at hq
    exact hq _ h1 F1
set_option maxHeartbeats 1000000 in
set_option maxRecDepth 4000 in
theorem c_weigh {d : Nat} {S : KS} {p : Nat} {x : Int32} {M : Mem} {Q : Out → Mem → Prop} (h : CSt M S p) (hp : p < 2 ^ 30) (hG : KG (kY S)) (hq : QR9 Q M (rC S x fun i => if yC (kY S) i 7 = 0 then .inl eS else r1 S p (tkY (kY S) i).1 (tkY (kY S) i).2)) : WPc (d + 20) mX12_weigh [.ref (rf 10 0), .int x] M Q := by
  refine WPc.of (by decide +kernel) (Nat.le_of_ble_eq_true rfl) rfl ?_
  cases hx : kC (kY S) x with
  | none =>
    rw [rC_n hx] at hq
    refine R.aload_n dX12_weigh_0 rfl (by first | rfl | exact rfv_rf _) ?_
    refine R.iload_n dX12_weigh_1 rfl ?_
    refine cl_X12_119 rfl rfl (by first | exact Nat.le_of_ble_eq_true rfl | simp [rf_cat, Value.category]) dX12_weigh_2 ?_
    refine s_kN h hx ?_
    exact hq
  | some i =>
    obtain ⟨ex, hi, hc⟩ := kC_s hx
    rw [rC_s hx] at hq
    refine R.aload_n dX12_weigh_0 rfl (by first | rfl | exact rfv_rf _) ?_
    refine R.iload_n dX12_weigh_1 rfl ?_
    refine cl_X12_119 rfl rfl (by first | exact Nat.le_of_ble_eq_true rfl | simp [rf_cat, Value.category]) dX12_weigh_2 ?_
    refine s_kS h hx ?_
    refine R.astore_n dX12_weigh_5 (by first | rfl | exact rfv_rf _) (Nat.le_of_ble_eq_true rfl) (by decide) (by first | rfl | simp [lft, rf_cat]) rfl ?_
    refine R.aload_n dX12_weigh_6 rfl (by first | rfl | exact rfv_rf _) ?_
    refine R.getI dX12_weigh_7 fl_X12_162 (by decide) rfl ?_
    rw [h.y.rC hi]
    by_cases zs : yC (kY S) i 7 = 0
    · rw [zs]
      refine cl_X12_206 rfl rfl (by first | exact Nat.le_of_ble_eq_true rfl | simp [rf_cat, Value.category]) dX12_weigh_10 ?_
      refine s_qN ?_
      rw [if_pos zs] at hq
      exact hq
    refine cl_X12_206 rfl rfl (by first | exact Nat.le_of_ble_eq_true rfl | simp [rf_cat, Value.category]) dX12_weigh_10 ?_
    refine s_qS zs ?_
    rw [if_neg zs] at hq
    refine R.aload_n dX12_weigh_13 rfl (by first | rfl | exact rfv_rf _) ?_
    refine R.getS (h.l.2.2.2.1) dX12_weigh_14 fl_X12_25 (by decide) rfl ?_
    refine R.aload_n dX12_weigh_17 rfl (by first | rfl | exact rfv_rf _) ?_
    refine R.getS (h.l.1) dX12_weigh_18 fl_X12_10 (by decide) rfl ?_
    refine cl_X12_102 rfl rfl (by first | exact Nat.le_of_ble_eq_true rfl | simp [rf_cat, Value.category]) dX12_weigh_21 ?_
    refine s_hRem h.h hp h.y (by decide) hG.g (fun MR hR FR => ?_)
    have hr := h.hi hR FR
    have KR := FrK.of FR nKH
    refine R.aload_n dX12_weigh_24 rfl (by first | rfl | exact rfv_rf _) ?_
    refine R.getS (hr.l.1) dX12_weigh_25 fl_X12_10 (by decide) rfl ?_
    refine R.aload_n dX12_weigh_28 rfl (by first | rfl | exact rfv_rf _) ?_
    refine cl_X12_292 rfl rfl (by first | exact Nat.le_of_ble_eq_true rfl | simp [rf_cat, Value.category]) dX12_weigh_29 ?_
    refine s_yTake hr.y hi (fun MY hY FY => ?_)
    have hE := hr.yd hY FY
    have KE := KR.tr1 FY nKY
    refine WP.ret (ov := some (.int _)) dX12_weigh_32 ⟨rfl, _, rfl, by first | rfl | assumption | exact nar_b01 (by assumption)⟩ ?_
    exact hq _ hE KE
set_option maxHeartbeats 1000000 in
set_option maxRecDepth 4000 in
theorem c_addGoods {d : Nat} {S : KS} {p : Nat} {x : Int32} {z : Int32} {M : Mem} {Q : Out → Mem → Prop} (h : CSt M S p) (hp : p < 2 ^ 30) (hG : KG (kY S)) (hq : QR9 Q M (rC S x fun i => if 1 ≤ z ∧ z ≤ 500 then (if (if ¬ yC (kY S) i 7 = 0 ∧ yC (kY S) i 3 + z ≤ 500 then (1 : Int32) else 0) = 0 then .inl eS else r1 S p (yC (cgY (kY S) i (z)) i 4) (cgY (kY S) i (z))) else .inl eA)) : WPc (d + 20) mX12_addGoods [.ref (rf 10 0), .int x, .int z] M Q := by
  refine WPc.of (by decide +kernel) (Nat.le_of_ble_eq_true rfl) rfl ?_
  cases hx : kC (kY S) x with
  | none =>
    rw [rC_n hx] at hq
    refine R.aload_n dX12_addGoods_0 rfl (by first | rfl | exact rfv_rf _) ?_
    refine R.iload_n dX12_addGoods_1 rfl ?_
    refine cl_X12_119 rfl rfl (by first | exact Nat.le_of_ble_eq_true rfl | simp [rf_cat, Value.category]) dX12_addGoods_2 ?_
    refine s_kN h hx ?_
    exact hq
  | some i =>
    obtain ⟨ex, hi, hc⟩ := kC_s hx
    rw [rC_s hx] at hq
    refine R.aload_n dX12_addGoods_0 rfl (by first | rfl | exact rfv_rf _) ?_
    refine R.iload_n dX12_addGoods_1 rfl ?_
    refine cl_X12_119 rfl rfl (by first | exact Nat.le_of_ble_eq_true rfl | simp [rf_cat, Value.category]) dX12_addGoods_2 ?_
    refine s_kS h hx ?_
    refine R.astore_n dX12_addGoods_5 (by first | rfl | exact rfv_rf _) (Nat.le_of_ble_eq_true rfl) (by decide) (by first | rfl | simp [lft, rf_cat]) rfl ?_
    refine R.iload_n dX12_addGoods_6 rfl ?_
    refine R.iconst (v := 1) dX12_addGoods_7 rfl ?_
    refine R.sipush (v := 500) dX12_addGoods_8 (by decide) ?_
    by_cases zr : 1 ≤ z ∧ z ≤ 500
    rotate_left
    · skip
      refine cl_X12_218 rfl rfl (by first | exact Nat.le_of_ble_eq_true rfl | simp [rf_cat, Value.category]) dX12_addGoods_11 ?_
      refine s_rN zr ?_
      rw [if_neg zr] at hq
      exact hq
    refine cl_X12_218 rfl rfl (by first | exact Nat.le_of_ble_eq_true rfl | simp [rf_cat, Value.category]) dX12_addGoods_11 ?_
    refine s_rS zr ?_
    rw [if_pos zr] at hq
    refine R.aload_n dX12_addGoods_14 rfl (by first | rfl | exact rfv_rf _) ?_
    refine R.iload_n dX12_addGoods_15 rfl ?_
    refine cl_X12_295 rfl rfl (by first | exact Nat.le_of_ble_eq_true rfl | simp [rf_cat, Value.category]) dX12_addGoods_16 ?_
    refine s_cTake ?_
    rw [h.y.rC hi, h.y.rC hi]
    by_cases zs : (if ¬ yC (kY S) i 7 = 0 ∧ yC (kY S) i 3 + z ≤ 500 then (1 : Int32) else 0) = 0
    · rw [zs]
      refine cl_X12_206 rfl rfl (by first | exact Nat.le_of_ble_eq_true rfl | simp [rf_cat, Value.category]) dX12_addGoods_19 ?_
      refine s_qN ?_
      rw [if_pos zs] at hq
      exact hq
    refine cl_X12_206 rfl rfl (by first | exact Nat.le_of_ble_eq_true rfl | simp [rf_cat, Value.category]) dX12_addGoods_19 ?_
    refine s_qS zs ?_
    rw [if_neg zs] at hq
    refine R.aload_n dX12_addGoods_22 rfl (by first | rfl | exact rfv_rf _) ?_
    refine R.getS (h.l.2.2.2.1) dX12_addGoods_23 fl_X12_25 (by decide) rfl ?_
    refine R.aload_n dX12_addGoods_26 rfl (by first | rfl | exact rfv_rf _) ?_
    refine R.getS (h.l.1) dX12_addGoods_27 fl_X12_10 (by decide) rfl ?_
    refine cl_X12_102 rfl rfl (by first | exact Nat.le_of_ble_eq_true rfl | simp [rf_cat, Value.category]) dX12_addGoods_30 ?_
    refine s_hRem h.h hp h.y (by decide) hG.g (fun MR hR FR => ?_)
    have hr := h.hi hR FR
    have KR := FrK.of FR nKH
    refine R.aload_n dX12_addGoods_33 rfl (by first | rfl | exact rfv_rf _) ?_
    refine R.getS (hr.l.1) dX12_addGoods_34 fl_X12_10 (by decide) rfl ?_
    refine R.aload_n dX12_addGoods_37 rfl (by first | rfl | exact rfv_rf _) ?_
    refine R.iload_n dX12_addGoods_38 rfl ?_
    refine cl_X12_299 rfl rfl (by first | exact Nat.le_of_ble_eq_true rfl | simp [rf_cat, Value.category]) dX12_addGoods_39 ?_
    refine s_yGoods hr.y hi hG.a (fun MY hY FY => ?_)
    have hE := hr.yd hY FY
    have KE := KR.tr1 FY nKY
    refine R.aload_n dX12_addGoods_42 rfl (by first | rfl | exact rfv_rf _) ?_
    refine R.getI dX12_addGoods_43 fl_X12_143 (by decide) rfl ?_
    rw [hE.y.rC hi]
    refine WP.ret (ov := some (.int _)) dX12_addGoods_46 ⟨rfl, _, rfl, by first | rfl | assumption | exact nar_b01 (by assumption)⟩ ?_
    exact hq _ hE KE
set_option maxHeartbeats 1000000 in
set_option maxRecDepth 4000 in
theorem c_removeGoods {d : Nat} {S : KS} {p : Nat} {x : Int32} {z : Int32} {M : Mem} {Q : Out → Mem → Prop} (h : CSt M S p) (hp : p < 2 ^ 30) (hG : KG (kY S)) (hq : QR9 Q M (rC S x fun i => if 1 ≤ z ∧ z ≤ 500 then (if (if ¬ yC (kY S) i 7 = 0 ∧ z ≤ yC (kY S) i 3 then (1 : Int32) else 0) = 0 then .inl eS else r1 S p (yC (cgY (kY S) i (-z)) i 4) (cgY (kY S) i (-z))) else .inl eA)) : WPc (d + 20) mX12_removeGoods [.ref (rf 10 0), .int x, .int z] M Q := by
  refine WPc.of (by decide +kernel) (Nat.le_of_ble_eq_true rfl) rfl ?_
  cases hx : kC (kY S) x with
  | none =>
    rw [rC_n hx] at hq
    refine R.aload_n dX12_removeGoods_0 rfl (by first | rfl | exact rfv_rf _) ?_
    refine R.iload_n dX12_removeGoods_1 rfl ?_
    refine cl_X12_119 rfl rfl (by first | exact Nat.le_of_ble_eq_true rfl | simp [rf_cat, Value.category]) dX12_removeGoods_2 ?_
    refine s_kN h hx ?_
    exact hq
  | some i =>
    obtain ⟨ex, hi, hc⟩ := kC_s hx
    rw [rC_s hx] at hq
    refine R.aload_n dX12_removeGoods_0 rfl (by first | rfl | exact rfv_rf _) ?_
    refine R.iload_n dX12_removeGoods_1 rfl ?_
    refine cl_X12_119 rfl rfl (by first | exact Nat.le_of_ble_eq_true rfl | simp [rf_cat, Value.category]) dX12_removeGoods_2 ?_
    refine s_kS h hx ?_
    refine R.astore_n dX12_removeGoods_5 (by first | rfl | exact rfv_rf _) (Nat.le_of_ble_eq_true rfl) (by decide) (by first | rfl | simp [lft, rf_cat]) rfl ?_
    refine R.iload_n dX12_removeGoods_6 rfl ?_
    refine R.iconst (v := 1) dX12_removeGoods_7 rfl ?_
    refine R.sipush (v := 500) dX12_removeGoods_8 (by decide) ?_
    by_cases zr : 1 ≤ z ∧ z ≤ 500
    rotate_left
    · skip
      refine cl_X12_218 rfl rfl (by first | exact Nat.le_of_ble_eq_true rfl | simp [rf_cat, Value.category]) dX12_removeGoods_11 ?_
      refine s_rN zr ?_
      rw [if_neg zr] at hq
      exact hq
    refine cl_X12_218 rfl rfl (by first | exact Nat.le_of_ble_eq_true rfl | simp [rf_cat, Value.category]) dX12_removeGoods_11 ?_
    refine s_rS zr ?_
    rw [if_pos zr] at hq
    refine R.aload_n dX12_removeGoods_14 rfl (by first | rfl | exact rfv_rf _) ?_
    refine R.iload_n dX12_removeGoods_15 rfl ?_
    refine cl_X12_303 rfl rfl (by first | exact Nat.le_of_ble_eq_true rfl | simp [rf_cat, Value.category]) dX12_removeGoods_16 ?_
    refine s_cGive ?_
    rw [h.y.rC hi, h.y.rC hi]
    by_cases zs : (if ¬ yC (kY S) i 7 = 0 ∧ z ≤ yC (kY S) i 3 then (1 : Int32) else 0) = 0
    · rw [zs]
      refine cl_X12_206 rfl rfl (by first | exact Nat.le_of_ble_eq_true rfl | simp [rf_cat, Value.category]) dX12_removeGoods_19 ?_
      refine s_qN ?_
      rw [if_pos zs] at hq
      exact hq
    refine cl_X12_206 rfl rfl (by first | exact Nat.le_of_ble_eq_true rfl | simp [rf_cat, Value.category]) dX12_removeGoods_19 ?_
    refine s_qS zs ?_
    rw [if_neg zs] at hq
    refine R.aload_n dX12_removeGoods_22 rfl (by first | rfl | exact rfv_rf _) ?_
    refine R.getS (h.l.2.2.2.1) dX12_removeGoods_23 fl_X12_25 (by decide) rfl ?_
    refine R.aload_n dX12_removeGoods_26 rfl (by first | rfl | exact rfv_rf _) ?_
    refine R.getS (h.l.1) dX12_removeGoods_27 fl_X12_10 (by decide) rfl ?_
    refine cl_X12_102 rfl rfl (by first | exact Nat.le_of_ble_eq_true rfl | simp [rf_cat, Value.category]) dX12_removeGoods_30 ?_
    refine s_hRem h.h hp h.y (by decide) hG.g (fun MR hR FR => ?_)
    have hr := h.hi hR FR
    have KR := FrK.of FR nKH
    refine R.aload_n dX12_removeGoods_33 rfl (by first | rfl | exact rfv_rf _) ?_
    refine R.getS (hr.l.1) dX12_removeGoods_34 fl_X12_10 (by decide) rfl ?_
    refine R.aload_n dX12_removeGoods_37 rfl (by first | rfl | exact rfv_rf _) ?_
    refine R.iload_n dX12_removeGoods_38 rfl ?_
    refine R.ineg dX12_removeGoods_39 ?_
    refine cl_X12_299 rfl rfl (by first | exact Nat.le_of_ble_eq_true rfl | simp [rf_cat, Value.category]) dX12_removeGoods_40 ?_
    refine s_yGoods hr.y hi hG.a (fun MY hY FY => ?_)
    have hE := hr.yd hY FY
    have KE := KR.tr1 FY nKY
    refine R.aload_n dX12_removeGoods_43 rfl (by first | rfl | exact rfv_rf _) ?_
    refine R.getI dX12_removeGoods_44 fl_X12_143 (by decide) rfl ?_
    rw [hE.y.rC hi]
    refine WP.ret (ov := some (.int _)) dX12_removeGoods_47 ⟨rfl, _, rfl, by first | rfl | assumption | exact nar_b01 (by assumption)⟩ ?_
    exact hq _ hE KE
set_option maxHeartbeats 1000000 in
set_option maxRecDepth 4000 in
theorem c_moveInto {d : Nat} {S : KS} {p : Nat} {x z : Int32} {M : Mem} {Q : Out → Mem → Prop} (h : CSt M S p) (hp : p < 2 ^ 30) (hG : KG (kY S)) (hq : QR9 Q M (rC S x fun i => rC S z fun b => if yCan (kY S) i b = 0 then .inl eS else r1 S p (nI (dp (neY (kY S) i b) i)) (neY (kY S) i b))) : WPc (d + 20) mX12_moveInto [.ref (rf 10 0), .int x, .int z] M Q := by
  refine WPc.of (by decide +kernel) (Nat.le_of_ble_eq_true rfl) rfl ?_
  cases hx : kC (kY S) x with
  | none =>
    rw [rC_n hx] at hq
    refine R.aload_n dX12_moveInto_0 rfl (by first | rfl | exact rfv_rf _) ?_
    refine R.iload_n dX12_moveInto_1 rfl ?_
    refine cl_X12_119 rfl rfl (by first | exact Nat.le_of_ble_eq_true rfl | simp [rf_cat, Value.category]) dX12_moveInto_2 ?_
    refine s_kN h hx ?_
    exact hq
  | some i =>
    obtain ⟨ex, hi, hc⟩ := kC_s hx
    rw [rC_s hx] at hq
    cases hz : kC (kY S) z with
    | none =>
      rw [rC_n hz] at hq
      refine R.aload_n dX12_moveInto_0 rfl (by first | rfl | exact rfv_rf _) ?_
      refine R.iload_n dX12_moveInto_1 rfl ?_
      refine cl_X12_119 rfl rfl (by first | exact Nat.le_of_ble_eq_true rfl | simp [rf_cat, Value.category]) dX12_moveInto_2 ?_
      refine s_kS h hx ?_
      refine R.astore_n dX12_moveInto_5 (by first | rfl | exact rfv_rf _) (Nat.le_of_ble_eq_true rfl) (by decide) (by first | rfl | simp [lft, rf_cat]) rfl ?_
      refine R.aload_n dX12_moveInto_6 rfl (by first | rfl | exact rfv_rf _) ?_
      refine R.iload_n dX12_moveInto_7 rfl ?_
      refine cl_X12_119 rfl rfl (by first | exact Nat.le_of_ble_eq_true rfl | simp [rf_cat, Value.category]) dX12_moveInto_8 ?_
      refine s_kN h hz ?_
      exact hq
    | some b =>
      obtain ⟨ez, hb, hd⟩ := kC_s hz
      rw [rC_s hz] at hq
      refine R.aload_n dX12_moveInto_0 rfl (by first | rfl | exact rfv_rf _) ?_
      refine R.iload_n dX12_moveInto_1 rfl ?_
      refine cl_X12_119 rfl rfl (by first | exact Nat.le_of_ble_eq_true rfl | simp [rf_cat, Value.category]) dX12_moveInto_2 ?_
      refine s_kS h hx ?_
      refine R.astore_n dX12_moveInto_5 (by first | rfl | exact rfv_rf _) (Nat.le_of_ble_eq_true rfl) (by decide) (by first | rfl | simp [lft, rf_cat]) rfl ?_
      refine R.aload_n dX12_moveInto_6 rfl (by first | rfl | exact rfv_rf _) ?_
      refine R.iload_n dX12_moveInto_7 rfl ?_
      refine cl_X12_119 rfl rfl (by first | exact Nat.le_of_ble_eq_true rfl | simp [rf_cat, Value.category]) dX12_moveInto_8 ?_
      refine s_kS h hz ?_
      refine R.astore dX12_moveInto_11 (by first | rfl | exact rfv_rf _) (Nat.le_of_ble_eq_true rfl) (by decide) (by first | rfl | simp [lft, rf_cat]) rfl ?_
      refine R.aload_n dX12_moveInto_13 rfl (by first | rfl | exact rfv_rf _) ?_
      refine R.getS (h.l.1) dX12_moveInto_14 fl_X12_10 (by decide) rfl ?_
      refine R.aload_n dX12_moveInto_17 rfl (by first | rfl | exact rfv_rf _) ?_
      refine R.aload dX12_moveInto_18 rfl (by first | rfl | exact rfv_rf _) ?_
      refine cl_X12_306 rfl rfl (by first | exact Nat.le_of_ble_eq_true rfl | simp [rf_cat, Value.category]) dX12_moveInto_20 ?_
      refine s_yCan h.y hG.a hi hb ?_
      by_cases zs : yCan (kY S) i b = 0
      · rw [zs]
        refine cl_X12_206 rfl rfl (by first | exact Nat.le_of_ble_eq_true rfl | simp [rf_cat, Value.category]) dX12_moveInto_23 ?_
        refine s_qN ?_
        rw [if_pos zs] at hq
        exact hq
      refine cl_X12_206 rfl rfl (by first | exact Nat.le_of_ble_eq_true rfl | simp [rf_cat, Value.category]) dX12_moveInto_23 ?_
      refine s_qS zs ?_
      rw [if_neg zs] at hq
      refine R.aload_n dX12_moveInto_26 rfl (by first | rfl | exact rfv_rf _) ?_
      refine R.getS (h.l.2.2.2.1) dX12_moveInto_27 fl_X12_25 (by decide) rfl ?_
      refine R.aload_n dX12_moveInto_30 rfl (by first | rfl | exact rfv_rf _) ?_
      refine R.getS (h.l.1) dX12_moveInto_31 fl_X12_10 (by decide) rfl ?_
      refine cl_X12_102 rfl rfl (by first | exact Nat.le_of_ble_eq_true rfl | simp [rf_cat, Value.category]) dX12_moveInto_34 ?_
      refine s_hRem h.h hp h.y (by decide) hG.g (fun MR hR FR => ?_)
      have hr := h.hi hR FR
      have KR := FrK.of FR nKH
      refine R.aload_n dX12_moveInto_37 rfl (by first | rfl | exact rfv_rf _) ?_
      refine R.getS (hr.l.1) dX12_moveInto_38 fl_X12_10 (by decide) rfl ?_
      refine R.aload_n dX12_moveInto_41 rfl (by first | rfl | exact rfv_rf _) ?_
      refine R.aload dX12_moveInto_42 rfl (by first | rfl | exact rfv_rf _) ?_
      refine cl_X12_310 rfl rfl (by first | exact Nat.le_of_ble_eq_true rfl | simp [rf_cat, Value.category]) dX12_moveInto_44 ?_
      have hcn := (can_iff hG.a hi).mp zs
      refine s_yNest hr.y hi hb hG.a (acy_can0 hG.a hb hcn.2.2.1) (fun MY hY FY => ?_)
      have hE := hr.yd hY FY
      have KE := KR.tr1 FY nKY
      refine R.aload_n dX12_moveInto_47 rfl (by first | rfl | exact rfv_rf _) ?_
      refine cl_X12_149 rfl rfl (by first | exact Nat.le_of_ble_eq_true rfl | simp [rf_cat, Value.category]) dX12_moveInto_48 ?_
      refine s_cDepth hE.y hi (acy_can hG.a hi hb hcn.2.2.1 hcn.2.2.2 i hi) ?_
      refine WP.ret (ov := some (.int _)) dX12_moveInto_51 ⟨rfl, _, rfl, by first | rfl | assumption | exact nar_b01 (by assumption)⟩ ?_
      exact hq _ hE KE
def rOut (S : KS) (p i : Nat) : Rr := match yP (kY S) i with
  | none => .inl eS
  | some j => if yC (kY S) i 7 = 0 then .inl eS else r1 S p (yC (unY (kY S) i) j 4) (unY (kY S) i)
set_option maxHeartbeats 1000000 in
set_option maxRecDepth 4000 in
theorem c_takeOut {d : Nat} {S : KS} {p : Nat} {x : Int32} {M : Mem} {Q : Out → Mem → Prop} (h : CSt M S p) (hp : p < 2 ^ 30) (hG : KG (kY S)) (hq : QR9 Q M (rC S x fun i => rOut S p i)) : WPc (d + 20) mX12_takeOut [.ref (rf 10 0), .int x] M Q := by
  refine WPc.of (by decide +kernel) (Nat.le_of_ble_eq_true rfl) rfl ?_
  cases hx : kC (kY S) x with
  | none =>
    rw [rC_n hx] at hq
    refine R.aload_n dX12_takeOut_0 rfl (by first | rfl | exact rfv_rf _) ?_
    refine R.iload_n dX12_takeOut_1 rfl ?_
    refine cl_X12_119 rfl rfl (by first | exact Nat.le_of_ble_eq_true rfl | simp [rf_cat, Value.category]) dX12_takeOut_2 ?_
    refine s_kN h hx ?_
    exact hq
  | some i =>
    obtain ⟨ex, hi, hc⟩ := kC_s hx
    rw [rC_s hx] at hq
    have hp9 := h.y.rP hi
    cases hj0 : yP (kY S) i with
    | none =>
      rw [hj0] at hp9
      rw [rOut, hj0] at hq
      refine R.aload_n dX12_takeOut_0 rfl (by first | rfl | exact rfv_rf _) ?_
      refine R.iload_n dX12_takeOut_1 rfl ?_
      refine cl_X12_119 rfl rfl (by first | exact Nat.le_of_ble_eq_true rfl | simp [rf_cat, Value.category]) dX12_takeOut_2 ?_
      refine s_kS h hx ?_
      refine R.astore_n dX12_takeOut_5 (by first | rfl | exact rfv_rf _) (Nat.le_of_ble_eq_true rfl) (by decide) (by first | rfl | simp [lft, rf_cat]) rfl ?_
      refine R.aload_n dX12_takeOut_6 rfl (by first | rfl | exact rfv_rf _) ?_
      refine R.getN (hp9) dX12_takeOut_7 fl_X12_314 (by decide) rfl ?_
      refine R.astore_n dX12_takeOut_10 (by first | rfl | exact rfv_rf _) (Nat.le_of_ble_eq_true rfl) (by decide) (by first | rfl | simp [lft, rf_cat]) rfl ?_
      refine R.aload_n dX12_takeOut_11 rfl (by first | rfl | exact rfv_rf _) ?_
      refine R.ifnullN (tgt := 22) dX12_takeOut_12 (by decide) ?_
      refine R.throwW th_319 rfl (by omega) (by first | exact Nat.le_of_ble_eq_true rfl | simp [rf_cat, Value.category]) dX12_takeOut_22 dX12_takeOut_25 dX12_takeOut_26 dX12_takeOut_29 dX12_takeOut_32 ?_
      exact hq
    | some j =>
      have hj := h.y.lP hi hj0
      rw [hj0] at hp9
      rw [rOut, hj0] at hq
      dsimp only at hq
      by_cases z7 : yC (kY S) i 7 = 0
      · rw [if_pos z7] at hq
        refine R.aload_n dX12_takeOut_0 rfl (by first | rfl | exact rfv_rf _) ?_
        refine R.iload_n dX12_takeOut_1 rfl ?_
        refine cl_X12_119 rfl rfl (by first | exact Nat.le_of_ble_eq_true rfl | simp [rf_cat, Value.category]) dX12_takeOut_2 ?_
        refine s_kS h hx ?_
        refine R.astore_n dX12_takeOut_5 (by first | rfl | exact rfv_rf _) (Nat.le_of_ble_eq_true rfl) (by decide) (by first | rfl | simp [lft, rf_cat]) rfl ?_
        refine R.aload_n dX12_takeOut_6 rfl (by first | rfl | exact rfv_rf _) ?_
        refine R.getS (hp9) dX12_takeOut_7 fl_X12_314 (by decide) rfl ?_
        refine R.astore_n dX12_takeOut_10 (by first | rfl | exact rfv_rf _) (Nat.le_of_ble_eq_true rfl) (by decide) (by first | rfl | simp [lft, rf_cat]) rfl ?_
        refine R.aload_n dX12_takeOut_11 rfl (by first | rfl | exact rfv_rf _) ?_
        refine R.ifnullS (tgt := 22) (by first | decide | exact Nat.lt_of_le_of_lt (Nat.le_of_eq (kd_rf _ _ (by decide))) (by decide)) dX12_takeOut_12 (by decide) ?_
        refine R.aload_n dX12_takeOut_15 rfl (by first | rfl | exact rfv_rf _) ?_
        refine R.getI dX12_takeOut_16 fl_X12_162 (by decide) rfl ?_
        rw [h.y.rC hi]
        refine R.if_ne (tgt := 33) dX12_takeOut_19 (by decide) (fun c => absurd z7 c) (fun _ => ?_)
        refine R.throwW th_319 rfl (by omega) (by first | exact Nat.le_of_ble_eq_true rfl | simp [rf_cat, Value.category]) dX12_takeOut_22 dX12_takeOut_25 dX12_takeOut_26 dX12_takeOut_29 dX12_takeOut_32 ?_
        exact hq
      · rw [if_neg z7] at hq
        refine R.aload_n dX12_takeOut_0 rfl (by first | rfl | exact rfv_rf _) ?_
        refine R.iload_n dX12_takeOut_1 rfl ?_
        refine cl_X12_119 rfl rfl (by first | exact Nat.le_of_ble_eq_true rfl | simp [rf_cat, Value.category]) dX12_takeOut_2 ?_
        refine s_kS h hx ?_
        refine R.astore_n dX12_takeOut_5 (by first | rfl | exact rfv_rf _) (Nat.le_of_ble_eq_true rfl) (by decide) (by first | rfl | simp [lft, rf_cat]) rfl ?_
        refine R.aload_n dX12_takeOut_6 rfl (by first | rfl | exact rfv_rf _) ?_
        refine R.getS (hp9) dX12_takeOut_7 fl_X12_314 (by decide) rfl ?_
        refine R.astore_n dX12_takeOut_10 (by first | rfl | exact rfv_rf _) (Nat.le_of_ble_eq_true rfl) (by decide) (by first | rfl | simp [lft, rf_cat]) rfl ?_
        refine R.aload_n dX12_takeOut_11 rfl (by first | rfl | exact rfv_rf _) ?_
        refine R.ifnullS (tgt := 22) (by first | decide | exact Nat.lt_of_le_of_lt (Nat.le_of_eq (kd_rf _ _ (by decide))) (by decide)) dX12_takeOut_12 (by decide) ?_
        refine R.aload_n dX12_takeOut_15 rfl (by first | rfl | exact rfv_rf _) ?_
        refine R.getI dX12_takeOut_16 fl_X12_162 (by decide) rfl ?_
        rw [h.y.rC hi]
        refine R.if_ne (tgt := 33) dX12_takeOut_19 (by decide) (fun _ => ?_) (fun c => absurd c z7)
        refine R.aload_n dX12_takeOut_33 rfl (by first | rfl | exact rfv_rf _) ?_
        refine R.getS (h.l.2.2.2.1) dX12_takeOut_34 fl_X12_25 (by decide) rfl ?_
        refine R.aload_n dX12_takeOut_37 rfl (by first | rfl | exact rfv_rf _) ?_
        refine R.getS (h.l.1) dX12_takeOut_38 fl_X12_10 (by decide) rfl ?_
        refine cl_X12_102 rfl rfl (by first | exact Nat.le_of_ble_eq_true rfl | simp [rf_cat, Value.category]) dX12_takeOut_41 ?_
        refine s_hRem h.h hp h.y (by decide) hG.g (fun MR hR FR => ?_)
        have hr := h.hi hR FR
        have KR := FrK.of FR nKH
        refine R.aload_n dX12_takeOut_44 rfl (by first | rfl | exact rfv_rf _) ?_
        refine R.getS (hr.l.1) dX12_takeOut_45 fl_X12_10 (by decide) rfl ?_
        refine R.aload_n dX12_takeOut_48 rfl (by first | rfl | exact rfv_rf _) ?_
        refine cl_X12_323 rfl rfl (by first | exact Nat.le_of_ble_eq_true rfl | simp [rf_cat, Value.category]) dX12_takeOut_49 ?_
        refine s_yUnnest hr.y hi hG.a (fun MY hY FY => ?_)
        have hE := hr.yd hY FY
        have KE := KR.tr1 FY nKY
        refine R.aload_n dX12_takeOut_52 rfl (by first | rfl | exact rfv_rf _) ?_
        refine R.getI dX12_takeOut_53 fl_X12_143 (by decide) rfl ?_
        rw [hE.y.rC hj]
        refine WP.ret (ov := some (.int _)) dX12_takeOut_56 ⟨rfl, _, rfl, by first | rfl | assumption | exact nar_b01 (by assumption)⟩ ?_
        exact hq _ hE KE
set_option maxHeartbeats 1000000 in
set_option maxRecDepth 4000 in
theorem c_replaceSpring {d : Nat} {S : KS} {p : Nat} {M : Mem} {Q : Out → Mem → Prop} (h : CSt M S p) (hp : p < 2 ^ 30) (hG : KG (kY S)) (hq : QR9 Q M (r1 S p (yS (kY S) 3) (spY (kY S)))) : WPc (d + 20) mX12_replaceSpring [.ref (rf 10 0)] M Q := by
  refine WPc.of (by decide +kernel) (Nat.le_of_ble_eq_true rfl) rfl ?_
  refine R.aload_n dX12_replaceSpring_0 rfl (by first | rfl | exact rfv_rf _) ?_
  refine R.getS (h.l.1) dX12_replaceSpring_1 fl_X12_10 (by decide) rfl ?_
  refine R.getS (lay2 h.y.lay) dX12_replaceSpring_4 fl_X12_185 (by decide) rfl ?_
  refine R.getI dX12_replaceSpring_7 fl_X12_188 (by decide) rfl ?_
  rw [h.y.rS]
  refine R.istore_n dX12_replaceSpring_10 (Nat.le_of_ble_eq_true rfl) (by decide) (by first | rfl | simp [lft, rf_cat]) rfl ?_
  refine R.aload_n dX12_replaceSpring_11 rfl (by first | rfl | exact rfv_rf _) ?_
  refine R.getS (h.l.2.2.2.1) dX12_replaceSpring_12 fl_X12_25 (by decide) rfl ?_
  refine R.aload_n dX12_replaceSpring_15 rfl (by first | rfl | exact rfv_rf _) ?_
  refine R.getS (h.l.1) dX12_replaceSpring_16 fl_X12_10 (by decide) rfl ?_
  refine cl_X12_102 rfl rfl (by first | exact Nat.le_of_ble_eq_true rfl | simp [rf_cat, Value.category]) dX12_replaceSpring_19 ?_
  refine s_hRem h.h hp h.y (by decide) hG.g (fun MR hR FR => ?_)
  have hr := h.hi hR FR
  have KR := FrK.of FR nKH
  refine R.aload_n dX12_replaceSpring_22 rfl (by first | rfl | exact rfv_rf _) ?_
  refine R.getS (hr.l.1) dX12_replaceSpring_23 fl_X12_10 (by decide) rfl ?_
  refine cl_X12_326 rfl rfl (by first | exact Nat.le_of_ble_eq_true rfl | simp [rf_cat, Value.category]) dX12_replaceSpring_26 ?_
  refine s_ySpring hr.y (fun MY hY FY => ?_)
  have hE := hr.yd hY FY
  have KE := KR.tr1 FY nKY
  refine R.iload_n dX12_replaceSpring_29 rfl ?_
  refine WP.ret (ov := some (.int _)) dX12_replaceSpring_30 ⟨rfl, _, rfl, by first | rfl | assumption | exact nar_b01 (by assumption)⟩ ?_
  exact hq _ hE KE
set_option maxHeartbeats 1000000 in
set_option maxRecDepth 4000 in
theorem c_sell {d : Nat} {S : KS} {p : Nat} {x z : Int32} {M : Mem} {Q : Out → Mem → Prop} (h : CSt M S p) (hp : p < 2 ^ 30) (hG : KG (kY S)) (hq : QR9 Q M (rC S x fun i => rU S z fun b => if yRef (kY S) i b = 0 then r1 S p (yPrice (kY S) i - fRefund (yB (kY S) b 3) (yErr (kY S) i)) (trY (kY S) i b) else .inl eS)) : WPc (d + 20) mX12_sell [.ref (rf 10 0), .int x, .int z] M Q := by
  refine WPc.of (by decide +kernel) (Nat.le_of_ble_eq_true rfl) rfl ?_
  cases hx : kC (kY S) x with
  | none =>
    rw [rC_n hx] at hq
    refine R.aload_n dX12_sell_0 rfl (by first | rfl | exact rfv_rf _) ?_
    refine R.iload_n dX12_sell_1 rfl ?_
    refine cl_X12_119 rfl rfl (by first | exact Nat.le_of_ble_eq_true rfl | simp [rf_cat, Value.category]) dX12_sell_2 ?_
    refine s_kN h hx ?_
    exact hq
  | some i =>
    obtain ⟨ex, hi, hc⟩ := kC_s hx
    rw [rC_s hx] at hq
    cases hz : kU (kY S) z with
    | none =>
      rw [rU_n hz] at hq
      refine R.aload_n dX12_sell_0 rfl (by first | rfl | exact rfv_rf _) ?_
      refine R.iload_n dX12_sell_1 rfl ?_
      refine cl_X12_119 rfl rfl (by first | exact Nat.le_of_ble_eq_true rfl | simp [rf_cat, Value.category]) dX12_sell_2 ?_
      refine s_kS h hx ?_
      refine R.astore_n dX12_sell_5 (by first | rfl | exact rfv_rf _) (Nat.le_of_ble_eq_true rfl) (by decide) (by first | rfl | simp [lft, rf_cat]) rfl ?_
      refine R.aload_n dX12_sell_6 rfl (by first | rfl | exact rfv_rf _) ?_
      refine R.iload_n dX12_sell_7 rfl ?_
      refine cl_X12_130 rfl rfl (by first | exact Nat.le_of_ble_eq_true rfl | simp [rf_cat, Value.category]) dX12_sell_8 ?_
      refine s_uN h hz ?_
      exact hq
    | some b =>
      obtain ⟨ez, hb, hd⟩ := kU_s hz
      rw [rU_s hz] at hq
      refine R.aload_n dX12_sell_0 rfl (by first | rfl | exact rfv_rf _) ?_
      refine R.iload_n dX12_sell_1 rfl ?_
      refine cl_X12_119 rfl rfl (by first | exact Nat.le_of_ble_eq_true rfl | simp [rf_cat, Value.category]) dX12_sell_2 ?_
      refine s_kS h hx ?_
      refine R.astore_n dX12_sell_5 (by first | rfl | exact rfv_rf _) (Nat.le_of_ble_eq_true rfl) (by decide) (by first | rfl | simp [lft, rf_cat]) rfl ?_
      refine R.aload_n dX12_sell_6 rfl (by first | rfl | exact rfv_rf _) ?_
      refine R.iload_n dX12_sell_7 rfl ?_
      refine cl_X12_130 rfl rfl (by first | exact Nat.le_of_ble_eq_true rfl | simp [rf_cat, Value.category]) dX12_sell_8 ?_
      refine s_uS h hz ?_
      refine R.astore dX12_sell_11 (by first | rfl | exact rfv_rf _) (Nat.le_of_ble_eq_true rfl) (by decide) (by first | rfl | simp [lft, rf_cat]) rfl ?_
      refine R.aload_n dX12_sell_13 rfl (by first | rfl | exact rfv_rf _) ?_
      refine R.getS (h.l.1) dX12_sell_14 fl_X12_10 (by decide) rfl ?_
      refine R.aload_n dX12_sell_17 rfl (by first | rfl | exact rfv_rf _) ?_
      refine R.aload dX12_sell_18 rfl (by first | rfl | exact rfv_rf _) ?_
      refine cl_X12_242 rfl rfl (by first | exact Nat.le_of_ble_eq_true rfl | simp [rf_cat, Value.category]) dX12_sell_20 ?_
      refine s_yRef h.y hi hb ?_
      refine R.if_ne (tgt := 30) dX12_sell_23 (by decide) (fun c23 => ?_) (fun c23 => ?_)
      · refine R.iconst (v := 0) dX12_sell_30 rfl ?_
        refine cl_X12_206 rfl rfl (by first | exact Nat.le_of_ble_eq_true rfl | simp [rf_cat, Value.category]) dX12_sell_31 ?_
        refine s_qN ?_
        rw [if_neg c23] at hq
        exact hq
      · refine R.iconst (v := 1) dX12_sell_26 rfl ?_
        refine R.goto (tgt := 31) dX12_sell_27 (by decide) ?_
        refine cl_X12_206 rfl rfl (by first | exact Nat.le_of_ble_eq_true rfl | simp [rf_cat, Value.category]) dX12_sell_31 ?_
        refine s_qS (by decide) ?_
        refine R.aload_n dX12_sell_34 rfl (by first | rfl | exact rfv_rf _) ?_
        refine R.getS (h.l.2.2.2.1) dX12_sell_35 fl_X12_25 (by decide) rfl ?_
        refine R.aload_n dX12_sell_38 rfl (by first | rfl | exact rfv_rf _) ?_
        refine R.getS (h.l.1) dX12_sell_39 fl_X12_10 (by decide) rfl ?_
        refine cl_X12_102 rfl rfl (by first | exact Nat.le_of_ble_eq_true rfl | simp [rf_cat, Value.category]) dX12_sell_42 ?_
        refine s_hRem h.h hp h.y (by decide) hG.g (fun MR hR FR => ?_)
        have hr := h.hi hR FR
        have KR := FrK.of FR nKH
        refine R.aload_n dX12_sell_45 rfl (by first | rfl | exact rfv_rf _) ?_
        refine R.getS (hr.l.1) dX12_sell_46 fl_X12_10 (by decide) rfl ?_
        refine R.aload_n dX12_sell_49 rfl (by first | rfl | exact rfv_rf _) ?_
        refine R.aload dX12_sell_50 rfl (by first | rfl | exact rfv_rf _) ?_
        refine cl_X12_329 rfl rfl (by first | exact Nat.le_of_ble_eq_true rfl | simp [rf_cat, Value.category]) dX12_sell_52 ?_
        refine s_yTrade hr.y hi hb hG.a (fun MY hY FY => ?_)
        have hE := hr.yd hY FY
        have KE := KR.tr1 FY nKY
        refine WP.ret (ov := some (.int _)) dX12_sell_55 ⟨rfl, _, rfl, by first | rfl | assumption | exact nar_b01 (by assumption)⟩ ?_
        rw [if_pos c23] at hq
        exact hq _ hE KE
set_option maxHeartbeats 1000000 in
set_option maxRecDepth 4000 in
theorem c_setAmplitude {d : Nat} {S : KS} {p : Nat} {x : Int32} {M : Mem} {Q : Out → Mem → Prop} (h : CSt M S p) (hp : p < 2 ^ 30) (hG : KG (kY S)) (hq : QR9 Q M (if 0 ≤ x ∧ x ≤ 50 then r1 S p (yS (kY S) 1) (uS (kY S) 1 x) else .inl eA)) : WPc (d + 20) mX12_setAmplitude [.ref (rf 10 0), .int x] M Q := by
  refine WPc.of (by decide +kernel) (Nat.le_of_ble_eq_true rfl) rfl ?_
  refine R.iload_n dX12_setAmplitude_0 rfl ?_
  refine R.iconst (v := 0) dX12_setAmplitude_1 rfl ?_
  refine R.bipush (v := 50) dX12_setAmplitude_2 (by decide) ?_
  by_cases zr : 0 ≤ x ∧ x ≤ 50
  rotate_left
  · skip
    refine cl_X12_218 rfl rfl (by first | exact Nat.le_of_ble_eq_true rfl | simp [rf_cat, Value.category]) dX12_setAmplitude_4 ?_
    refine s_rN zr ?_
    rw [if_neg zr] at hq
    exact hq
  refine cl_X12_218 rfl rfl (by first | exact Nat.le_of_ble_eq_true rfl | simp [rf_cat, Value.category]) dX12_setAmplitude_4 ?_
  refine s_rS zr ?_
  rw [if_pos zr] at hq
  refine R.aload_n dX12_setAmplitude_7 rfl (by first | rfl | exact rfv_rf _) ?_
  refine R.getS (h.l.1) dX12_setAmplitude_8 fl_X12_10 (by decide) rfl ?_
  refine R.getS (lay2 h.y.lay) dX12_setAmplitude_11 fl_X12_185 (by decide) rfl ?_
  refine R.getI dX12_setAmplitude_14 fl_X12_194 (by decide) rfl ?_
  rw [h.y.rS]
  refine R.istore_n dX12_setAmplitude_17 (Nat.le_of_ble_eq_true rfl) (by decide) (by first | rfl | simp [lft, rf_cat]) rfl ?_
  refine R.aload_n dX12_setAmplitude_18 rfl (by first | rfl | exact rfv_rf _) ?_
  refine R.getS (h.l.2.2.2.1) dX12_setAmplitude_19 fl_X12_25 (by decide) rfl ?_
  refine R.aload_n dX12_setAmplitude_22 rfl (by first | rfl | exact rfv_rf _) ?_
  refine R.getS (h.l.1) dX12_setAmplitude_23 fl_X12_10 (by decide) rfl ?_
  refine cl_X12_102 rfl rfl (by first | exact Nat.le_of_ble_eq_true rfl | simp [rf_cat, Value.category]) dX12_setAmplitude_26 ?_
  refine s_hRem h.h hp h.y (by decide) hG.g (fun MR hR FR => ?_)
  have hr := h.hi hR FR
  have KR := FrK.of FR nKH
  refine R.aload_n dX12_setAmplitude_29 rfl (by first | rfl | exact rfv_rf _) ?_
  refine R.getS (hr.l.1) dX12_setAmplitude_30 fl_X12_10 (by decide) rfl ?_
  refine R.getS (lay2 hr.y.lay) dX12_setAmplitude_33 fl_X12_185 (by decide) rfl ?_
  refine R.iload_n dX12_setAmplitude_36 rfl ?_
  refine R.putI dX12_setAmplitude_37 fl_X12_194 (fun q hq => by cases hq; exact Or.inl rfl) (by decide) rfl rfl rfl ?_
  refine R.iload_n dX12_setAmplitude_40 rfl ?_
  refine WP.ret (ov := some (.int _)) dX12_setAmplitude_41 ⟨rfl, _, rfl, by first | rfl | assumption | exact nar_b01 (by assumption)⟩ ?_
  have hY := Yv.tS hr.y (f := 1) (v := x) (v' := x) (by decide) (fun _ => rfl)
  have FY : Fr (inY 0) MR (sI MR 3 0 1 x) := Fr.sI (Fr.rf _ _) inY_S
  have hE := hr.yd hY FY
  have KE := KR.tr1 FY nKY
  exact hq _ hE KE
def rUnd (S : KS) (p : Nat) : Rr := match kH S with
  | [] => .inl eN
  | Z :: L => .inr (nI L.length, kSh (kSy S Z) L, p - 1)