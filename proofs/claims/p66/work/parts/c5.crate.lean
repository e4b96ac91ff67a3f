/-! the law's crate: gross weight, height, depth, what it holds -/
def grF (W : LW) : Nat → Nat → Int32
  | 0, k => wI W k 1 + wI W k 2
  | f + 1, k => (wC W k).foldl (fun a c => a + grF W f c) (wI W k 1 + wI W k 2)
/-- how many walks that takes -/
def nsF (W : LW) : Nat → Nat → Nat
  | 0, _ => 1
  | f + 1, k => (wC W k).foldl (fun a c => a + nsF W f c) 1
def hgK (W : LW) : Nat → Nat → Prop
  | 0, k => wC W k = []
  | f + 1, k => ∀ c, c ∈ wC W k → hgK W f c
def heF (W : LW) : Nat → Nat → Nat
  | 0, _ => 0
  | f + 1, k => (wC W k).foldl (fun a c => if a < heF W f c + 1 then heF W f c + 1 else a) 0
def nhF (W : LW) : Nat → Nat → Nat
  | 0, _ => 1
  | f + 1, k => (wC W k).foldl (fun a c => a + 2 * nhF W f c) 1
def hoF (W : LW) (t : Nat) : Nat → Nat → Bool
  | 0, k => decide (t = k)
  | f + 1, k => decide (t = k) || (wC W k).any (fun c => hoF W t f c)
theorem fold_le {g : Nat → Nat} : ∀ (ys : List Nat) (b : Nat), b ≤ ys.foldl (fun a c => a + g c) b := by
  intro ys
  induction ys with
  | nil => intro b; exact Nat.le_refl _
  | cons c ys ih => intro b; exact Nat.le_trans (Nat.le_add_right _ _) (ih (b + g c))
theorem drop_c {α : Type} {l : List α} {c0 : Nat} {c : α} {ys : List α} (h : l.drop c0 = c :: ys) : l[c0]? = some c ∧ l.drop (c0 + 1) = ys ∧ c ∈ l ∧ c0 < l.length := by
  have h1 : (l.drop c0)[0]? = some c := by rw [h]; rfl
  rw [List.getElem?_drop, Nat.add_zero] at h1
  have h2 : (l.drop c0).drop 1 = ys := by rw [h]; rfl
  rw [List.drop_drop] at h2
  exact ⟨h1, h2, List.mem_of_getElem? h1, (List.getElem?_eq_some_iff.mp h1).1⟩
theorem drop_n {α : Type} {l : List α} {c0 : Nat} (h : l.drop c0 = []) (hle : c0 ≤ l.length) : c0 = l.length := by
  have := List.drop_eq_nil_iff.mp h
  omega
theorem map_at {l : List Nat} {c0 c : Nat} {g : Nat → Nat} (h : l[c0]? = some c) : (l.map g)[c0]? = some (g c) := by rw [List.getElem?_map, h]; rfl
set_option maxHeartbeats 1000000 in
set_option maxRecDepth 8000 in
theorem gr_loop {W : LW} {f k t d : Nat} (hch : ∀ c, c ∈ wC W k → ∀ {M : Mem} {Q : Out → Mem → Prop}, LM M W → (∀ M', LM M' W → Fx Sz (nsF W f c) (4 * nsF W f c) M M' → Q (.inl (some (.int (grF W f c)))) M') → WPc d mX13_gross [.ref (rf 11 c)] M Q) (hk : k < wN W) (hd3 : ∃ d', d = d' + 3) : ∀ (ys : List Nat) (c0 : Nat) (a : Int32) (b : Nat) (v : Value) (M0 M1 : Mem) {Q : Out → Mem → Prop}, (wC W k).drop c0 = ys → c0 ≤ (wC W k).length → LM M1 W → It M1 t (1 + 2 * k) c0 → mC M0 34 ≤ t → Fx Sz b (4 * b) M0 M1 → (∀ M', LM M' W → Fx Sz (ys.foldl (fun a c => a + nsF W f c) b) (4 * ys.foldl (fun a c => a + nsF W f c) b) M0 M' → Q (.inl (some (.int (ys.foldl (fun a c => a + grF W f c) a)))) M') → WP mX13_gross (d + 1) 20 [.ref (rf 11 k), .int a, .ref (rf 34 t), v] [] M1 Q := by
  obtain ⟨d', rfl⟩ := hd3
  intro ys
  induction ys with
  | nil =>
    intro c0 a b v M0 M1 Q hd hc0 hW hI ht hF hq
    have hL := (hW.c hk).ch
    have e9 := drop_n hd hc0
    refine R.aload_n dX13_gross_20 rfl (by first | rfl | exact rfv_rf _) ?_
    refine ic_X13_35 rfl (by first | exact Nat.le_of_ble_eq_true rfl | simp [rf_cat, Value.category]) dX13_gross_21 ?_
    refine s_itHas hI hL (by rw [List.length_map]; omega) ?_
    rw [if_pos (by rw [List.length_map]; omega)]
    refine ⟨_, rfl, ?_⟩
    refine R.if_eq (tgt := 49) dX13_gross_26 (by decide) (fun _ => ?_) (fun z => absurd rfl z)
    refine R.iload_n dX13_gross_49 rfl ?_
    refine WP.ret (ov := some (.int _)) dX13_gross_50 ⟨rfl, _, rfl, rfl⟩ ?_
    exact hq _ hW hF
  | cons c ys ih =>
    intro c0 a b v M0 M1 Q hd hc0 hW hI ht hF hq
    have hL := (hW.c hk).ch
    obtain ⟨h1, h2, h3, h4⟩ := drop_c hd
    have hx := map_at (g := rf 11) h1
    refine R.aload_n dX13_gross_20 rfl (by first | rfl | exact rfv_rf _) ?_
    refine ic_X13_35 rfl (by first | exact Nat.le_of_ble_eq_true rfl | simp [rf_cat, Value.category]) dX13_gross_21 ?_
    refine s_itHas hI hL (by rw [List.length_map]; omega) ?_
    rw [if_neg (by rw [List.length_map]; omega)]
    refine ⟨_, rfl, ?_⟩
    refine R.if_eq (tgt := 49) dX13_gross_26 (by decide) (fun z => absurd z (by decide)) (fun _ => ?_)
    refine R.aload_n dX13_gross_29 rfl (by first | rfl | exact rfv_rf _) ?_
    refine ic_X13_41 rfl (by first | exact Nat.le_of_ble_eq_true rfl | simp [rf_cat, Value.category]) dX13_gross_30 ?_
    refine s_itNext hI hL hx (fun M2 hI2 F2 hC2 => ?_)
    refine ⟨_, rfl, ?_⟩
    refine R.cast (k0 := 11) rfl (rcv_own (k := 11) rfl) cw_X13_11 dX13_gross_35 ?_
    refine R.astore_n dX13_gross_38 rfl (Nat.le_of_ble_eq_true rfl) (by decide) rfl rfl ?_
    refine R.iload_n dX13_gross_39 rfl ?_
    refine R.aload_n dX13_gross_40 rfl rfl ?_
    refine cl_X13_45 rfl rfl (by first | exact Nat.le_of_ble_eq_true rfl | simp [rf_cat, Value.category]) dX13_gross_41 ?_
    refine hch c h3 (hW.fy F2 (fun k j z => z.1)) (fun M3 hW3 F3 => ?_)
    refine R.iadd dX13_gross_44 ?_
    refine R.istore_n dX13_gross_45 (Nat.le_of_ble_eq_true rfl) (by decide) rfl rfl ?_
    refine R.goto (tgt := 20) dX13_gross_46 (by decide) ?_
    refine ih (c0 + 1) _ (b + nsF W f c) _ M0 M3 h2 (by omega) hW3 (hI2.fx F3 (fun z => z) (fun z => z)) ht (((hF.tr F2 (fun k j z => Or.inr ⟨by unfold inG; omega, by rw [z.1]; omega⟩)).tr F3 (fun _ _ z => z.elim)).le (by omega) (by omega)) hq
set_option maxHeartbeats 1000000 in
set_option maxRecDepth 8000 in
theorem gr_one {W : LW} {f k d : Nat} (hch : ∀ c, c ∈ wC W k → ∀ {M : Mem} {Q : Out → Mem → Prop}, LM M W → (∀ M', LM M' W → Fx Sz (nsF W f c) (4 * nsF W f c) M M' → Q (.inl (some (.int (grF W f c)))) M') → WPc d mX13_gross [.ref (rf 11 c)] M Q) (hk : k < wN W) {M : Mem} {Q : Out → Mem → Prop} (hW : LM M W) (hq : ∀ M', LM M' W → Fx Sz ((wC W k).foldl (fun a c => a + nsF W f c) 1) (4 * (wC W k).foldl (fun a c => a + nsF W f c) 1) M M' → Q (.inl (some (.int ((wC W k).foldl (fun a c => a + grF W f c) (wI W k 1 + wI W k 2))))) M') (hd3 : ∃ d', d = d' + 3) : WPc (d + 1) mX13_gross [.ref (rf 11 k)] M Q := by
  refine WPc.of (by decide +kernel) (Nat.le_of_ble_eq_true rfl) rfl ?_
  obtain ⟨d', rfl⟩ := hd3
  have c := hW.c hk
  refine R.aload_n dX13_gross_0 rfl (by first | rfl | exact rfv_rf _) ?_
  refine R.getI dX13_gross_1 fl_X13_23 (by decide) rfl ?_
  rw [c.i]
  refine R.aload_n dX13_gross_4 rfl (by first | rfl | exact rfv_rf _) ?_
  refine R.getI dX13_gross_5 fl_X13_26 (by decide) rfl ?_
  rw [c.i]
  refine R.iadd dX13_gross_8 ?_
  refine R.istore_n dX13_gross_9 (Nat.le_of_ble_eq_true rfl) (by decide) (by first | rfl | simp [lft, rf_cat]) rfl ?_
  refine R.aload_n dX13_gross_10 rfl (by first | rfl | exact rfv_rf _) ?_
  refine R.getS (c.r7) dX13_gross_11 fl_X13_10 (by decide) rfl ?_
  refine ic_X13_29 rfl (by first | exact Nat.le_of_ble_eq_true rfl | simp [rf_cat, Value.category]) dX13_gross_14 ?_
  refine s_alIter c.ch (fun M1 t ht hI F1 hC => ?_)
  refine ⟨_, rfl, ?_⟩
  refine R.astore_n dX13_gross_19 (by first | rfl | exact rfv_rf _) (Nat.le_of_ble_eq_true rfl) (by decide) (by first | rfl | simp [lft, rf_cat]) rfl ?_
  exact gr_loop hch hk ⟨_, rfl⟩ (wC W k) 0 _ 1 _ M M1 (List.drop_zero) (Nat.zero_le _) (hW.fx F1) hI (by omega) F1 hq
theorem s_gross {W : LW} : ∀ (f k d : Nat) {M : Mem} {Q : Out → Mem → Prop}, k < wN W → hgK W f k → LM M W → (∀ M', LM M' W → Fx Sz (nsF W f k) (4 * nsF W f k) M M' → Q (.inl (some (.int (grF W f k)))) M') → WPc (d + f + 4) mX13_gross [.ref (rf 11 k)] M Q := by
  intro f
  induction f with
  | zero =>
    intro k d M Q hk hh hW hq
    have e : wC W k = [] := hh
    refine gr_one (f := 0) (d := d + 3) (fun c hc => ?_) hk hW (fun M' h1 h2 => ?_) ⟨_, rfl⟩
    · rw [e] at hc; cases hc
    · rw [e] at h2 ⊢
      exact hq M' h1 h2
  | succ f ih =>
    intro k d M Q hk hh hW hq
    exact gr_one (f := f) (d := d + f + 4) (fun c hc => fun hW2 hq2 => ih c d ((hW.c hk).cn c hc) (hh c hc) hW2 hq2) hk hW hq ⟨d + f + 1, rfl⟩
set_option maxHeartbeats 1000000 in
set_option maxRecDepth 8000 in
theorem he_loop {W : LW} {f k t d : Nat} (hch : ∀ c, c ∈ wC W k → ∀ {M : Mem} {Q : Out → Mem → Prop}, LM M W → (∀ M', LM M' W → Fx Sz (nhF W f c) (4 * nhF W f c) M M' → Q (.inl (some (.int (nI (heF W f c))))) M') → WPc d mX13_height [.ref (rf 11 c)] M Q) (hk : k < wN W) (hd3 : ∃ d', d = d' + 3) (hb : ∀ c, heF W f c ≤ f) (hf : f ≤ 100) : ∀ (ys : List Nat) (c0 a b : Nat) (v : Value) (M0 M1 : Mem) {Q : Out → Mem → Prop}, a ≤ 101 → (wC W k).drop c0 = ys → c0 ≤ (wC W k).length → LM M1 W → It M1 t (1 + 2 * k) c0 → mC M0 34 ≤ t → Fx Sz b (4 * b) M0 M1 → (∀ M', LM M' W → Fx Sz (ys.foldl (fun a c => a + 2 * nhF W f c) b) (4 * ys.foldl (fun a c => a + 2 * nhF W f c) b) M0 M' → Q (.inl (some (.int (nI (ys.foldl (fun a c => if a < heF W f c + 1 then heF W f c + 1 else a) a))))) M') → WP mX13_height (d + 1) 12 [.ref (rf 11 k), .int (nI a), .ref (rf 34 t), v] [] M1 Q := by
  obtain ⟨d', rfl⟩ := hd3
  intro ys
  induction ys with
  | nil =>
    intro c0 a b v M0 M1 Q ha hd hc0 hW hI ht hF hq
    have hL := (hW.c hk).ch
    have e9 := drop_n hd hc0
    refine R.aload_n dX13_height_12 rfl (by first | rfl | exact rfv_rf _) ?_
    refine ic_X13_35 rfl (by first | exact Nat.le_of_ble_eq_true rfl | simp [rf_cat, Value.category]) dX13_height_13 ?_
    refine s_itHas hI hL (by rw [List.length_map]; omega) ?_
    rw [if_pos (by rw [List.length_map]; omega)]
    refine ⟨_, rfl, ?_⟩
    refine R.if_eq (tgt := 51) dX13_height_18 (by decide) (fun _ => ?_) (fun z => absurd rfl z)
    refine R.iload_n dX13_height_51 rfl ?_
    refine WP.ret (ov := some (.int _)) dX13_height_52 ⟨rfl, _, rfl, rfl⟩ ?_
    exact hq _ hW hF
  | cons c ys ih =>
    intro c0 a b v M0 M1 Q ha hd hc0 hW hI ht hF hq
    have hL := (hW.c hk).ch
    have hbc := hb c
    obtain ⟨h1, h2, h3, h4⟩ := drop_c hd
    have hx := map_at (g := rf 11) h1
    refine R.aload_n dX13_height_12 rfl (by first | rfl | exact rfv_rf _) ?_
    refine ic_X13_35 rfl (by first | exact Nat.le_of_ble_eq_true rfl | simp [rf_cat, Value.category]) dX13_height_13 ?_
    refine s_itHas hI hL (by rw [List.length_map]; omega) ?_
    rw [if_neg (by rw [List.length_map]; omega)]
    refine ⟨_, rfl, ?_⟩
    refine R.if_eq (tgt := 51) dX13_height_18 (by decide) (fun z => absurd z (by decide)) (fun _ => ?_)
    refine R.aload_n dX13_height_21 rfl (by first | rfl | exact rfv_rf _) ?_
    refine ic_X13_41 rfl (by first | exact Nat.le_of_ble_eq_true rfl | simp [rf_cat, Value.category]) dX13_height_22 ?_
    refine s_itNext hI hL hx (fun M2 hI2 F2 hC2 => ?_)
    refine ⟨_, rfl, ?_⟩
    refine R.cast (k0 := 11) rfl (rcv_own (k := 11) rfl) cw_X13_11 dX13_height_27 ?_
    refine R.astore_n dX13_height_30 rfl (Nat.le_of_ble_eq_true rfl) (by decide) rfl rfl ?_
    refine R.aload_n dX13_height_31 rfl rfl ?_
    refine cl_X13_56 rfl rfl (by first | exact Nat.le_of_ble_eq_true rfl | simp [rf_cat, Value.category]) dX13_height_32 ?_
    refine hch c h3 (hW.fy F2 (fun k j z => z.1)) (fun M3 hW3 F3 => ?_)
    refine R.iconst (v := 1) dX13_height_35 rfl ?_
    refine R.iadd dX13_height_36 ?_
    rw [show nI (heF W f c) + 1 = nI (heF W f c + 1) from inc_nI _]
    refine R.iload_n dX13_height_37 rfl ?_
    have G3 := ((hF.tr F2 (fun k j z => Or.inr ⟨by unfold inG; omega, by rw [z.1]; omega⟩)).tr F3 (fun _ _ z => z.elim))
    by_cases hlt : a < heF W f c + 1
    · refine R.icmp_le (tgt := 48) dX13_height_38 (by decide) (fun z => absurd (nI_lt hlt (by omega)) (Int32.not_lt.mpr z)) (fun _ => ?_)
      refine R.aload_n dX13_height_41 rfl rfl ?_
      refine cl_X13_56 rfl rfl (by first | exact Nat.le_of_ble_eq_true rfl | simp [rf_cat, Value.category]) dX13_height_42 ?_
      refine hch c h3 hW3 (fun M4 hW4 F4 => ?_)
      refine R.iconst (v := 1) dX13_height_45 rfl ?_
      refine R.iadd dX13_height_46 ?_
      rw [show nI (heF W f c) + 1 = nI (heF W f c + 1) from inc_nI _]
      refine R.istore_n dX13_height_47 (Nat.le_of_ble_eq_true rfl) (by decide) rfl rfl ?_
      refine R.goto (tgt := 12) dX13_height_48 (by decide) ?_
      refine ih (c0 + 1) _ (b + 2 * nhF W f c) _ M0 M4 (by omega) h2 (by omega) hW4 ((hI2.fx F3 (fun z => z) (fun z => z)).fx F4 (fun z => z) (fun z => z)) ht ((G3.tr F4 (fun _ _ z => z.elim)).le (by omega) (by omega)) (fun M' hM' hF' => ?_)
      have := hq M' hM' hF'
      rw [List.foldl_cons, if_pos hlt] at this
      exact this
    · refine R.icmp_le (tgt := 48) dX13_height_38 (by decide) (fun _ => ?_) (fun z => absurd (nI_le (by omega) (by omega)) z)
      refine R.goto (tgt := 12) dX13_height_48 (by decide) ?_
      refine ih (c0 + 1) _ (b + 2 * nhF W f c) _ M0 M3 ha h2 (by omega) hW3 (hI2.fx F3 (fun z => z) (fun z => z)) ht (G3.le (by omega) (by omega)) (fun M' hM' hF' => ?_)
      have := hq M' hM' hF'
      rw [List.foldl_cons, if_neg hlt] at this
      exact this
theorem he_fold {W : LW} {f : Nat} (h : ∀ c, heF W f c ≤ f) : ∀ (ys : List Nat) (a : Nat), a ≤ f + 1 → ys.foldl (fun a c => if a < heF W f c + 1 then heF W f c + 1 else a) a ≤ f + 1 := by
  intro ys
  induction ys with
  | nil => intro a ha; exact ha
  | cons c ys ih =>
    intro a ha
    refine ih _ ?_
    have := h c
    show (if a < heF W f c + 1 then heF W f c + 1 else a) ≤ f + 1
    split <;> omega
theorem heF_le (W : LW) : ∀ f k, heF W f k ≤ f := by
  intro f
  induction f with
  | zero => intro k; exact Nat.le_refl _
  | succ f ih => intro k; exact he_fold ih _ 0 (by omega)
set_option maxHeartbeats 1000000 in
set_option maxRecDepth 8000 in
theorem he_one {W : LW} {f k d : Nat} (hch : ∀ c, c ∈ wC W k → ∀ {M : Mem} {Q : Out → Mem → Prop}, LM M W → (∀ M', LM M' W → Fx Sz (nhF W f c) (4 * nhF W f c) M M' → Q (.inl (some (.int (nI (heF W f c))))) M') → WPc d mX13_height [.ref (rf 11 c)] M Q) (hk : k < wN W) (hf : f ≤ 100) {M : Mem} {Q : Out → Mem → Prop} (hW : LM M W) (hq : ∀ M', LM M' W → Fx Sz ((wC W k).foldl (fun a c => a + 2 * nhF W f c) 1) (4 * (wC W k).foldl (fun a c => a + 2 * nhF W f c) 1) M M' → Q (.inl (some (.int (nI ((wC W k).foldl (fun a c => if a < heF W f c + 1 then heF W f c + 1 else a) 0))))) M') (hd3 : ∃ d', d = d' + 3) : WPc (d + 1) mX13_height [.ref (rf 11 k)] M Q := by
  refine WPc.of (by decide +kernel) (Nat.le_of_ble_eq_true rfl) rfl ?_
  obtain ⟨d', rfl⟩ := hd3
  have c := hW.c hk
  refine R.iconst (v := nI 0) dX13_height_0 rfl ?_
  refine R.istore_n dX13_height_1 (Nat.le_of_ble_eq_true rfl) (by decide) (by first | rfl | simp [lft, rf_cat]) rfl ?_
  refine R.aload_n dX13_height_2 rfl (by first | rfl | exact rfv_rf _) ?_
  refine R.getS (c.r7) dX13_height_3 fl_X13_10 (by decide) rfl ?_
  refine ic_X13_29 rfl (by first | exact Nat.le_of_ble_eq_true rfl | simp [rf_cat, Value.category]) dX13_height_6 ?_
  refine s_alIter c.ch (fun M1 t ht hI F1 hC => ?_)
  refine ⟨_, rfl, ?_⟩
  refine R.astore_n dX13_height_11 (by first | rfl | exact rfv_rf _) (Nat.le_of_ble_eq_true rfl) (by decide) (by first | rfl | simp [lft, rf_cat]) rfl ?_
  exact he_loop hch hk ⟨_, rfl⟩ (heF_le W f) hf (wC W k) 0 0 1 _ M M1 (by omega) (List.drop_zero) (Nat.zero_le _) (hW.fx F1) hI (by omega) F1 hq
theorem s_height {W : LW} : ∀ (f k d : Nat) {M : Mem} {Q : Out → Mem → Prop}, f ≤ 100 → k < wN W → hgK W f k → LM M W → (∀ M', LM M' W → Fx Sz (nhF W f k) (4 * nhF W f k) M M' → Q (.inl (some (.int (nI (heF W f k))))) M') → WPc (d + f + 4) mX13_height [.ref (rf 11 k)] M Q := by
  intro f
  induction f with
  | zero =>
    intro k d M Q hf hk hh hW hq
    have e : wC W k = [] := hh
    refine he_one (f := 0) (d := d + 3) (fun c hc => ?_) hk (by omega) hW (fun M' h1 h2 => ?_) ⟨_, rfl⟩
    · rw [e] at hc; cases hc
    · rw [e] at h2 ⊢
      exact hq M' h1 h2
  | succ f ih =>
    intro k d M Q hf hk hh hW hq
    exact he_one (f := f) (d := d + f + 4) (fun c hc => fun hW2 hq2 => ih c d (by omega) ((hW.c hk).cn c hc) (hh c hc) hW2 hq2) hk (by omega) hW hq ⟨d + f + 1, rfl⟩
