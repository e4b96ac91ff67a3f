/-! the law's mean, weighings, elements dropped, bits of a cell -/
theorem IvA.rcv {M : Mem} {a : Nat} {v : Int32} (h : IvA M a v) (M2 : Mem) : RcvOk M2 "java/lang/Integer" a := by
  rcases h with ⟨j, h1, rfl, -⟩ | ⟨j, -, rfl, -⟩
  · exact rcv_int h1
  · exact rcv_own (k := 35) rfl
theorem i_m1 (x : Int32) : x + Int32.ofInt (-1) = x - 1 := by
  rw [show Int32.ofInt (-1) = -1 by decide, ← Int32.sub_eq_add_neg]
theorem map_erIdx {α β : Type} (f : α → β) : ∀ (l : List α) (p : Nat), (l.eraseIdx p).map f = (l.map f).eraseIdx p
  | [], _ => rfl
  | _ :: _, 0 => rfl
  | a :: l, p + 1 => by
    show f a :: (l.eraseIdx p).map f = f a :: (l.map f).eraseIdx p
    rw [map_erIdx f l p]
/-- the sum of some readings, as the law adds them -/
def smR (l : List (Nat × Int32)) (a : Int32) : Int32 := l.foldl (fun a q => a + q.2) a
/-- their mean, as the law rounds -/
def loL (s n : Int32) : Int32 := if s < s / n * n then s / n - 1 else s / n
def mnL (s n : Int32) : Int32 := if n ≤ 2 * (s - loL s n * n) then loL s n + 1 else loL s n
def mnOk (s n : Int32) : Prop := s < s / n * n → (s / n - 1) * n ≤ s
theorem cv_X13_65 {a : Nat} {m : MRec} {d pc : Nat} {ls st : List Value} {M : Mem} {Q : Out → Mem → Prop} (hrc : RcvOk M "java/lang/Integer" a) (hm : m.1.cls = RX13) (hh : m.2.2.2.2 = []) (hr : (st.map fun v => v.category).sum ≤ 8) (hd : decode m.2.1 pc = .ok (.invokevirtual 65, 3)) (k : WPc d mJ6_intValue_8abf5 [.ref a] M (fun o M1 => match o with | .inl r => WP m (d + 1) (pc + 3) ls (r.toList ++ st) M1 Q | .inr E => Q (.inr E) M1)) : WP m (d + 1) pc ls (.ref a :: st) M Q :=
  WP.callG (CallK.V (args := []) (rest := st) kJ6_intValue_8abf5 (by rw [hm]; exact gt_i 1164 (by decide +kernel) rfl) inJ6_intValue_8abf5 seJ6_intValue_8abf5 hrc rfl hr hd) hh (hokV [] st _) k
theorem cv_L_178 {a : Nat} {m : MRec} {d pc : Nat} {ls st : List Value} {M : Mem} {Q : Out → Mem → Prop} (hrc : RcvOk M "java/lang/Integer" a) (hm : m.1.cls = RL) (hh : m.2.2.2.2 = []) (hr : (st.map fun v => v.category).sum ≤ 8) (hd : decode m.2.1 pc = .ok (.invokevirtual 178, 3)) (k : WPc d mJ6_intValue_8abf5 [.ref a] M (fun o M1 => match o with | .inl r => WP m (d + 1) (pc + 3) ls (r.toList ++ st) M1 Q | .inr E => Q (.inr E) M1)) : WP m (d + 1) pc ls (.ref a :: st) M Q :=
  WP.callG (CallK.V (args := []) (rest := st) kJ6_intValue_8abf5 (by rw [hm]; exact gt_i 1175 (by decide +kernel) rfl) inJ6_intValue_8abf5 seJ6_intValue_8abf5 hrc rfl hr hd) hh (hokV [] st _) k
set_option maxHeartbeats 1000000 in
set_option maxRecDepth 8000 in
theorem me_loop {W : LW} {k t d : Nat} (hk : k < wN W) {M0 : Mem} {Q : Out → Mem → Prop} (hend : ∀ M' v2 v3, LM M' W → Fx Sz 1 4 M0 M' → WP mX13_mean (d + 4) 41 [.ref (rf 11 k), .int (smR (wR W k) 0), v2, v3] [] M' Q) : ∀ (ys : List (Nat × Int32)) (c0 : Nat) (a : Int32) (v : Value) (M1 : Mem), (wR W k).drop c0 = ys → c0 ≤ (wR W k).length → smR ys a = smR (wR W k) 0 → LM M1 W → It M1 t (2 + 2 * k) c0 → mC M0 34 ≤ t → Fx Sz 1 4 M0 M1 → WP mX13_mean (d + 4) 12 [.ref (rf 11 k), .int a, .ref (rf 34 t), v] [] M1 Q := by
  intro ys
  induction ys with
  | nil =>
    intro c0 a v M1 hd hc0 hs hW hI ht hF
    have hL := (hW.c hk).rd
    have e9 := drop_n hd hc0
    have e8 : a = smR (wR W k) 0 := hs
    refine R.aload_n dX13_mean_12 rfl (by first | rfl | exact rfv_rf _) ?_
    refine ic_X13_35 rfl (by first | exact Nat.le_of_ble_eq_true rfl | simp [rf_cat, Value.category]) dX13_mean_13 ?_
    refine s_itHas hI hL (by rw [List.length_map]; omega) ?_
    rw [if_pos (by rw [List.length_map]; omega)]
    refine ⟨_, rfl, ?_⟩
    refine R.if_eq (tgt := 41) dX13_mean_18 (by decide) (fun _ => ?_) (fun z => absurd rfl z)
    rw [e8]
    exact hend M1 _ _ hW hF
  | cons c ys ih =>
    intro c0 a v M1 hd hc0 hs hW hI ht hF
    have hL := (hW.c hk).rd
    obtain ⟨h1, h2, h3, h4⟩ := drop_c hd
    have hx : ((wR W k).map Prod.fst)[c0]? = some c.1 := by rw [List.getElem?_map, h1]; rfl
    have hiv := (hW.c hk).iv c h3
    refine R.aload_n dX13_mean_12 rfl (by first | rfl | exact rfv_rf _) ?_
    refine ic_X13_35 rfl (by first | exact Nat.le_of_ble_eq_true rfl | simp [rf_cat, Value.category]) dX13_mean_13 ?_
    refine s_itHas hI hL (by rw [List.length_map]; omega) ?_
    rw [if_neg (by rw [List.length_map]; omega)]
    refine ⟨_, rfl, ?_⟩
    refine R.if_eq (tgt := 41) dX13_mean_18 (by decide) (fun z => absurd z (by decide)) (fun _ => ?_)
    refine R.aload_n dX13_mean_21 rfl (by first | rfl | exact rfv_rf _) ?_
    refine ic_X13_41 rfl (by first | exact Nat.le_of_ble_eq_true rfl | simp [rf_cat, Value.category]) dX13_mean_22 ?_
    refine s_itNext hI hL hx (fun M2 hI2 F2 hC2 => ?_)
    refine ⟨_, rfl, ?_⟩
    refine R.cast (k0 := 35) rfl (hiv.rcv _) cw_X13_63 dX13_mean_27 ?_
    refine cv_X13_65 (hiv.rcv _) rfl rfl (by first | exact Nat.le_of_ble_eq_true rfl | simp [rf_cat, Value.category]) dX13_mean_30 ?_
    refine s_intV (hiv.fx F2 (fun j z => by omega)) ?_
    refine R.istore_n dX13_mean_33 (Nat.le_of_ble_eq_true rfl) (by decide) rfl rfl ?_
    refine R.iload_n dX13_mean_34 rfl ?_
    refine R.iload_n dX13_mean_35 rfl ?_
    refine R.iadd dX13_mean_36 ?_
    refine R.istore_n dX13_mean_37 (Nat.le_of_ble_eq_true rfl) (by decide) rfl rfl ?_
    refine R.goto (tgt := 12) dX13_mean_38 (by decide) ?_
    exact ih (c0 + 1) _ _ M2 h2 (by omega) hs (hW.fy F2 (fun k j z => z.1)) hI2 ht ((hF.tr F2 (fun k j z => Or.inr ⟨by unfold inG; omega, by rw [z.1]; omega⟩)).le (by omega) (by omega))
set_option maxHeartbeats 1000000 in
set_option maxRecDepth 8000 in
theorem s_lmean {W : LW} {k d : Nat} {M : Mem} {Q : Out → Mem → Prop} (hk : k < wN W) (hne : wR W k ≠ []) (hok : mnOk (smR (wR W k) 0) (nI (wR W k).length)) (hW : LM M W) (hq : ∀ M', LM M' W → Fx Sz 1 4 M M' → Q (.inl (some (.int (mnL (smR (wR W k) 0) (nI (wR W k).length))))) M') : WPc (d + 4) mX13_mean [.ref (rf 11 k)] M Q := by
  refine WPc.of (by decide +kernel) (Nat.le_of_ble_eq_true rfl) rfl ?_
  have c := hW.c hk
  refine R.iconst (v := 0) dX13_mean_0 rfl ?_
  refine R.istore_n dX13_mean_1 (Nat.le_of_ble_eq_true rfl) (by decide) (by first | rfl | simp [lft, rf_cat]) rfl ?_
  refine R.aload_n dX13_mean_2 rfl (by first | rfl | exact rfv_rf _) ?_
  refine R.getS (c.r8) dX13_mean_3 fl_X13_16 (by decide) rfl ?_
  refine ic_X13_29 rfl (by first | exact Nat.le_of_ble_eq_true rfl | simp [rf_cat, Value.category]) dX13_mean_6 ?_
  refine s_alIter c.rd (fun M1 t ht hI F1 hC => ?_)
  refine ⟨_, rfl, ?_⟩
  refine R.astore_n dX13_mean_11 (by first | rfl | exact rfv_rf _) (Nat.le_of_ble_eq_true rfl) (by decide) (by first | rfl | simp [lft, rf_cat]) rfl ?_
  refine me_loop hk (M0 := M) (fun M3 v2 v3 hW3 F3 => ?_) (wR W k) 0 0 _ M1 (List.drop_zero) (Nat.zero_le _) rfl (hW.fx F1) hI (by omega) F1
  have c3 := hW3.c hk
  have hn : ¬ nI (wR W k).length = 0 := fun z => hne (List.length_eq_zero_iff.mp ((nI_inj (by have := c.rd.len; rw [List.length_map] at this; omega) (by omega)).mp (z.trans (rfl : (0 : Int32) = nI 0))))
  obtain ⟨s, hs⟩ : ∃ s, s = smR (wR W k) 0 := ⟨_, rfl⟩
  obtain ⟨n, hn9⟩ : ∃ n, n = nI (wR W k).length := ⟨_, rfl⟩
  rw [← hs, ← hn9] at hok hq
  rw [← hn9] at hn
  rw [← hs]
  refine R.aload_n dX13_mean_41 rfl rfl ?_
  refine R.getS c3.r8 dX13_mean_42 fl_X13_16 (by decide) rfl ?_
  refine ic_X13_68 rfl (by first | exact Nat.le_of_ble_eq_true rfl | simp [rf_cat, Value.category]) dX13_mean_45 ?_
  refine s_alSize c3.rd ?_
  rw [List.length_map, ← hn9]
  refine ⟨_, rfl, ?_⟩
  refine R.istore_n dX13_mean_50 (Nat.le_of_ble_eq_true rfl) (by decide) (by first | rfl | simp [lft, rf_cat]) rfl ?_
  refine R.iload_n dX13_mean_51 rfl ?_
  refine R.iload_n dX13_mean_52 rfl ?_
  refine R.idiv dX13_mean_53 hn ?_
  refine R.istore_n dX13_mean_54 (Nat.le_of_ble_eq_true rfl) (by decide) (by first | rfl | simp [lft, rf_cat]) rfl ?_
  refine R.iload_n dX13_mean_55 rfl ?_
  refine R.iload_n dX13_mean_56 rfl ?_
  refine R.imul dX13_mean_57 ?_
  refine R.iload_n dX13_mean_58 rfl ?_
  by_cases hlt : s < s / n * n
  · refine R.icmp_le (tgt := 68) dX13_mean_59 (by decide) (fun z => absurd hlt (Int32.not_lt.mpr z)) (fun _ => ?_)
    refine R.iinc dX13_mean_62 (Nat.le_of_ble_eq_true rfl) (by decide) (by first | rfl | simp [lft, rf_cat]) rfl (i_m1 _) rfl ?_
    refine R.goto (tgt := 55) dX13_mean_65 (by decide) ?_
    refine R.iload_n dX13_mean_55 rfl ?_
    refine R.iload_n dX13_mean_56 rfl ?_
    refine R.imul dX13_mean_57 ?_
    refine R.iload_n dX13_mean_58 rfl ?_
    refine R.icmp_le (tgt := 68) dX13_mean_59 (by decide) (fun _ => ?_) (fun z => absurd (hok hlt) z)
    have hlo : loL s n = s / n - 1 := if_pos hlt
    refine R.iconst (v := 2) dX13_mean_68 rfl ?_
    refine R.iload_n dX13_mean_69 rfl ?_
    refine R.iload_n dX13_mean_70 rfl ?_
    refine R.iload_n dX13_mean_71 rfl ?_
    refine R.imul dX13_mean_72 ?_
    refine R.isub dX13_mean_73 ?_
    refine R.imul dX13_mean_74 ?_
    refine R.iload_n dX13_mean_75 rfl ?_
    refine R.icmp_lt (tgt := 85) dX13_mean_76 (by decide) (fun z => ?_) (fun z => ?_)
    · refine R.iload_n dX13_mean_85 rfl ?_
      refine WP.ret (ov := some (.int _)) dX13_mean_86 ⟨rfl, _, rfl, rfl⟩ ?_
      have := hq _ hW3 F3
      unfold mnL at this
      rw [hlo, if_neg (Int32.not_le.mpr z)] at this
      exact this
    · refine R.iload_n dX13_mean_79 rfl ?_
      refine R.iconst (v := 1) dX13_mean_80 rfl ?_
      refine R.iadd dX13_mean_81 ?_
      refine R.goto (tgt := 86) dX13_mean_82 (by decide) ?_
      refine WP.ret (ov := some (.int _)) dX13_mean_86 ⟨rfl, _, rfl, rfl⟩ ?_
      have := hq _ hW3 F3
      unfold mnL at this
      rw [hlo, if_pos (Int32.not_lt.mp z)] at this
      exact this
  · refine R.icmp_le (tgt := 68) dX13_mean_59 (by decide) (fun _ => ?_) (fun z => absurd (Int32.not_lt.mp hlt) z)
    have hlo : loL s n = s / n := if_neg hlt
    refine R.iconst (v := 2) dX13_mean_68 rfl ?_
    refine R.iload_n dX13_mean_69 rfl ?_
    refine R.iload_n dX13_mean_70 rfl ?_
    refine R.iload_n dX13_mean_71 rfl ?_
    refine R.imul dX13_mean_72 ?_
    refine R.isub dX13_mean_73 ?_
    refine R.imul dX13_mean_74 ?_
    refine R.iload_n dX13_mean_75 rfl ?_
    refine R.icmp_lt (tgt := 85) dX13_mean_76 (by decide) (fun z => ?_) (fun z => ?_)
    · refine R.iload_n dX13_mean_85 rfl ?_
      refine WP.ret (ov := some (.int _)) dX13_mean_86 ⟨rfl, _, rfl, rfl⟩ ?_
      have := hq _ hW3 F3
      unfold mnL at this
      rw [hlo, if_neg (Int32.not_le.mpr z)] at this
      exact this
    · refine R.iload_n dX13_mean_79 rfl ?_
      refine R.iconst (v := 1) dX13_mean_80 rfl ?_
      refine R.iadd dX13_mean_81 ?_
      refine R.goto (tgt := 86) dX13_mean_82 (by decide) ?_
      refine WP.ret (ov := some (.int _)) dX13_mean_86 ⟨rfl, _, rfl, rfl⟩ ?_
      have := hq _ hW3 F3
      unfold mnL at this
      rw [hlo, if_pos (Int32.not_lt.mp z)] at this
      exact this
theorem R.iushr {m : MRec} {d pc : Nat} {ls st : List Value} {M : Mem} {Q : Out → Mem → Prop} {x y : Int32} (hd : decode m.2.1 pc = .ok (.iushr, 1)) (k : WP m d (pc + 1) ls (.int ((x.toUInt32 >>> (y.toUInt32 &&& Int32.toUInt32 31)).toInt32) :: st) M Q) : WP m d pc ls (.int y :: .int x :: st) M Q :=
  WP.pure k (fun _ hl hs => ⟨hl, ok_c (VOk.int _ _) (ok_t (ok_t hs))⟩) (fun p l e R s mid args below meth c D cA A Qg hc φ H locs cells slots lsA hiv hlv hls hst kk => lv_iushr hc.1 hc.2.1 hd rfl (kk lsA hlv))
/-- some bits of a cell -/
def biX (x a b : Int32) : Int32 := (x.toUInt32 >>> (a.toUInt32 &&& Int32.toUInt32 31)).toInt32 &&& ((1 : Int32) <<< (b &&& 31) - 1)
theorem and_nI (x : Int32) {n b : Nat} (hn : n = 2 ^ b - 1) (hb : b ≤ 16) : ∃ k, k < 2 ^ b ∧ x &&& nI n = nI k := by
  have h2 : 2 ^ b ≤ 2 ^ 16 := Nat.pow_le_pow_right (by decide) hb
  have h3 : 0 < 2 ^ b := Nat.pow_pos (by decide)
  refine ⟨x.toBitVec.toNat % 2 ^ b, Nat.mod_lt _ h3, ?_⟩
  apply Int32.toBitVec_inj.mp
  apply BitVec.eq_of_toNat_eq
  have e1 : (x &&& nI n).toBitVec = x.toBitVec &&& (nI n).toBitVec := rfl
  have e2 : ∀ z : Nat, z < 2 ^ 32 → (nI z).toBitVec.toNat = z := fun z hz => by
    show (BitVec.ofNat 32 z).toNat = z
    rw [BitVec.toNat_ofNat]
    exact Nat.mod_eq_of_lt hz
  have e3 : x.toBitVec.toNat % 2 ^ b < 2 ^ b := Nat.mod_lt _ h3
  rw [e1, BitVec.toNat_and, e2 n (by omega), e2 _ (by omega), hn, Nat.and_two_pow_sub_one_eq_mod]
theorem bi_in (x a : Int32) {b : Int32} {n : Nat} (hb : (1 : Int32) <<< (b &&& 31) - 1 = nI (2 ^ n - 1)) (hn : n ≤ 16) : ∃ k, k < 2 ^ n ∧ biX x a b = nI k := by
  unfold biX
  rw [hb]
  exact and_nI _ rfl hn
set_option maxHeartbeats 1000000 in
set_option maxRecDepth 4000 in
theorem s_bits {d : Nat} {x a b : Int32} {M : Mem} {Q : Out → Mem → Prop} (hq : Q (.inl (some (.int (biX x a b)))) M) : WPc d mL_bits [.int x, .int a, .int b] M Q := by
  refine WPc.of (by decide +kernel) (Nat.le_of_ble_eq_true rfl) rfl ?_
  refine R.iload_n dL_bits_0 rfl ?_
  refine R.iload_n dL_bits_1 rfl ?_
  refine R.iushr dL_bits_2 ?_
  refine R.iconst (v := 1) dL_bits_3 rfl ?_
  refine R.iload_n dL_bits_4 rfl ?_
  refine R.ishl dL_bits_5 ?_
  refine R.iconst (v := 1) dL_bits_6 rfl ?_
  refine R.isub dL_bits_7 ?_
  refine R.iand dL_bits_8 ?_
  refine WP.ret (ov := some (.int _)) dL_bits_9 ⟨rfl, _, rfl, by first | rfl | assumption | exact nar_b01 (by assumption)⟩ ?_
  exact hq
theorem R.acmpRE {m : MRec} {d pc : Nat} {ls st : List Value} {M : Mem} {Q : Out → Mem → Prop} {k i j : Nat} {off : Int} {tgt : Nat} (hk : k < 21) (hd : decode m.2.1 pc = .ok (.if_acmp .eq off, 3)) (ht : (pc : Int) + off = (tgt : Int)) (kt : i = j → WP m d tgt ls st M Q) (kf : ¬ i = j → WP m d (pc + 3) ls st M Q) : WP m d pc ls (.ref (rf k j) :: .ref (rf k i) :: st) M Q := by
  have h1 : ∀ a, some (rf k i) = some a → KO (kd a) := fun a h => by cases h; rw [kd_rf _ _ (by omega)]; exact Or.inl hk
  have h2 : ∀ a, some (rf k j) = some a → KO (kd a) := fun a h => by cases h; rw [kd_rf _ _ (by omega)]; exact Or.inl hk
  by_cases h : i = j
  · subst h
    exact R.acmpEqS (by omega) hd ht (kt rfl)
  · exact WP.pure (kf h) (fun _ hl hs => ⟨hl, ok_t (ok_t hs)⟩) (fun p l e R s mid args below meth c D cA A Qg hc φ H locs cells slots lsA hiv hlv hls hst kk => by
      rw [List.map_cons, List.map_cons]
      have e1 := map_rf (φ := φ) h1
      have e2 := map_rf (φ := φ) h2
      rw [show cv φ (.ref (rf k j)) = va_rf ((some (rf k j)).map φ) from e2, show cv φ (.ref (rf k i)) = va_rf ((some (rf k i)).map φ) from e1]
      exact lv_acmp_eq hc.1 hc.2.1 hd ht (fun q => absurd (rf_inj (by omega) (by omega) (Option.some.inj (inj_rf hiv h1 h2 (hst _ (List.mem_cons_of_mem _ List.mem_cons_self)) (hst _ List.mem_cons_self) q))).2 h) (fun _ => kk lsA hlv))
set_option maxHeartbeats 1000000 in
set_option maxRecDepth 8000 in
/-- the place of crate c in a list of crates, from place j on -/
theorem dr_loop {d i c : Nat} {l : List Nat} {E : Option Nat} {M : Mem} {Q : Out → Mem → Prop} (h : Ls M i (l.map (rf 11)) E) {p : Nat} (hp : l[p]? = some c) (hn : ∀ j, j < p → l[j]? ≠ some c) (hq : ∀ M', Ls M' i ((l.eraseIdx p).map (rf 11)) E → Fx (SL i E) 0 0 M M' → Q (.inl none) M') : ∀ (f j : Nat) (v : Value), j + f = p → WP mL_drops (d + 4) 2 [.ref (rf 33 i), .ref (rf 11 c), .int (nI j), v] [] M Q := by
  have hl := h.len
  rw [List.length_map] at hl
  have hpl := (List.getElem?_eq_some_iff.mp hp).1
  intro f
  induction f with
  | zero =>
    intro j v hj
    have e : j = p := by omega
    subst e
    refine R.aload_n dL_drops_2 rfl rfl ?_
    refine R.iload_n dL_drops_3 rfl ?_
    refine ic_L_160 rfl (by first | exact Nat.le_of_ble_eq_true rfl | simp [rf_cat, Value.category]) dL_drops_4 ?_
    refine s_alGet h (map_at (g := rf 11) hp) ?_
    refine ⟨_, rfl, ?_⟩
    refine R.aload_n dL_drops_9 rfl rfl ?_
    refine R.acmpEqS (tgt := 19) (by decide) dL_drops_10 (by decide) ?_
    refine R.aload_n dL_drops_19 rfl rfl ?_
    refine R.iload_n dL_drops_20 rfl ?_
    refine ic_L_243 rfl (by first | exact Nat.le_of_ble_eq_true rfl | simp [rf_cat, Value.category]) dL_drops_21 ?_
    refine s_alRem h (map_at (g := rf 11) hp) (fun x hx M2 => ?_) (fun M' h1 h2 h3 => ?_)
    · obtain ⟨y, -, rfl⟩ := List.mem_map.mp hx
      exact el_cr
    refine ⟨_, rfl, ?_⟩
    refine R.cast (k0 := 11) rfl (rcv_own (k := 11) rfl) cw_L_104 dL_drops_26 ?_
    refine R.astore_n dL_drops_29 rfl (Nat.le_of_ble_eq_true rfl) (by decide) rfl rfl ?_
    refine WP.ret (ov := none) dL_drops_30 ⟨rfl, rfl⟩ ?_
    refine hq _ ?_ h2
    rw [map_erIdx]
    exact h1
  | succ f ih =>
    intro j v hj
    have hjl : j < l.length := by omega
    have hne : l[j]? = some l[j] := List.getElem?_eq_getElem hjl
    have hnc : ¬ l[j] = c := fun z => hn j (by omega) (by rw [hne, z])
    refine R.aload_n dL_drops_2 rfl rfl ?_
    refine R.iload_n dL_drops_3 rfl ?_
    refine ic_L_160 rfl (by first | exact Nat.le_of_ble_eq_true rfl | simp [rf_cat, Value.category]) dL_drops_4 ?_
    refine s_alGet h (map_at (g := rf 11) hne) ?_
    refine ⟨_, rfl, ?_⟩
    refine R.aload_n dL_drops_9 rfl rfl ?_
    refine R.acmpRE (tgt := 19) (by decide) dL_drops_10 (by decide) (fun z => absurd z hnc) (fun _ => ?_)
    refine R.iinc dL_drops_13 (Nat.le_of_ble_eq_true rfl) (by decide) rfl rfl (inc_nI _) rfl ?_
    refine R.goto (tgt := 2) dL_drops_16 (by decide) ?_
    exact ih (j + 1) v (by omega)
theorem s_drops {d i c : Nat} {l : List Nat} {E : Option Nat} {M : Mem} {Q : Out → Mem → Prop} (h : Ls M i (l.map (rf 11)) E) {p : Nat} (hp : l[p]? = some c) (hn : ∀ j, j < p → l[j]? ≠ some c) (hq : ∀ M', Ls M' i ((l.eraseIdx p).map (rf 11)) E → Fx (SL i E) 0 0 M M' → Q (.inl none) M') : WPc (d + 4) mL_drops [.ref (rf 33 i), .ref (rf 11 c)] M Q := by
  refine WPc.of (by decide +kernel) (Nat.le_of_ble_eq_true rfl) rfl ?_
  refine R.iconst (v := nI 0) dL_drops_0 rfl ?_
  refine R.istore_n dL_drops_1 (Nat.le_of_ble_eq_true rfl) (by decide) rfl rfl ?_
  exact dr_loop h hp hn hq p 0 _ (by omega)
