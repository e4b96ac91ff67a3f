/-! the model: its arrays, its smallest methods -/
/-- the model's array of a yard, replaced -/
def sW (M : Mem) (w : Nat → Int32) : Mem := (fun k i => if k = 14 ∧ i = 0 then w else M.1 k i, M.2)
def upW (w : Nat → Int32) (c : Nat) (v : Int32) : Nat → Int32 := fun c' => if c' = c then v else w c'
theorem upW_s (w : Nat → Int32) (c : Nat) (v : Int32) : upW w c v c = v := if_pos rfl
theorem upW_n (w : Nat → Int32) {c c' : Nat} (v : Int32) (h : c' ≠ c) : upW w c v c' = w c' := if_neg h
theorem mI_sW (M : Mem) (w : Nat → Int32) : mI (sW M w) 14 0 = w := by
  show (if 14 = 14 ∧ 0 = 0 then w else M.1 14 0) = w
  exact if_pos ⟨rfl, rfl⟩
theorem mI_sWc (M : Mem) (w : Nat → Int32) (c : Nat) : mI (sW M w) 14 0 c = w c := by rw [mI_sW]
theorem mI_sWn (M : Mem) (w : Nat → Int32) {k i : Nat} (h : ¬ (k = 14 ∧ i = 0)) : mI (sW M w) k i = mI M k i := if_neg h
theorem sI_sW (M : Mem) (w : Nat → Int32) (c : Nat) (v : Int32) : sI (sW M w) 14 0 c v = sW M (upW w c v) := by
  refine Prod.ext ?_ rfl
  funext k i f
  show up3 (sW M w).1 14 0 c v k i f = (if k = 14 ∧ i = 0 then upW w c v else M.1 k i) f
  unfold up3
  by_cases z : k = 14 ∧ i = 0
  · rw [if_pos z]
    obtain ⟨rfl, rfl⟩ := z
    show _ = if f = c then v else w f
    by_cases y : f = c
    · rw [if_pos ⟨rfl, rfl, y⟩, if_pos y]
    · rw [if_neg (fun q => y q.2.2), if_neg y]
      show (if 14 = 14 ∧ 0 = 0 then w else M.1 14 0) f = w f
      exact congrFun (if_pos ⟨rfl, rfl⟩) f
  · rw [if_neg z, if_neg (fun q => z ⟨q.1, q.2.1⟩)]
    exact congrFun (if_neg z) f
theorem sW_sW (M : Mem) (w w' : Nat → Int32) : sW (sW M w) w' = sW M w' := by
  refine Prod.ext ?_ rfl
  funext k i
  show (if k = 14 ∧ i = 0 then w' else (if k = 14 ∧ i = 0 then w else M.1 k i)) = _
  by_cases z : k = 14 ∧ i = 0
  · rw [if_pos z]; exact (if_pos z).symm
  · rw [if_neg z, if_neg z]; exact (if_neg z).symm
theorem sW_id (M : Mem) : sW M (mI M 14 0) = M := by
  refine Prod.ext ?_ rfl
  funext k i
  show (if k = 14 ∧ i = 0 then mI M 14 0 else M.1 k i) = M.1 k i
  by_cases z : k = 14 ∧ i = 0
  · rw [if_pos z]; obtain ⟨rfl, rfl⟩ := z; rfl
  · rw [if_neg z]
/-- the model's layout -/
def ML (M : Mem) : Prop := (mR M 11 0 0 = some (rf 14 0) ∧ mR M 11 0 1 = some (rf 14 1) ∧ mR M 11 0 2 = some (rf 14 2) ∧ mR M 11 0 3 = some (rf 14 3) ∧ mR M 11 0 4 = some (rf 14 4) ∧ mR M 11 0 8 = some (rf 14 5) ∧ mR M 11 0 19 = some (rf 14 6) ∧ mR M 11 0 20 = some (rf 14 7) ∧ mR M 11 0 21 = some (rf 14 8) ∧ mR M 11 0 23 = some (rf 14 9) ∧ mR M 11 0 24 = some (rf 14 10)) ∧ mN M 14 0 = 370 ∧ mN M 14 1 = 370 ∧ mN M 14 2 = 370 ∧ mN M 14 3 = 370 ∧ mN M 14 4 = 2960 ∧ mN M 14 5 = 600 ∧ mN M 14 6 = 4 ∧ mN M 14 7 = 31 ∧ mN M 14 8 = 62 ∧ mN M 14 9 = 16 ∧ mN M 14 10 = 400
theorem ML.w {M : Mem} (h : ML M) : mR M 11 0 0 = some (rf 14 0) := h.1.1
theorem ML.n {M : Mem} (h : ML M) : mN M 14 0 = 370 := h.2.1
theorem wi_c (c f : Nat) : (16 : Int32) + 18 * nI c + nI f = nI (16 + 18 * c + f) := by
  unfold nI
  rw [Int32.ofNat_add, Int32.ofNat_add, Int32.ofNat_mul]
  rfl
theorem wi_b (c f : Nat) : (304 : Int32) + 11 * nI c + nI f = nI (304 + 11 * c + f) := by
  unfold nI
  rw [Int32.ofNat_add, Int32.ofNat_add, Int32.ofNat_mul]
  rfl
section RN
variable {m : MRec} {d pc : Nat} {ls st : List Value} {M : Mem} {Q : Out → Mem → Prop}
theorem R.ialdN {i k : Nat} (hd : decode m.2.1 pc = .ok (.iaload, 1)) (hk : k < 2 ^ 31) (h1 : k < mN M 14 i) (kn9 : WP m d (pc + 1) ls (.int (mI M 14 i k) :: st) M Q) : WP m d pc ls (.int (nI k) :: .ref (rf 14 i) :: st) M Q := by
  refine R.iald hd (nI_pos hk) (by rw [nI_clamp hk]; exact h1) ?_
  rw [nI_clamp hk]
  exact kn9
theorem R.iastN {i k : Nat} {v : Int32} (hd : decode m.2.1 pc = .ok (.iastore, 1)) (hk : k < 2 ^ 31) (h1 : k < mN M 14 i) (kn9 : WP m d (pc + 1) ls st (sI M 14 i k v) Q) : WP m d pc ls (.int v :: .int (nI k) :: .ref (rf 14 i) :: st) M Q := by
  refine R.iast hd (nI_pos hk) (by rw [nI_clamp hk]; exact h1) ?_
  rw [nI_clamp hk]
  exact kn9
end RN
set_option maxHeartbeats 1000000 in
set_option maxRecDepth 4000 in
theorem m_of {d : Nat} {w : Nat → Int32} {M : Mem} {Q : Out → Mem → Prop} {c f : Nat} (hL : ML M) (hc : c < 16) (hf : f < 18) (hq : Q (.inl (some (.int (w (16 + 18 * c + f))))) (sW M w)) : WPc d mX13_of [.ref (rf 11 0), .int (nI c), .int (nI f)] (sW M w) Q := by
  refine WPc.of (by decide +kernel) (Nat.le_of_ble_eq_true rfl) rfl ?_
  refine R.aload_n dX13_of_0 rfl (by first | rfl | exact rfv_rf _) ?_
  refine R.getS (hL.w) dX13_of_1 fl_X13_7 (by decide) rfl ?_
  refine R.bipush (v := 16) dX13_of_4 (by decide) ?_
  refine R.bipush (v := 18) dX13_of_6 (by decide) ?_
  refine R.iload_n dX13_of_8 rfl ?_
  refine R.imul dX13_of_9 ?_
  refine R.iadd dX13_of_10 ?_
  refine R.iload_n dX13_of_11 rfl ?_
  refine R.iadd dX13_of_12 ?_
  rw [wi_c]
  refine R.ialdN (k := 16 + 18 * c + f) dX13_of_13 (by omega) (by show _ < mN M 14 0; rw [hL.n]; omega) ?_
  rw [mI_sWc]
  refine WP.ret (ov := some (.int _)) dX13_of_14 ⟨rfl, _, rfl, by first | rfl | assumption | exact nar_b01 (by assumption)⟩ ?_
  exact hq
set_option maxHeartbeats 1000000 in
set_option maxRecDepth 4000 in
theorem m_puts {d : Nat} {w : Nat → Int32} {M : Mem} {Q : Out → Mem → Prop} {c f : Nat} {v : Int32} (hL : ML M) (hc : c < 16) (hf : f < 18) (hq : Q (.inl none) (sW M (upW w (16 + 18 * c + f) v))) : WPc d mX13_puts [.ref (rf 11 0), .int (nI c), .int (nI f), .int v] (sW M w) Q := by
  refine WPc.of (by decide +kernel) (Nat.le_of_ble_eq_true rfl) rfl ?_
  refine R.aload_n dX13_puts_0 rfl (by first | rfl | exact rfv_rf _) ?_
  refine R.getS (hL.w) dX13_puts_1 fl_X13_7 (by decide) rfl ?_
  refine R.bipush (v := 16) dX13_puts_4 (by decide) ?_
  refine R.bipush (v := 18) dX13_puts_6 (by decide) ?_
  refine R.iload_n dX13_puts_8 rfl ?_
  refine R.imul dX13_puts_9 ?_
  refine R.iadd dX13_puts_10 ?_
  refine R.iload_n dX13_puts_11 rfl ?_
  refine R.iadd dX13_puts_12 ?_
  refine R.iload_n dX13_puts_13 rfl ?_
  rw [wi_c]
  refine R.iastN (k := 16 + 18 * c + f) dX13_puts_14 (by omega) (by show _ < mN M 14 0; rw [hL.n]; omega) ?_
  rw [sI_sW]
  refine WP.ret (ov := none) dX13_puts_15 ⟨rfl, rfl⟩ ?_
  exact hq
set_option maxHeartbeats 1000000 in
set_option maxRecDepth 4000 in
theorem m_ofB {d : Nat} {w : Nat → Int32} {M : Mem} {Q : Out → Mem → Prop} {c f : Nat} (hL : ML M) (hc : c < 6) (hf : f < 11) (hq : Q (.inl (some (.int (w (304 + 11 * c + f))))) (sW M w)) : WPc d mX13_ofBuyer [.ref (rf 11 0), .int (nI c), .int (nI f)] (sW M w) Q := by
  refine WPc.of (by decide +kernel) (Nat.le_of_ble_eq_true rfl) rfl ?_
  refine R.aload_n dX13_ofBuyer_0 rfl (by first | rfl | exact rfv_rf _) ?_
  refine R.getS (hL.w) dX13_ofBuyer_1 fl_X13_7 (by decide) rfl ?_
  refine R.sipush (v := 304) dX13_ofBuyer_4 (by decide) ?_
  refine R.bipush (v := 11) dX13_ofBuyer_7 (by decide) ?_
  refine R.iload_n dX13_ofBuyer_9 rfl ?_
  refine R.imul dX13_ofBuyer_10 ?_
  refine R.iadd dX13_ofBuyer_11 ?_
  refine R.iload_n dX13_ofBuyer_12 rfl ?_
  refine R.iadd dX13_ofBuyer_13 ?_
  rw [wi_b]
  refine R.ialdN (k := 304 + 11 * c + f) dX13_ofBuyer_14 (by omega) (by show _ < mN M 14 0; rw [hL.n]; omega) ?_
  rw [mI_sWc]
  refine WP.ret (ov := some (.int _)) dX13_ofBuyer_15 ⟨rfl, _, rfl, by first | rfl | assumption | exact nar_b01 (by assumption)⟩ ?_
  exact hq
set_option maxHeartbeats 1000000 in
set_option maxRecDepth 4000 in
theorem m_putsB {d : Nat} {w : Nat → Int32} {M : Mem} {Q : Out → Mem → Prop} {c f : Nat} {v : Int32} (hL : ML M) (hc : c < 6) (hf : f < 11) (hq : Q (.inl none) (sW M (upW w (304 + 11 * c + f) v))) : WPc d mX13_putsBuyer [.ref (rf 11 0), .int (nI c), .int (nI f), .int v] (sW M w) Q := by
  refine WPc.of (by decide +kernel) (Nat.le_of_ble_eq_true rfl) rfl ?_
  refine R.aload_n dX13_putsBuyer_0 rfl (by first | rfl | exact rfv_rf _) ?_
  refine R.getS (hL.w) dX13_putsBuyer_1 fl_X13_7 (by decide) rfl ?_
  refine R.sipush (v := 304) dX13_putsBuyer_4 (by decide) ?_
  refine R.bipush (v := 11) dX13_putsBuyer_7 (by decide) ?_
  refine R.iload_n dX13_putsBuyer_9 rfl ?_
  refine R.imul dX13_putsBuyer_10 ?_
  refine R.iadd dX13_putsBuyer_11 ?_
  refine R.iload_n dX13_putsBuyer_12 rfl ?_
  refine R.iadd dX13_putsBuyer_13 ?_
  refine R.iload_n dX13_putsBuyer_14 rfl ?_
  rw [wi_b]
  refine R.iastN (k := 304 + 11 * c + f) dX13_putsBuyer_15 (by omega) (by show _ < mN M 14 0; rw [hL.n]; omega) ?_
  rw [sI_sW]
  refine WP.ret (ov := none) dX13_putsBuyer_16 ⟨rfl, rfl⟩ ?_
  exact hq
set_option maxHeartbeats 1000000 in
set_option maxRecDepth 4000 in
theorem m_grows {d : Nat} {w : Nat → Int32} {M : Mem} {Q : Out → Mem → Prop} {c f : Nat} {v : Int32} (hL : ML M) (hc : c < 16) (hf : f < 18) (hq : Q (.inl none) (sW M (upW w (16 + 18 * c + f) (w (16 + 18 * c + f) + v)))) : WPc (d + 1) mX13_grows [.ref (rf 11 0), .int (nI c), .int (nI f), .int v] (sW M w) Q := by
  refine WPc.of (by decide +kernel) (Nat.le_of_ble_eq_true rfl) rfl ?_
  refine R.aload_n dX13_grows_0 rfl (by first | rfl | exact rfv_rf _) ?_
  refine R.iload_n dX13_grows_1 rfl ?_
  refine R.iload_n dX13_grows_2 rfl ?_
  refine R.aload_n dX13_grows_3 rfl (by first | rfl | exact rfv_rf _) ?_
  refine R.iload_n dX13_grows_4 rfl ?_
  refine R.iload_n dX13_grows_5 rfl ?_
  refine cl_X13_68 rfl rfl (by first | exact Nat.le_of_ble_eq_true rfl | simp [rf_cat, Value.category]) dX13_grows_6 ?_
  refine m_of hL hc hf ?_
  refine R.iload_n dX13_grows_9 rfl ?_
  refine R.iadd dX13_grows_10 ?_
  refine cl_X13_72 rfl rfl (by first | exact Nat.le_of_ble_eq_true rfl | simp [rf_cat, Value.category]) dX13_grows_11 ?_
  refine m_puts hL hc hf ?_
  refine WP.ret (ov := none) dX13_grows_14 ⟨rfl, rfl⟩ ?_
  exact hq
set_option maxHeartbeats 1000000 in
set_option maxRecDepth 4000 in
theorem m_steps {d : Nat} {w : Nat → Int32} {M : Mem} {Q : Out → Mem → Prop}  (hL : ML M)  (hq : Q (.inl none) (sW M (upW w 3 (nxG (w 3))))) : WPc d mX13_steps [.ref (rf 11 0)] (sW M w) Q := by
  refine WPc.of (by decide +kernel) (Nat.le_of_ble_eq_true rfl) rfl ?_
  refine R.aload_n dX13_steps_0 rfl (by first | rfl | exact rfv_rf _) ?_
  refine R.getS (hL.w) dX13_steps_1 fl_X13_7 (by decide) rfl ?_
  refine R.iconst (v := nI 3) dX13_steps_4 rfl ?_
  refine R.bipush (v := 75) dX13_steps_5 (by decide) ?_
  refine R.aload_n dX13_steps_7 rfl (by first | rfl | exact rfv_rf _) ?_
  refine R.getS (hL.w) dX13_steps_8 fl_X13_7 (by decide) rfl ?_
  refine R.iconst (v := nI 3) dX13_steps_11 rfl ?_
  refine R.ialdN (k := 3) dX13_steps_12 (by omega) (by show _ < mN M 14 0; rw [hL.n]; omega) ?_
  rw [mI_sWc]
  refine R.imul dX13_steps_13 ?_
  refine R.bipush (v := 74) dX13_steps_14 (by decide) ?_
  refine R.iadd dX13_steps_16 ?_
  refine R.ldc dX13_steps_17 ki_X13_100 ?_
  refine R.irem dX13_steps_19 (by decide) ?_
  refine R.iastN (k := 3) dX13_steps_20 (by omega) (by show _ < mN M 14 0; rw [hL.n]; omega) ?_
  rw [sI_sW]
  refine WP.ret (ov := none) dX13_steps_21 ⟨rfl, rfl⟩ ?_
  exact hq
set_option maxHeartbeats 1000000 in
set_option maxRecDepth 4000 in
theorem m_noise {d : Nat} {w : Nat → Int32} {M : Mem} {Q : Out → Mem → Prop}  (hL : ML M) (ha : ¬ 2 * w 2 + 1 = 0) (hq : Q (.inl (some (.int (fNz (w 3) (w 2))))) (sW M w)) : WPc d mX13_noise [.ref (rf 11 0)] (sW M w) Q := by
  refine WPc.of (by decide +kernel) (Nat.le_of_ble_eq_true rfl) rfl ?_
  refine R.aload_n dX13_noise_0 rfl (by first | rfl | exact rfv_rf _) ?_
  refine R.getS (hL.w) dX13_noise_1 fl_X13_7 (by decide) rfl ?_
  refine R.iconst (v := nI 3) dX13_noise_4 rfl ?_
  refine R.ialdN (k := 3) dX13_noise_5 (by omega) (by show _ < mN M 14 0; rw [hL.n]; omega) ?_
  rw [mI_sWc]
  refine R.iconst (v := 2) dX13_noise_6 rfl ?_
  refine R.aload_n dX13_noise_7 rfl (by first | rfl | exact rfv_rf _) ?_
  refine R.getS (hL.w) dX13_noise_8 fl_X13_7 (by decide) rfl ?_
  refine R.iconst (v := nI 2) dX13_noise_11 rfl ?_
  refine R.ialdN (k := 2) dX13_noise_12 (by omega) (by show _ < mN M 14 0; rw [hL.n]; omega) ?_
  rw [mI_sWc]
  refine R.imul dX13_noise_13 ?_
  refine R.iconst (v := 1) dX13_noise_14 rfl ?_
  refine R.iadd dX13_noise_15 ?_
  refine R.irem dX13_noise_16 ha ?_
  refine R.aload_n dX13_noise_17 rfl (by first | rfl | exact rfv_rf _) ?_
  refine R.getS (hL.w) dX13_noise_18 fl_X13_7 (by decide) rfl ?_
  refine R.iconst (v := nI 2) dX13_noise_21 rfl ?_
  refine R.ialdN (k := 2) dX13_noise_22 (by omega) (by show _ < mN M 14 0; rw [hL.n]; omega) ?_
  rw [mI_sWc]
  refine R.isub dX13_noise_23 ?_
  refine WP.ret (ov := some (.int _)) dX13_noise_24 ⟨rfl, _, rfl, by first | rfl | assumption | exact nar_b01 (by assumption)⟩ ?_
  exact hq
set_option maxHeartbeats 1000000 in
set_option maxRecDepth 4000 in
theorem m_sag {d : Nat} {w : Nat → Int32} {M : Mem} {Q : Out → Mem → Prop}  (hL : ML M) (ha : ¬ w 4 = 0) (hq : Q (.inl (some (.int (w 7 / w 4)))) (sW M w)) : WPc d mX13_sag [.ref (rf 11 0)] (sW M w) Q := by
  refine WPc.of (by decide +kernel) (Nat.le_of_ble_eq_true rfl) rfl ?_
  refine R.aload_n dX13_sag_0 rfl (by first | rfl | exact rfv_rf _) ?_
  refine R.getS (hL.w) dX13_sag_1 fl_X13_7 (by decide) rfl ?_
  refine R.bipush (v := nI 7) dX13_sag_4 (by decide) ?_
  refine R.ialdN (k := 7) dX13_sag_6 (by omega) (by show _ < mN M 14 0; rw [hL.n]; omega) ?_
  rw [mI_sWc]
  refine R.aload_n dX13_sag_7 rfl (by first | rfl | exact rfv_rf _) ?_
  refine R.getS (hL.w) dX13_sag_8 fl_X13_7 (by decide) rfl ?_
  refine R.iconst (v := nI 4) dX13_sag_11 rfl ?_
  refine R.ialdN (k := 4) dX13_sag_12 (by omega) (by show _ < mN M 14 0; rw [hL.n]; omega) ?_
  rw [mI_sWc]
  refine R.idiv dX13_sag_13 ha ?_
  refine WP.ret (ov := some (.int _)) dX13_sag_14 ⟨rfl, _, rfl, by first | rfl | assumption | exact nar_b01 (by assumption)⟩ ?_
  exact hq
