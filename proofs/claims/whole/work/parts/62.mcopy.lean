/-! the model's copies; many readings -/
def sA (M : Mem) (v : Nat) (g : Nat → Int32) : Mem := (fun k i => if k = 14 ∧ i = v then g else M.1 k i, M.2)
theorem sA_W (M : Mem) (g : Nat → Int32) : sA M 0 g = sW M g := rfl
theorem mI_sA (M : Mem) (v : Nat) (g : Nat → Int32) : mI (sA M v g) 14 v = g := by
  show (if 14 = 14 ∧ v = v then g else M.1 14 v) = g
  exact if_pos ⟨rfl, rfl⟩
theorem mI_sAn (M : Mem) (v : Nat) (g : Nat → Int32) {k i : Nat} (h : ¬ (k = 14 ∧ i = v)) : mI (sA M v g) k i = mI M k i := if_neg h
theorem sA_e (M : Mem) {v : Nat} {g g' : Nat → Int32} (h : ∀ x, g x = g' x) : sA M v g = sA M v g' := by rw [funext h]
theorem sI_sA (M : Mem) (v : Nat) (g : Nat → Int32) (c : Nat) (x : Int32) : sI (sA M v g) 14 v c x = sA M v (upW g c x) := by
  refine Prod.ext ?_ rfl
  funext k i f
  show up3 (sA M v g).1 14 v c x k i f = (if k = 14 ∧ i = v then upW g c x else M.1 k i) f
  unfold up3
  by_cases z : k = 14 ∧ i = v
  · rw [if_pos z]
    obtain ⟨rfl, rfl⟩ := z
    show _ = if f = c then x else g f
    by_cases y : f = c
    · rw [if_pos ⟨rfl, rfl, y⟩, if_pos y]
    · rw [if_neg (fun q => y q.2.2), if_neg y]
      show (if 14 = 14 ∧ i = i then g else M.1 14 i) f = g f
      exact congrFun (if_pos ⟨rfl, rfl⟩) f
  · rw [if_neg z, if_neg (fun q => z ⟨q.1, q.2.1⟩)]
    exact congrFun (if_neg z) f
theorem sA_id (M : Mem) (v : Nat) : sA M v (mI M 14 v) = M := by
  refine Prod.ext ?_ rfl
  funext k i
  show (if k = 14 ∧ i = v then mI M 14 v else M.1 k i) = M.1 k i
  by_cases z : k = 14 ∧ i = v
  · rw [if_pos z]; obtain ⟨rfl, rfl⟩ := z; rfl
  · rw [if_neg z]
/-- the first k cells copied -/
def cpK (g s : Nat → Int32) (a i k : Nat) : Nat → Int32 := fun x => if i ≤ x ∧ x < i + k then s (a + (x - i)) else g x
theorem cpK_s (g s : Nat → Int32) (a i k : Nat) : upW (cpK g s a i k) (i + k) (s (a + k)) = cpK g s a i (k + 1) := by
  funext x
  show (if x = i + k then s (a + k) else if i ≤ x ∧ x < i + k then s (a + (x - i)) else g x) = if i ≤ x ∧ x < i + (k + 1) then s (a + (x - i)) else g x
  by_cases z : x = i + k
  · rw [if_pos z, if_pos ⟨by omega, by omega⟩, show x - i = k by omega]
  · rw [if_neg z]
    by_cases y : i ≤ x ∧ x < i + k
    · rw [if_pos y, if_pos ⟨y.1, by omega⟩]
    · rw [if_neg y, if_neg (fun q => y ⟨q.1, by omega⟩)]
theorem nI_add9 (a b : Nat) : nI a + nI b = nI (a + b) := by
  unfold nI
  rw [Int32.ofNat_add]
set_option maxHeartbeats 1000000 in
set_option maxRecDepth 4000 in
theorem m_copies {d u v a i : Nat} {M : Mem} {Q : Out → Mem → Prop} (hne : ¬ u = v) (hu : a + 370 ≤ mN M 14 u) (hv : i + 370 ≤ mN M 14 v) (ha : a ≤ 3000) (hi : i ≤ 3000) (hq : Q (.inl none) (sA M v (cpK (mI M 14 v) (mI M 14 u) a i 370))) : WPc d mX13_copies [.ref (rf 14 u), .int (nI a), .ref (rf 14 v), .int (nI i)] M Q := by
  refine WPc.of (by decide +kernel) (Nat.le_of_ble_eq_true rfl) rfl ?_
  have key : ∀ (f k : Nat), k + f = 370 → WP mX13_copies d 3 [.ref (rf 14 u), .int (nI a), .ref (rf 14 v), .int (nI i), .int (nI k)] [] (sA M v (cpK (mI M 14 v) (mI M 14 u) a i k)) Q := by
    intro f
    induction f with
    | zero =>
      intro k hk
      have ek : k = 370 := by omega
      subst ek
      refine R.iload dX13_copies_3 rfl ?_
      refine R.sipush (v := nI 370) dX13_copies_5 (by decide) ?_
      refine R.geT (tgt := 29) (Int32.le_refl _) dX13_copies_8 (by decide) ?_
      refine WP.ret (ov := none) dX13_copies_29 ⟨rfl, rfl⟩ ?_
      exact hq
    | succ f ih =>
      intro k hf
      have hk : k < 370 := by omega
      refine R.iload dX13_copies_3 rfl ?_
      refine R.sipush (v := nI 370) dX13_copies_5 (by decide) ?_
      refine R.geF (tgt := 29) (nI_ge (show k < 370 by omega) (by omega)) dX13_copies_8 (by decide) ?_
      refine R.aload_n dX13_copies_11 rfl (by first | rfl | exact rfv_rf _) ?_
      refine R.iload_n dX13_copies_12 rfl ?_
      refine R.iload dX13_copies_13 rfl ?_
      refine R.iadd dX13_copies_15 ?_
      rw [nI_add9]
      refine R.aload_n dX13_copies_16 rfl (by first | rfl | exact rfv_rf _) ?_
      refine R.iload_n dX13_copies_17 rfl ?_
      refine R.iload dX13_copies_18 rfl ?_
      refine R.iadd dX13_copies_20 ?_
      rw [nI_add9]
      refine R.ialdN (k := a + k) dX13_copies_21 (by omega) (by show _ < mN M 14 u; omega) ?_
      rw [mI_sAn _ _ _ (fun q => hne q.2)]
      refine R.iastN (k := i + k) dX13_copies_22 (by omega) (by show _ < mN M 14 v; omega) ?_
      rw [sI_sA, cpK_s]
      refine R.iinc dX13_copies_23 (Nat.le_of_ble_eq_true rfl) (by decide) (by first | rfl | simp [lft, rf_cat]) rfl (inc_nI _) rfl ?_
      refine R.goto (tgt := 3) dX13_copies_26 (by decide) ?_
      exact ih (k + 1) (by omega)
  have e0 : sA M v (cpK (mI M 14 v) (mI M 14 u) a i 0) = M := by
    exact (sA_e (g := cpK (mI M 14 v) (mI M 14 u) a i 0) (g' := mI M 14 v) M (fun x => if_neg (by omega))).trans (sA_id M v)
  refine R.iconst (v := nI 0) dX13_copies_0 rfl ?_
  refine R.istore dX13_copies_1 (Nat.le_of_ble_eq_true rfl) (by decide) (by first | rfl | simp [lft, rf_cat]) rfl ?_
  have kk := key 370 0 rfl
  rw [e0] at kk
  exact kk
set_option maxHeartbeats 1000000 in
set_option maxRecDepth 4000 in
theorem m_wMany {d c b K m t : Nat} {Y : Yd} {w : Nat → Int32} {M : Mem} {Q : Out → Mem → Prop} (hL : ML M) (h : RW Y m b K w) (hc : c < 16) (ht : t < 2 ^ 31) (hO : ∀ a, a < t → WgO (tkN c a Y) c) (hq : ∀ v w', RW (tkN c t Y) m b K w' → Q (.inl (some (.int v))) (sW M w')) : WPc (d + 10) mX13_weighsMany [.ref (rf 11 0), .int (nI c), .int (nI t)] (sW M w) Q := by
  refine WPc.of (by decide +kernel) (Nat.le_of_ble_eq_true rfl) rfl ?_
  have key : ∀ (f k : Nat) (v : Int32) (w1 : Nat → Int32), k + f = t → RW (tkN c k Y) m b K w1 → WP mX13_weighsMany (d + 10) 5 [.ref (rf 11 0), .int (nI c), .int (nI t), .int v, .int (nI k)] [] (sW M w1) Q := by
    intro f
    induction f with
    | zero =>
      intro k v w1 hk h1
      have ek : k = t := by omega
      subst ek
      refine R.iload dX13_weighsMany_5 rfl ?_
      refine R.iload_n dX13_weighsMany_7 rfl ?_
      refine R.geT (tgt := 23) (Int32.le_refl _) dX13_weighsMany_8 (by decide) ?_
      refine R.iload_n dX13_weighsMany_23 rfl ?_
      refine WP.ret (ov := some (.int _)) dX13_weighsMany_24 ⟨rfl, _, rfl, by first | rfl | assumption | exact nar_b01 (by assumption)⟩ ?_
      exact hq _ _ h1
    | succ f ih =>
      intro k v w1 hf h1
      have hk : k < t := by omega
      refine R.iload dX13_weighsMany_5 rfl ?_
      refine R.iload_n dX13_weighsMany_7 rfl ?_
      refine R.geF (tgt := 23) (nI_ge (show k < t by omega) (by omega)) dX13_weighsMany_8 (by decide) ?_
      refine R.aload_n dX13_weighsMany_11 rfl (by first | rfl | exact rfv_rf _) ?_
      refine R.iload_n dX13_weighsMany_12 rfl ?_
      refine cl_X13_117 rfl rfl (by first | exact Nat.le_of_ble_eq_true rfl | simp [rf_cat, Value.category]) dX13_weighsMany_13 ?_
      refine m_weighs (d := d) hL h1 hc (hO k hk) (fun w2 h2 => ?_)
      rw [← tkN_s] at h2
      refine R.istore_n dX13_weighsMany_16 (Nat.le_of_ble_eq_true rfl) (by decide) (by first | rfl | simp [lft, rf_cat]) rfl ?_
      refine R.iinc dX13_weighsMany_17 (Nat.le_of_ble_eq_true rfl) (by decide) (by first | rfl | simp [lft, rf_cat]) rfl (inc_nI _) rfl ?_
      refine R.goto (tgt := 5) dX13_weighsMany_20 (by decide) ?_
      exact ih (k + 1) _ w2 (by omega) h2
  refine R.iconst (v := nI 0) dX13_weighsMany_0 rfl ?_
  refine R.istore_n dX13_weighsMany_1 (Nat.le_of_ble_eq_true rfl) (by decide) (by first | rfl | simp [lft, rf_cat]) rfl ?_
  refine R.iconst (v := nI 0) dX13_weighsMany_2 rfl ?_
  refine R.istore dX13_weighsMany_3 (Nat.le_of_ble_eq_true rfl) (by decide) (by first | rfl | simp [lft, rf_cat]) rfl ?_
  exact key t 0 _ w (by omega) h
set_option maxHeartbeats 1000000 in
set_option maxRecDepth 4000 in
theorem m_detail {d : Nat} {w : Nat → Int32} {M : Mem} {Q : Out → Mem → Prop} {c b K m j : Nat} {Y : Yd} (hL : ML M) (h : RW Y m b K w) (hc : c < m) (hM : MO9 Y c) (hR : 1 ≤ yF Y 6) (hj : j < b) (hq : Q (.inl (some (.int (yDet Y c j)))) (sW M w)) : WPc (d + 5) mX13_detail [.ref (rf 11 0), .int (nI c), .int (nI j)] (sW M w) Q := by
  refine WPc.of (by decide +kernel) (Nat.le_of_ble_eq_true rfl) rfl ?_
  have yr : yRef Y c j = 0 ∨ yRef Y c j = 1 ∨ yRef Y c j = 2 ∨ yRef Y c j = 3 ∨ yRef Y c j = 4 ∨ yRef Y c j = 5 := by
    unfold yRef
    repeat' split
    all_goals simp
  unfold yDet at hq
  rcases yr with e9 | e9 | e9 | e9 | e9 | e9
  · rw [e9, if_neg (by decide), if_neg (by decide), if_neg (by decide), if_neg (by decide)] at hq
    refine R.aload_n dX13_detail_0 rfl (by first | rfl | exact rfv_rf _) ?_
    refine R.iload_n dX13_detail_1 rfl ?_
    refine R.iload_n dX13_detail_2 rfl ?_
    refine cl_X13_160 rfl rfl (by first | exact Nat.le_of_ble_eq_true rfl | simp [rf_cat, Value.category]) dX13_detail_3 ?_
    refine m_refuses (d := d + 1) hL h hc hM hR hj ?_
    rw [e9]
    refine R.tableOut (tgt := 89) dX13_detail_6 (by decide) (by decide) ?_
    refine R.iconst (v := 0) dX13_detail_89 rfl ?_
    refine WP.ret (ov := some (.int _)) dX13_detail_90 ⟨rfl, _, rfl, by first | rfl | assumption | exact nar_b01 (by assumption)⟩ ?_
    exact hq
  · rw [e9, if_neg (by decide), if_neg (by decide), if_neg (by decide), if_neg (by decide)] at hq
    refine R.aload_n dX13_detail_0 rfl (by first | rfl | exact rfv_rf _) ?_
    refine R.iload_n dX13_detail_1 rfl ?_
    refine R.iload_n dX13_detail_2 rfl ?_
    refine cl_X13_160 rfl rfl (by first | exact Nat.le_of_ble_eq_true rfl | simp [rf_cat, Value.category]) dX13_detail_3 ?_
    refine m_refuses (d := d + 1) hL h hc hM hR hj ?_
    rw [e9]
    refine R.tableOut (tgt := 89) dX13_detail_6 (by decide) (by decide) ?_
    refine R.iconst (v := 0) dX13_detail_89 rfl ?_
    refine WP.ret (ov := some (.int _)) dX13_detail_90 ⟨rfl, _, rfl, by first | rfl | assumption | exact nar_b01 (by assumption)⟩ ?_
    exact hq
  · rw [e9, if_pos rfl] at hq
    refine R.aload_n dX13_detail_0 rfl (by first | rfl | exact rfv_rf _) ?_
    refine R.iload_n dX13_detail_1 rfl ?_
    refine R.iload_n dX13_detail_2 rfl ?_
    refine cl_X13_160 rfl rfl (by first | exact Nat.le_of_ble_eq_true rfl | simp [rf_cat, Value.category]) dX13_detail_3 ?_
    refine m_refuses (d := d + 1) hL h hc hM hR hj ?_
    rw [e9]
    refine R.tableIn (tgt := 36) dX13_detail_6 (by decide) (by decide) rfl (by decide) ?_
    refine R.aload_n dX13_detail_36 rfl (by first | rfl | exact rfv_rf _) ?_
    refine R.iload_n dX13_detail_37 rfl ?_
    refine R.bipush (v := nI 9) dX13_detail_38 (by decide) ?_
    refine cl_X13_68 rfl rfl (by first | exact Nat.le_of_ble_eq_true rfl | simp [rf_cat, Value.category]) dX13_detail_40 ?_
    refine m_of hL (by have := h.t.le; omega) (by omega) ?_
    rw [h.t.p hc]
    refine WP.ret (ov := some (.int _)) dX13_detail_43 ⟨rfl, _, rfl, by first | rfl | assumption | exact nar_b01 (by assumption)⟩ ?_
    exact hq
  · rw [e9, if_neg (by decide), if_pos rfl] at hq
    refine R.aload_n dX13_detail_0 rfl (by first | rfl | exact rfv_rf _) ?_
    refine R.iload_n dX13_detail_1 rfl ?_
    refine R.iload_n dX13_detail_2 rfl ?_
    refine cl_X13_160 rfl rfl (by first | exact Nat.le_of_ble_eq_true rfl | simp [rf_cat, Value.category]) dX13_detail_3 ?_
    refine m_refuses (d := d + 1) hL h hc hM hR hj ?_
    rw [e9]
    refine R.tableIn (tgt := 44) dX13_detail_6 (by decide) (by decide) rfl (by decide) ?_
    refine R.aload_n dX13_detail_44 rfl (by first | rfl | exact rfv_rf _) ?_
    refine R.getS (hL.w) dX13_detail_45 fl_X13_7 (by decide) rfl ?_
    refine R.iconst (v := nI 5) dX13_detail_48 rfl ?_
    refine R.ialdN (k := 5) dX13_detail_49 (by omega) (by show _ < mN M 14 0; rw [hL.n]; omega) ?_
    rw [mI_sWc]
    rw [h.h.2.2.2.2.1]
    refine R.aload_n dX13_detail_50 rfl (by first | rfl | exact rfv_rf _) ?_
    refine R.iload_n dX13_detail_51 rfl ?_
    refine R.bipush (v := nI 12) dX13_detail_52 (by decide) ?_
    refine cl_X13_68 rfl rfl (by first | exact Nat.le_of_ble_eq_true rfl | simp [rf_cat, Value.category]) dX13_detail_54 ?_
    refine m_of hL (by have := h.t.le; omega) (by omega) ?_
    rw [(h.d (by have := h.t.le; omega : c < 16)).1]
    refine R.isub dX13_detail_57 ?_
    refine WP.ret (ov := some (.int _)) dX13_detail_58 ⟨rfl, _, rfl, by first | rfl | assumption | exact nar_b01 (by assumption)⟩ ?_
    exact hq
  · rw [e9, if_neg (by decide), if_neg (by decide), if_pos rfl] at hq
    refine R.aload_n dX13_detail_0 rfl (by first | rfl | exact rfv_rf _) ?_
    refine R.iload_n dX13_detail_1 rfl ?_
    refine R.iload_n dX13_detail_2 rfl ?_
    refine cl_X13_160 rfl rfl (by first | exact Nat.le_of_ble_eq_true rfl | simp [rf_cat, Value.category]) dX13_detail_3 ?_
    refine m_refuses (d := d + 1) hL h hc hM hR hj ?_
    rw [e9]
    refine R.tableIn (tgt := 59) dX13_detail_6 (by decide) (by decide) rfl (by decide) ?_
    refine R.aload_n dX13_detail_59 rfl (by first | rfl | exact rfv_rf _) ?_
    refine R.getS (hL.w) dX13_detail_60 fl_X13_7 (by decide) rfl ?_
    refine R.bipush (v := nI 6) dX13_detail_63 (by decide) ?_
    refine R.ialdN (k := 6) dX13_detail_65 (by omega) (by show _ < mN M 14 0; rw [hL.n]; omega) ?_
    rw [mI_sWc]
    rw [h.h.2.2.2.2.2.1]
    refine R.aload_n dX13_detail_66 rfl (by first | rfl | exact rfv_rf _) ?_
    refine R.iload_n dX13_detail_67 rfl ?_
    refine R.bipush (v := nI 9) dX13_detail_68 (by decide) ?_
    refine cl_X13_154 rfl rfl (by first | exact Nat.le_of_ble_eq_true rfl | simp [rf_cat, Value.category]) dX13_detail_70 ?_
    refine m_ofB hL (by have := h.bl; omega) (by omega) ?_
    rw [(h.bu (by have := h.bl; omega : j < 6)).2.2.1]
    refine R.isub dX13_detail_73 ?_
    refine WP.ret (ov := some (.int _)) dX13_detail_74 ⟨rfl, _, rfl, by first | rfl | assumption | exact nar_b01 (by assumption)⟩ ?_
    exact hq
  · rw [e9, if_neg (by decide), if_neg (by decide), if_neg (by decide), if_pos rfl] at hq
    have hp : ¬ yC Y c 8 ≤ 0 := by
      unfold yRef at e9
      split at e9
      · exact absurd e9 (by decide)
      split at e9
      · split at e9
        · exact absurd e9 (by decide)
        next z8 => exact fun q => z8 (Int32.lt_of_le_of_lt q (np1c hR))
      · exact absurd e9 (by decide)
    refine R.aload_n dX13_detail_0 rfl (by first | rfl | exact rfv_rf _) ?_
    refine R.iload_n dX13_detail_1 rfl ?_
    refine R.iload_n dX13_detail_2 rfl ?_
    refine cl_X13_160 rfl rfl (by first | exact Nat.le_of_ble_eq_true rfl | simp [rf_cat, Value.category]) dX13_detail_3 ?_
    refine m_refuses (d := d + 1) hL h hc hM hR hj ?_
    rw [e9]
    refine R.tableIn (tgt := 75) dX13_detail_6 (by decide) (by decide) rfl (by decide) ?_
    refine R.aload_n dX13_detail_75 rfl (by first | rfl | exact rfv_rf _) ?_
    refine R.iload_n dX13_detail_76 rfl ?_
    refine cl_X13_157 rfl rfl (by first | exact Nat.le_of_ble_eq_true rfl | simp [rf_cat, Value.category]) dX13_detail_77 ?_
    refine m_price hL h hc hM hp ?_
    refine R.aload_n dX13_detail_80 rfl (by first | rfl | exact rfv_rf _) ?_
    refine R.iload_n dX13_detail_81 rfl ?_
    refine R.bipush (v := nI 7) dX13_detail_82 (by decide) ?_
    refine cl_X13_154 rfl rfl (by first | exact Nat.le_of_ble_eq_true rfl | simp [rf_cat, Value.category]) dX13_detail_84 ?_
    refine m_ofB hL (by have := h.bl; omega) (by omega) ?_
    rw [(h.bu (by have := h.bl; omega : j < 6)).1]
    refine R.isub dX13_detail_87 ?_
    refine WP.ret (ov := some (.int _)) dX13_detail_88 ⟨rfl, _, rfl, by first | rfl | assumption | exact nar_b01 (by assumption)⟩ ?_
    exact hq
