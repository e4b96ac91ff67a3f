/-! the model writes a crate -/
theorem bW {M : Mem} {w : Nat → Int32} (hw : mI M 14 0 = w) : sW M w = M := by rw [← hw]; exact sW_id M
theorem atW {d : Nat} {m : MRec} {args : List Value} {M : Mem} {Q : Out → Mem → Prop} {w : Nat → Int32} (hw : mI M 14 0 = w) (k : WPc d m args (sW M w) Q) : WPc d m args M Q := by rw [bW hw] at k; exact k
set_option maxHeartbeats 1000000 in
set_option maxRecDepth 4000 in
theorem m_wrN {d i m b K : Nat} {Y : Yd} {w : Nat → Int32} {M : Mem} {O : List Int32} {v3 : Value} {Q : Out → Mem → Prop} (h : RW Y m b K w) (hL : ML M) (hw : mI M 14 0 = w) (hO : OU M O) (hi : i < m) (hl : O.length + 6 ≤ 390) (kq : ∀ M' L, OU M' (O ++ nmL (yC Y i 1) 6 0) → FO M M' → WP mX13_writes (d + 2) 30 [.ref (rf 11 0), .int (nI i), .int (nI L), v3] [] M' Q) : WP mX13_writes (d + 2) 2 [.ref (rf 11 0), .int (nI i), .int (nI 0), v3] [] M Q := by
  have hm16 := h.t.le
  obtain ⟨L, l1, l2, e0, e1, e2⟩ := (h.n.1 i hi).l
  have key : ∀ (f k : Nat) (O1 : List Int32) (M1 : Mem), k + f = L → ML M1 → mI M1 14 0 = w → OU M1 O1 → FO M M1 → O1.length + f ≤ 395 → (∀ M', OU M' (O1 ++ nmL (yC Y i 1) (6 - k) k) → FO M M' → WP mX13_writes (d + 2) 30 [.ref (rf 11 0), .int (nI i), .int (nI L), v3] [] M' Q) → WP mX13_writes (d + 2) 2 [.ref (rf 11 0), .int (nI i), .int (nI k), v3] [] M1 Q := by
    intro f
    induction f with
    | zero =>
      intro k O1 M1 hk hL1 hw1 O9 F1 hl1 kq
      have ek : k = L := by omega
      subst ek
      rw [nmL_z e2 (6 - k) k (by omega) (Nat.le_refl _), List.append_nil] at kq
      refine R.iload_n dX13_writes_2 rfl ?_
      refine R.aload_n dX13_writes_3 rfl (by first | rfl | exact rfv_rf _) ?_
      refine R.iload_n dX13_writes_4 rfl ?_
      refine R.iconst (v := nI 0) dX13_writes_5 rfl ?_
      refine cl_X13_68 rfl rfl (by first | exact Nat.le_of_ble_eq_true rfl | simp [rf_cat, Value.category]) dX13_writes_6 ?_
      refine atW hw1 (m_of hL1 (by omega) (by omega) ?_)
      rw [bW hw1, Nat.add_zero, e0]
      refine R.geT (tgt := 30) (Int32.le_refl _) dX13_writes_9 (by decide) ?_
      exact kq M1 O9 F1
    | succ f ih =>
      intro k O1 M1 hf hL1 hw1 O9 F1 hl1 kq
      have hk : k < L := by omega
      refine R.iload_n dX13_writes_2 rfl ?_
      refine R.aload_n dX13_writes_3 rfl (by first | rfl | exact rfv_rf _) ?_
      refine R.iload_n dX13_writes_4 rfl ?_
      refine R.iconst (v := nI 0) dX13_writes_5 rfl ?_
      refine cl_X13_68 rfl rfl (by first | exact Nat.le_of_ble_eq_true rfl | simp [rf_cat, Value.category]) dX13_writes_6 ?_
      refine atW hw1 (m_of hL1 (by omega) (by omega) ?_)
      rw [bW hw1, Nat.add_zero, e0]
      refine R.geF (tgt := 30) (nI_ge (show k < L by omega) (by omega)) dX13_writes_9 (by decide) ?_
      refine R.aload_n dX13_writes_12 rfl (by first | rfl | exact rfv_rf _) ?_
      refine R.aload_n dX13_writes_13 rfl (by first | rfl | exact rfv_rf _) ?_
      refine R.iload_n dX13_writes_14 rfl ?_
      refine R.iconst (v := nI 1) dX13_writes_15 rfl ?_
      refine R.iload_n dX13_writes_16 rfl ?_
      refine R.iadd dX13_writes_17 ?_
      rw [nI_1a]
      refine cl_X13_68 rfl rfl (by first | exact Nat.le_of_ble_eq_true rfl | simp [rf_cat, Value.category]) dX13_writes_18 ?_
      refine atW hw1 (m_of hL1 (by omega) (by omega) ?_)
      rw [bW hw1, show 16 + 18 * i + (1 + k) = 16 + 18 * i + 1 + k by omega]
      refine cl_X13_441 rfl rfl (by first | exact Nat.le_of_ble_eq_true rfl | simp [rf_cat, Value.category]) dX13_writes_21 ?_
      refine m_write hL1 O9 (by omega) (fun M2 O2 F2 => ?_)
      refine R.iinc dX13_writes_24 (Nat.le_of_ble_eq_true rfl) (by decide) (by first | rfl | simp [lft, rf_cat]) rfl (inc_nI _) rfl ?_
      refine R.goto (tgt := 2) dX13_writes_27 (by decide) ?_
      have e := e1 k hk
      rw [← e.1] at O2
      refine ih (k + 1) _ M2 (by omega) (hL1.fo F2) (F2.w.trans hw1) O2 (F1.tr F2) (by rw [List.length_append, List.length_cons, List.length_nil]; omega) (fun M3 O3 F3 => kq M3 ?_ F3)
      rw [nmL_at (by omega : k < 6), if_neg (by rw [e.1]; exact e.2), ← List.append_assoc]
      exact O3
  exact key L 0 O M (by omega) hL hw hO (FO.rf M) (by omega) (fun M' O' F' => kq M' L O' F')
theorem ch_at {Y : Yd} {o c : Nat} {t : Int32} (hD : SbD Y) (h : nxP Y o t (some c)) : coF Y 17 (fCh Y o) 0 (nI (nL Y o t)) = nI c := by
  obtain ⟨h1, h2, h3, h4⟩ := h
  have e := nL_s hD (show nxP Y o t (some c) from ⟨h1, h2, h3, h4⟩)
  have pb : ∀ k, pl Y o k ≤ 16 := fun k => sm_le (b := 1) fun _ _ => by split; exact Nat.le_refl _; exact Nat.zero_le _
  have hpos : ∀ k, k < 16 → yP Y k = some o → (0 : Int32).toInt < (yC Y k 6).toInt := fun k hk p => by
    have e : (0 : Int32).toInt = 0 := by decide
    rw [e]; exact hD.1 k hk o p
  have r := coF_y hD (nI (nL Y o t)) 17 0 (Nat.lt_succ_of_le (nG_le Y o 0)) c h1 h2 (hpos c h1 h2) (by rw [e.1]) (fun k hk p' _ r => pl_in hD hk h1 p' h2 ((nI_inj (by have := pb k; omega) (by have := pb c; omega)).mp (r.trans (by rw [e.1]))))
  rw [nL_0 hD] at r
  exact r
theorem nmL_6 (x : Int32) : ∀ f i, (nmL x f i).length ≤ f := by
  intro f
  induction f with
  | zero => intro i; exact Nat.le_refl _
  | succ f ih =>
    intro i
    rw [nmL, List.length_append]
    have := ih (i + 1)
    by_cases z : ltF x (nI i) = -1
    · rw [if_pos z, List.length_nil]; omega
    · rw [if_neg z, List.length_cons, List.length_nil]; omega
set_option maxHeartbeats 1000000 in
set_option maxRecDepth 4000 in
theorem m_wrP {d i m b K g : Nat} {Y : Yd} {w : Nat → Int32} {M : Mem} {O : List Int32} {Q : Out → Mem → Prop} (h : RW Y m b K w) (hA : Acy Y) (hG : LG Y) (hL : ML M) (hw : mI M 14 0 = w) (hO : OU M O) (hi : i < m) (hg : yC Y i 4 = nI g) (hg2 : g < 10000) (hl : O.length ≤ 300) (kq : ∀ M', OU M' (O ++ (nmL (yC Y i 1) 6 0 ++ nI 58 :: dgS g)) → FO M M' → WP mX13_writes (d + 10) 51 [.ref (rf 11 0), .int (nI i), .int (nI (sm (fun c => if yP Y c = some i then 1 else 0) 16)), UN] [] M' Q) : WPc (d + 10) mX13_writes [.ref (rf 11 0), .int (nI i)] M Q := by
  refine WPc.of (by decide +kernel) (Nat.le_of_ble_eq_true rfl) rfl ?_
  have hm16 := h.t.le
  have n6 := nmL_6 (yC Y i 1) 6 0
  refine R.iconst (v := nI 0) dX13_writes_0 rfl ?_
  refine R.istore_n dX13_writes_1 (Nat.le_of_ble_eq_true rfl) (by decide) (by first | rfl | simp [lft, rf_cat]) rfl ?_
  refine m_wrN (d := d + 8) h hL hw hO hi (by omega) (fun M1 L O1 F1 => ?_)
  refine R.aload_n dX13_writes_30 rfl (by first | rfl | exact rfv_rf _) ?_
  refine R.bipush (v := nI 58) dX13_writes_31 (by decide) ?_
  refine cl_X13_441 rfl rfl (by first | exact Nat.le_of_ble_eq_true rfl | simp [rf_cat, Value.category]) dX13_writes_33 ?_
  refine m_write (hL.fo F1) O1 (by rw [List.length_append]; omega) (fun M2 O2 F2 => ?_)
  have F3 := F1.tr F2
  refine R.aload_n dX13_writes_36 rfl (by first | rfl | exact rfv_rf _) ?_
  refine R.aload_n dX13_writes_37 rfl (by first | rfl | exact rfv_rf _) ?_
  refine R.iload_n dX13_writes_38 rfl ?_
  refine cl_X13_82 rfl rfl (by first | exact Nat.le_of_ble_eq_true rfl | simp [rf_cat, Value.category]) dX13_writes_39 ?_
  refine atW (F3.w.trans hw) (m_gr (d := d + 1) (hL.fo F3) h hG hA (by omega) ?_)
  rw [bW (F3.w.trans hw), hg]
  refine cl_X13_438 rfl rfl (by first | exact Nat.le_of_ble_eq_true rfl | simp [rf_cat, Value.category]) dX13_writes_42 ?_
  refine m_wNum (d := d + 4) 4 g _ M2 (hL.fo F3) O2 (by omega) (by omega) (by rw [List.length_append, List.length_append, List.length_cons, List.length_nil]; omega) (fun M4 O4 F4 => ?_)
  have F5 := F3.tr F4
  refine R.aload_n dX13_writes_45 rfl (by first | rfl | exact rfv_rf _) ?_
  refine R.iload_n dX13_writes_46 rfl ?_
  refine cl_X13_401 rfl rfl (by first | exact Nat.le_of_ble_eq_true rfl | simp [rf_cat, Value.category]) dX13_writes_47 ?_
  refine atW (F5.w.trans hw) (m_kids (d := d + 8) (hL.fo F5) h.t (by omega) ?_)
  rw [bW (F5.w.trans hw)]
  refine R.istore_n dX13_writes_50 (Nat.le_of_ble_eq_true rfl) (by decide) (by first | rfl | simp [lft, rf_cat]) rfl ?_
  refine kq M4 ?_ F5
  rw [List.append_assoc, List.append_assoc] at O4
  exact O4
