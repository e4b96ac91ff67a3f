/-! the model writes a crate -/
theorem bW {M : Mem} {w : Nat → Int32} (hw : mI M 14 0 = w) : sW M w = M := by rw [← hw]; exact sW_id M
theorem atW {d : Nat} {m : MRec} {args : List Value} {M : Mem} {Q : Out → Mem → Prop} {w : Nat → Int32} (hw : mI M 14 0 = w) (k : WPc d m args (sW M w) Q) : WPc d m args M Q := by rw [bW hw] at k; exact k
set_option maxHeartbeats 1000000 in
set_option maxRecDepth 4000 in
theorem m_wrN {d i m b K : Nat} {Y : Yd} {w : Nat → Int32} {M : Mem} {O : List Int32} {v3 : Value} {Q : Out → Mem → Prop} (h : RW Y m b K w) (hL : ML M) (hw : mI M 14 0 = w) (hO : OU M O) (hi : i < m) (hl : O.length + 6 ≤ 390) (kq : ∀ M' L, OU M' (O ++ nmL (yC Y i 1) 6 0) → FO M M' → WP mX13_writes (d + 2) 30 [.ref (rf 11 0), .int (nI i), .int (nI L), v3] [] M' Q) : WP mX13_writes (d + 2) 2 [.ref (rf 11 0), .int (nI i), .int (nI 0), v3] [] M Q := by
  have hm16 := h.t.le
  obtain ⟨L, l1, l2, e0, e1, e2⟩ := (h.n.1 i hi).l
  have key : ∀ (f k : Nat) (O1 : List Int32) (M1 : Mem), k + f = L → ML M1 → mI M1 14 0 = w → OU M1 O1 → FO M M1 → O1.length + f ≤ 395 → (∀ M', OU M' (O1 ++ nmL (yC Y i 1) (6 - k) k) → FO M M' → WP mX13_writes (d + 2) 30 [.ref (rf 11 0), .int (nI i), .int (nI L), v3] [] M' Q) → WP mX13_writes (d + 2) 2 [.ref (rf 11 0), .int (nI i), .int (nI k), v3] [] M1 Q := by
    intro f
    induction f with
    | zero =>
      intro k O1 M1 hk hL1 hw1 O9 F1 hl1 kq
      have ek : k = L := by omega
      subst ek
      rw [nmL_z e2 (6 - k) k (by omega) (Nat.le_refl _), List.append_nil] at kq
      refine R.iload_n dX13_writes_2 rfl ?_
      refine R.aload_n dX13_writes_3 rfl (by first | rfl | exact rfv_rf _) ?_
      refine R.iload_n dX13_writes_4 rfl ?_
      refine R.iconst (v := nI 0) dX13_writes_5 rfl ?_
      refine cl_X13_68 rfl rfl (by first | exact Nat.le_of_ble_eq_true rfl | simp [rf_cat, Value.category]) dX13_writes_6 ?_
      refine atW hw1 (m_of hL1 (by omega) (by omega) ?_)
      rw [bW hw1, Nat.add_zero, e0]
      refine R.geT (tgt := 30) (Int32.le_refl _) dX13_writes_9 (by decide) ?_
      exact kq M1 O9 F1
    | succ f ih =>
      intro k O1 M1 hf hL1 hw1 O9 F1 hl1 kq
      have hk : k < L := by omega
      refine R.iload_n dX13_writes_2 rfl ?_
      refine R.aload_n dX13_writes_3 rfl (by first | rfl | exact rfv_rf _) ?_
      refine R.iload_n dX13_writes_4 rfl ?_
      refine R.iconst (v := nI 0) dX13_writes_5 rfl ?_
      refine cl_X13_68 rfl rfl (by first | exact Nat.le_of_ble_eq_true rfl | simp [rf_cat, Value.category]) dX13_writes_6 ?_
      refine atW hw1 (m_of hL1 (by omega) (by omega) ?_)
      rw [bW hw1, Nat.add_zero, e0]
      refine R.geF (tgt := 30) (nI_ge (show k < L by omega) (by omega)) dX13_writes_9 (by decide) ?_
      refine R.aload_n dX13_writes_12 rfl (by first | rfl | exact rfv_rf _) ?_
      refine R.aload_n dX13_writes_13 rfl (by first | rfl | exact rfv_rf _) ?_
      refine R.iload_n dX13_writes_14 rfl ?_
      refine R.iconst (v := nI 1) dX13_writes_15 rfl ?_
      refine R.iload_n dX13_writes_16 rfl ?_
      refine R.iadd dX13_writes_17 ?_
      rw [nI_1a]
      refine cl_X13_68 rfl rfl (by first | exact Nat.le_of_ble_eq_true rfl | simp [rf_cat, Value.category]) dX13_writes_18 ?_
      refine atW hw1 (m_of hL1 (by omega) (by omega) ?_)
      rw [bW hw1, show 16 + 18 * i + (1 + k) = 16 + 18 * i + 1 + k by omega]
      refine cl_X13_441 rfl rfl (by first | exact Nat.le_of_ble_eq_true rfl | simp [rf_cat, Value.category]) dX13_writes_21 ?_
      refine m_write hL1 O9 (by omega) (fun M2 O2 F2 => ?_)
      refine R.iinc dX13_writes_24 (Nat.le_of_ble_eq_true rfl) (by decide) (by first | rfl | simp [lft, rf_cat]) rfl (inc_nI _) rfl ?_
      refine R.goto (tgt := 2) dX13_writes_27 (by decide) ?_
      have e := e1 k hk
      rw [← e.1] at O2
      refine ih (k + 1) _ M2 (by omega) (hL1.fo F2) (F2.w.trans hw1) O2 (F1.tr F2) (by rw [List.length_append, List.length_cons, List.length_nil]; omega) (fun M3 O3 F3 => kq M3 ?_ F3)
      rw [nmL_at (by omega : k < 6), if_neg (by rw [e.1]; exact e.2), ← List.append_assoc]
      exact O3
  exact key L 0 O M (by omega) hL hw hO (FO.rf M) (by omega) (fun M' O' F' => kq M' L O' F')
