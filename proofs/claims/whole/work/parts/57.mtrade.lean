/-! the model's means, prices, refusals -/
/-- a sum that is an int -/
def MO9 (Y : Yd) (c : Nat) : Prop := (yL Y c 9).toInt32.toInt64 = yL Y c 9
section MNS
variable {d c b K m : Nat} {Y : Yd} {w : Nat → Int32} {M : Mem} {Q : Out → Mem → Prop}
theorem m_gr (hL : ML M) (h : RW Y m b K w) (hG : LG Y) (hA : Acy Y) (hc : c < 16) (hq : Q (.inl (some (.int (yC Y c 4)))) (sW M w)) : WPc (d + 8) mX13_gross [.ref (rf 11 0), .int (nI c)] (sW M w) Q :=
  m_gross (d := d) hL h.t hG (fun k hk => by rw [(h.g hk).1, (h.g hk).2.1]) 6 c hc (fun x hx q => by rw [it_6 hA hx] at q; cases q) hq
theorem m_th (hL : ML M) (h : RW Y m b K w) (hc : c < m) (hq : Q (.inl (some (.int (if yC Y c 7 = 0 then 0 else 1)))) (sW M w)) : WPc (d + 1) mX13_isThere [.ref (rf 11 0), .int (nI c)] (sW M w) Q := by
  have hm := h.t.le
  refine m_there hL (by omega) ?_
  rw [(h.g (by omega : c < 16)).2.2]
  by_cases z : yC Y c 7 = 0
  · rw [if_pos z] at hq
    rw [show (if c < m ∧ yC Y c 7 = 0 then (1 : Int32) else 0) = 1 from if_pos ⟨hc, z⟩, if_neg (by decide : ¬ (1 : Int32) = 0)]; exact hq
  · rw [if_neg z] at hq
    rw [show (if c < m ∧ yC Y c 7 = 0 then (1 : Int32) else 0) = 0 from if_neg (fun q => z q.2), if_pos rfl]; exact hq
end MNS
set_option maxHeartbeats 1000000 in
set_option maxRecDepth 4000 in
theorem m_mean {d : Nat} {w : Nat → Int32} {M : Mem} {Q : Out → Mem → Prop} {c b K m : Nat} {Y : Yd} (hL : ML M) (h : RW Y m b K w) (hc : c < m) (hM : MO9 Y c) (hp : ¬ yC Y c 8 ≤ 0) (hq : Q (.inl (some (.int (yMean Y c)))) (sW M w)) : WPc (d + 1) mX13_mean [.ref (rf 11 0), .int (nI c)] (sW M w) Q := by
  refine WPc.of (by decide +kernel) (Nat.le_of_ble_eq_true rfl) rfl ?_
  refine R.aload_n dX13_mean_0 rfl (by first | rfl | exact rfv_rf _) ?_
  refine R.iload_n dX13_mean_1 rfl ?_
  refine R.bipush (v := nI 12) dX13_mean_2 (by decide) ?_
  refine cl_X13_68 rfl rfl (by first | exact Nat.le_of_ble_eq_true rfl | simp [rf_cat, Value.category]) dX13_mean_4 ?_
  refine m_of hL (by have := h.t.le; omega) (by omega) ?_
  rw [(h.d (by have := h.t.le; omega : c < 16)).1]
  refine R.istore_n dX13_mean_7 (Nat.le_of_ble_eq_true rfl) (by decide) (by first | rfl | simp [lft, rf_cat]) rfl ?_
  refine R.ldc2 dX13_mean_8 kl_X13_124 ?_
  refine R.aload_n dX13_mean_11 rfl (by first | rfl | exact rfv_rf _) ?_
  refine R.iload_n dX13_mean_12 rfl ?_
  refine R.bipush (v := nI 13) dX13_mean_13 (by decide) ?_
  refine cl_X13_68 rfl rfl (by first | exact Nat.le_of_ble_eq_true rfl | simp [rf_cat, Value.category]) dX13_mean_15 ?_
  refine m_of hL (by have := h.t.le; omega) (by omega) ?_
  rw [(h.d (by have := h.t.le; omega : c < 16)).2.1]
  refine R.i2l dX13_mean_18 ?_
  refine R.lmul dX13_mean_19 ?_
  refine R.iload_n dX13_mean_20 rfl ?_
  refine R.i2l dX13_mean_21 ?_
  refine R.ladd dX13_mean_22 ?_
  refine R.ldc2 dX13_mean_23 kl_X13_124 ?_
  refine R.iload_n dX13_mean_26 rfl ?_
  refine R.i2l dX13_mean_27 ?_
  refine R.lmul dX13_mean_28 ?_
  refine cl_X13_126 rfl rfl (by first | exact Nat.le_of_ble_eq_true rfl | simp [rf_cat, Value.category]) dX13_mean_29 ?_
  refine s_floorDiv (ne_2n hp) ?_
  refine R.l2i dX13_mean_32 ?_
  refine WP.ret (ov := some (.int _)) dX13_mean_33 ⟨rfl, _, rfl, by first | rfl | assumption | exact nar_b01 (by assumption)⟩ ?_
  rw [show (yL Y c 9).toInt32.toInt64 = yL Y c 9 from hM]
  rw [show yMean Y c = (fdivL (2 * yL Y c 9 + (yC Y c 8).toInt64) (2 * (yC Y c 8).toInt64)).toInt32 from if_neg hp] at hq
  exact hq
set_option maxHeartbeats 1000000 in
set_option maxRecDepth 4000 in
theorem m_off {d : Nat} {w : Nat → Int32} {M : Mem} {Q : Out → Mem → Prop} {c b K m : Nat} {Y : Yd} (hL : ML M) (h : RW Y m b K w) (hc : c < m) (hG : LG Y) (hA : Acy Y) (hM : MO9 Y c) (hp : ¬ yC Y c 8 ≤ 0) (hq : Q (.inl (some (.int (fabs (yErr Y c))))) (sW M w)) : WPc (d + 9) mX13_meanOff [.ref (rf 11 0), .int (nI c)] (sW M w) Q := by
  refine WPc.of (by decide +kernel) (Nat.le_of_ble_eq_true rfl) rfl ?_
  refine R.aload_n dX13_meanOff_0 rfl (by first | rfl | exact rfv_rf _) ?_
  refine R.iload_n dX13_meanOff_1 rfl ?_
  refine cl_X13_130 rfl rfl (by first | exact Nat.le_of_ble_eq_true rfl | simp [rf_cat, Value.category]) dX13_meanOff_2 ?_
  refine m_mean hL h hc hM hp ?_
  refine R.aload_n dX13_meanOff_5 rfl (by first | rfl | exact rfv_rf _) ?_
  refine R.iload_n dX13_meanOff_6 rfl ?_
  refine cl_X13_82 rfl rfl (by first | exact Nat.le_of_ble_eq_true rfl | simp [rf_cat, Value.category]) dX13_meanOff_7 ?_
  refine m_gr (d := d) hL h hG hA (by have := h.t.le; omega) ?_
  refine R.isub dX13_meanOff_10 ?_
  refine cl_X13_133 rfl rfl (by first | exact Nat.le_of_ble_eq_true rfl | simp [rf_cat, Value.category]) dX13_meanOff_11 ?_
  refine s_abs ?_
  refine WP.ret (ov := some (.int _)) dX13_meanOff_14 ⟨rfl, _, rfl, by first | rfl | assumption | exact nar_b01 (by assumption)⟩ ?_
  exact hq
set_option maxHeartbeats 1000000 in
set_option maxRecDepth 4000 in
theorem m_price {d : Nat} {w : Nat → Int32} {M : Mem} {Q : Out → Mem → Prop} {c b K m : Nat} {Y : Yd} (hL : ML M) (h : RW Y m b K w) (hc : c < m) (hM : MO9 Y c) (hp : ¬ yC Y c 8 ≤ 0) (hq : Q (.inl (some (.int (yPrice Y c)))) (sW M w)) : WPc (d + 2) mX13_price [.ref (rf 11 0), .int (nI c)] (sW M w) Q := by
  refine WPc.of (by decide +kernel) (Nat.le_of_ble_eq_true rfl) rfl ?_
  refine R.iconst (v := 0) dX13_price_0 rfl ?_
  refine R.aload_n dX13_price_1 rfl (by first | rfl | exact rfv_rf _) ?_
  refine R.iload_n dX13_price_2 rfl ?_
  refine cl_X13_130 rfl rfl (by first | exact Nat.le_of_ble_eq_true rfl | simp [rf_cat, Value.category]) dX13_price_3 ?_
  refine m_mean hL h hc hM hp ?_
  refine cl_X13_88 rfl rfl (by first | exact Nat.le_of_ble_eq_true rfl | simp [rf_cat, Value.category]) dX13_price_6 ?_
  refine s_max ?_
  refine WP.ret (ov := some (.int _)) dX13_price_9 ⟨rfl, _, rfl, by first | rfl | assumption | exact nar_b01 (by assumption)⟩ ?_
  exact hq
set_option maxHeartbeats 1000000 in
set_option maxRecDepth 4000 in
theorem m_refund {d : Nat} {w : Nat → Int32} {M : Mem} {Q : Out → Mem → Prop} {c b K m j : Nat} {Y : Yd} (hL : ML M) (h : RW Y m b K w) (hc : c < m) (hG : LG Y) (hA : Acy Y) (hM : MO9 Y c) (hp : ¬ yC Y c 8 ≤ 0) (hj : j < b) (hq : Q (.inl (some (.int (fRefund (yB Y j 3) (yErr Y c))))) (sW M w)) : WPc (d + 9) mX13_refund [.ref (rf 11 0), .int (nI c), .int (nI j)] (sW M w) Q := by
  refine WPc.of (by decide +kernel) (Nat.le_of_ble_eq_true rfl) rfl ?_
  by_cases cj : yB Y j 3 < yErr Y c
  · skip
    refine R.aload_n dX13_refund_0 rfl (by first | rfl | exact rfv_rf _) ?_
    refine R.iload_n dX13_refund_1 rfl ?_
    refine cl_X13_130 rfl rfl (by first | exact Nat.le_of_ble_eq_true rfl | simp [rf_cat, Value.category]) dX13_refund_2 ?_
    refine m_mean hL h hc hM hp ?_
    refine R.aload_n dX13_refund_5 rfl (by first | rfl | exact rfv_rf _) ?_
    refine R.iload_n dX13_refund_6 rfl ?_
    refine cl_X13_82 rfl rfl (by first | exact Nat.le_of_ble_eq_true rfl | simp [rf_cat, Value.category]) dX13_refund_7 ?_
    refine m_gr (d := d) hL h hG hA (by have := h.t.le; omega) ?_
    refine R.isub dX13_refund_10 ?_
    refine R.istore_n dX13_refund_11 (Nat.le_of_ble_eq_true rfl) (by decide) (by first | rfl | simp [lft, rf_cat]) rfl ?_
    refine R.iload_n dX13_refund_12 rfl ?_
    refine R.aload_n dX13_refund_13 rfl (by first | rfl | exact rfv_rf _) ?_
    refine R.iload_n dX13_refund_14 rfl ?_
    refine R.bipush (v := nI 8) dX13_refund_15 (by decide) ?_
    refine cl_X13_154 rfl rfl (by first | exact Nat.le_of_ble_eq_true rfl | simp [rf_cat, Value.category]) dX13_refund_17 ?_
    refine m_ofB hL (by have := h.bl; omega) (by omega) ?_
    rw [(h.bu (by have := h.bl; omega : j < 6)).2.1]
    refine R.icmp_le (tgt := 27) dX13_refund_20 (by decide) (fun c9 => absurd c9 (Int32.not_le.mpr cj)) (fun _ => ?_)
    refine R.iload_n dX13_refund_23 rfl ?_
    refine R.goto (tgt := 28) dX13_refund_24 (by decide) ?_
    refine WP.ret (ov := some (.int _)) dX13_refund_28 ⟨rfl, _, rfl, by first | rfl | assumption | exact nar_b01 (by assumption)⟩ ?_
    rw [show fRefund (yB Y j 3) (yErr Y c) = yErr Y c from if_pos cj] at hq
    exact hq
  · skip
    refine R.aload_n dX13_refund_0 rfl (by first | rfl | exact rfv_rf _) ?_
    refine R.iload_n dX13_refund_1 rfl ?_
    refine cl_X13_130 rfl rfl (by first | exact Nat.le_of_ble_eq_true rfl | simp [rf_cat, Value.category]) dX13_refund_2 ?_
    refine m_mean hL h hc hM hp ?_
    refine R.aload_n dX13_refund_5 rfl (by first | rfl | exact rfv_rf _) ?_
    refine R.iload_n dX13_refund_6 rfl ?_
    refine cl_X13_82 rfl rfl (by first | exact Nat.le_of_ble_eq_true rfl | simp [rf_cat, Value.category]) dX13_refund_7 ?_
    refine m_gr (d := d) hL h hG hA (by have := h.t.le; omega) ?_
    refine R.isub dX13_refund_10 ?_
    refine R.istore_n dX13_refund_11 (Nat.le_of_ble_eq_true rfl) (by decide) (by first | rfl | simp [lft, rf_cat]) rfl ?_
    refine R.iload_n dX13_refund_12 rfl ?_
    refine R.aload_n dX13_refund_13 rfl (by first | rfl | exact rfv_rf _) ?_
    refine R.iload_n dX13_refund_14 rfl ?_
    refine R.bipush (v := nI 8) dX13_refund_15 (by decide) ?_
    refine cl_X13_154 rfl rfl (by first | exact Nat.le_of_ble_eq_true rfl | simp [rf_cat, Value.category]) dX13_refund_17 ?_
    refine m_ofB hL (by have := h.bl; omega) (by omega) ?_
    rw [(h.bu (by have := h.bl; omega : j < 6)).2.1]
    refine R.icmp_le (tgt := 27) dX13_refund_20 (by decide) (fun _ => ?_) (fun c9 => absurd (Int32.not_lt.mp cj) c9)
    refine R.iconst (v := 0) dX13_refund_27 rfl ?_
    refine WP.ret (ov := some (.int _)) dX13_refund_28 ⟨rfl, _, rfl, by first | rfl | assumption | exact nar_b01 (by assumption)⟩ ?_
    rw [show fRefund (yB Y j 3) (yErr Y c) = 0 from if_neg cj] at hq
    exact hq
set_option maxHeartbeats 1000000 in
set_option maxRecDepth 4000 in
theorem m_trust {d : Nat} {w : Nat → Int32} {M : Mem} {Q : Out → Mem → Prop} {c b K m j : Nat} {Y : Yd} (hL : ML M) (h : RW Y m b K w) (hc : c < m) (hG : LG Y) (hA : Acy Y) (hM : MO9 Y c) (hp : ¬ yC Y c 8 ≤ 0) (hj : j < b) (hq : Q (.inl (some (.int (fTrust (yB Y j 4) (yB Y j 3) (yErr Y c))))) (sW M w)) : WPc (d + 10) mX13_trustThen [.ref (rf 11 0), .int (nI c), .int (nI j)] (sW M w) Q := by
  refine WPc.of (by decide +kernel) (Nat.le_of_ble_eq_true rfl) rfl ?_
  by_cases cj : fabs (yErr Y c) - yB Y j 3 ≤ 0
  · skip
    refine R.aload_n dX13_trustThen_0 rfl (by first | rfl | exact rfv_rf _) ?_
    refine R.iload_n dX13_trustThen_1 rfl ?_
    refine R.bipush (v := nI 9) dX13_trustThen_2 (by decide) ?_
    refine cl_X13_154 rfl rfl (by first | exact Nat.le_of_ble_eq_true rfl | simp [rf_cat, Value.category]) dX13_trustThen_4 ?_
    refine m_ofB hL (by have := h.bl; omega) (by omega) ?_
    rw [(h.bu (by have := h.bl; omega : j < 6)).2.2.1]
    refine R.istore_n dX13_trustThen_7 (Nat.le_of_ble_eq_true rfl) (by decide) (by first | rfl | simp [lft, rf_cat]) rfl ?_
    refine R.aload_n dX13_trustThen_8 rfl (by first | rfl | exact rfv_rf _) ?_
    refine R.iload_n dX13_trustThen_9 rfl ?_
    refine cl_X13_163 rfl rfl (by first | exact Nat.le_of_ble_eq_true rfl | simp [rf_cat, Value.category]) dX13_trustThen_10 ?_
    refine m_off (d := d) hL h hc hG hA hM hp ?_
    refine R.aload_n dX13_trustThen_13 rfl (by first | rfl | exact rfv_rf _) ?_
    refine R.iload_n dX13_trustThen_14 rfl ?_
    refine R.bipush (v := nI 8) dX13_trustThen_15 (by decide) ?_
    refine cl_X13_154 rfl rfl (by first | exact Nat.le_of_ble_eq_true rfl | simp [rf_cat, Value.category]) dX13_trustThen_17 ?_
    refine m_ofB hL (by have := h.bl; omega) (by omega) ?_
    rw [(h.bu (by have := h.bl; omega : j < 6)).2.1]
    refine R.isub dX13_trustThen_20 ?_
    refine R.istore dX13_trustThen_21 (Nat.le_of_ble_eq_true rfl) (by decide) (by first | rfl | simp [lft, rf_cat]) rfl ?_
    refine R.iload dX13_trustThen_23 rfl ?_
    refine R.if_gt (tgt := 39) dX13_trustThen_25 (by decide) (fun c9 => absurd c9 (Int32.not_lt.mpr cj)) (fun _ => ?_)
    refine R.bipush (v := 100) dX13_trustThen_28 (by decide) ?_
    refine R.iload_n dX13_trustThen_30 rfl ?_
    refine R.iconst (v := 5) dX13_trustThen_31 rfl ?_
    refine R.iadd dX13_trustThen_32 ?_
    refine cl_X13_166 rfl rfl (by first | exact Nat.le_of_ble_eq_true rfl | simp [rf_cat, Value.category]) dX13_trustThen_33 ?_
    refine s_min ?_
    refine R.goto (tgt := 47) dX13_trustThen_36 (by decide) ?_
    refine WP.ret (ov := some (.int _)) dX13_trustThen_47 ⟨rfl, _, rfl, by first | rfl | assumption | exact nar_b01 (by assumption)⟩ ?_
    rw [show fTrust (yB Y j 4) (yB Y j 3) (yErr Y c) = _ from if_pos cj] at hq
    exact hq
  · skip
    refine R.aload_n dX13_trustThen_0 rfl (by first | rfl | exact rfv_rf _) ?_
    refine R.iload_n dX13_trustThen_1 rfl ?_
    refine R.bipush (v := nI 9) dX13_trustThen_2 (by decide) ?_
    refine cl_X13_154 rfl rfl (by first | exact Nat.le_of_ble_eq_true rfl | simp [rf_cat, Value.category]) dX13_trustThen_4 ?_
    refine m_ofB hL (by have := h.bl; omega) (by omega) ?_
    rw [(h.bu (by have := h.bl; omega : j < 6)).2.2.1]
    refine R.istore_n dX13_trustThen_7 (Nat.le_of_ble_eq_true rfl) (by decide) (by first | rfl | simp [lft, rf_cat]) rfl ?_
    refine R.aload_n dX13_trustThen_8 rfl (by first | rfl | exact rfv_rf _) ?_
    refine R.iload_n dX13_trustThen_9 rfl ?_
    refine cl_X13_163 rfl rfl (by first | exact Nat.le_of_ble_eq_true rfl | simp [rf_cat, Value.category]) dX13_trustThen_10 ?_
    refine m_off (d := d) hL h hc hG hA hM hp ?_
    refine R.aload_n dX13_trustThen_13 rfl (by first | rfl | exact rfv_rf _) ?_
    refine R.iload_n dX13_trustThen_14 rfl ?_
    refine R.bipush (v := nI 8) dX13_trustThen_15 (by decide) ?_
    refine cl_X13_154 rfl rfl (by first | exact Nat.le_of_ble_eq_true rfl | simp [rf_cat, Value.category]) dX13_trustThen_17 ?_
    refine m_ofB hL (by have := h.bl; omega) (by omega) ?_
    rw [(h.bu (by have := h.bl; omega : j < 6)).2.1]
    refine R.isub dX13_trustThen_20 ?_
    refine R.istore dX13_trustThen_21 (Nat.le_of_ble_eq_true rfl) (by decide) (by first | rfl | simp [lft, rf_cat]) rfl ?_
    refine R.iload dX13_trustThen_23 rfl ?_
    refine R.if_gt (tgt := 39) dX13_trustThen_25 (by decide) (fun _ => ?_) (fun c9 => absurd (Int32.not_le.mp cj) c9)
    refine R.iconst (v := 0) dX13_trustThen_39 rfl ?_
    refine R.iload_n dX13_trustThen_40 rfl ?_
    refine R.iload dX13_trustThen_41 rfl ?_
    refine R.isub dX13_trustThen_43 ?_
    refine cl_X13_88 rfl rfl (by first | exact Nat.le_of_ble_eq_true rfl | simp [rf_cat, Value.category]) dX13_trustThen_44 ?_
    refine s_max ?_
    refine WP.ret (ov := some (.int _)) dX13_trustThen_47 ⟨rfl, _, rfl, by first | rfl | assumption | exact nar_b01 (by assumption)⟩ ?_
    rw [show fTrust (yB Y j 4) (yB Y j 3) (yErr Y c) = _ from if_neg cj] at hq
    exact hq
theorem np1c {x : Int32} (h : 1 ≤ x) : 0 < x := by
  rw [Int32.le_iff_toInt_le] at h
  rw [Int32.lt_iff_toInt_lt]
  have e1 : (1 : Int32).toInt = 1 := by decide
  have e0 : (0 : Int32).toInt = 0 := by decide
  omega
set_option maxHeartbeats 1000000 in
set_option maxRecDepth 4000 in
theorem m_refuses {d : Nat} {w : Nat → Int32} {M : Mem} {Q : Out → Mem → Prop} {c b K m j : Nat} {Y : Yd} (hL : ML M) (h : RW Y m b K w) (hc : c < m) (hM : MO9 Y c) (hR : 1 ≤ yF Y 6) (hj : j < b) (hq : Q (.inl (some (.int (yRef Y c j)))) (sW M w)) : WPc (d + 3) mX13_refuses [.ref (rf 11 0), .int (nI c), .int (nI j)] (sW M w) Q := by
  refine WPc.of (by decide +kernel) (Nat.le_of_ble_eq_true rfl) rfl ?_
  by_cases z7 : yC Y c 7 = 0
  · rw [show yRef Y c j = 1 from if_pos z7] at hq
    refine R.aload_n dX13_refuses_0 rfl (by first | rfl | exact rfv_rf _) ?_
    refine R.iload_n dX13_refuses_1 rfl ?_
    refine cl_X13_136 rfl rfl (by first | exact Nat.le_of_ble_eq_true rfl | simp [rf_cat, Value.category]) dX13_refuses_2 ?_
    refine m_th hL h hc ?_
    rw [if_pos z7]
    refine R.if_ne (tgt := 10) dX13_refuses_5 (by decide) (fun c9 => absurd (by decide) c9) (fun _ => ?_)
    refine R.iconst (v := 1) dX13_refuses_8 rfl ?_
    refine WP.ret (ov := some (.int _)) dX13_refuses_9 ⟨rfl, _, rfl, by first | rfl | assumption | exact nar_b01 (by assumption)⟩ ?_
    exact hq
  by_cases zP : yP Y c = none
  rotate_left
  · rw [show yRef Y c j = 2 from (if_neg z7).trans (if_neg zP)] at hq
    have zQ : ¬ px (yP Y c) = -1 := fun q => by
      cases e : yP Y c with
      | none => exact zP e
      | some i => rw [e] at q; exact absurd q (nI_m1 (by have := (h.t.2.2.2 c i (by have := h.t.le; omega) e).2; have := h.t.le; omega))
    refine R.aload_n dX13_refuses_0 rfl (by first | rfl | exact rfv_rf _) ?_
    refine R.iload_n dX13_refuses_1 rfl ?_
    refine cl_X13_136 rfl rfl (by first | exact Nat.le_of_ble_eq_true rfl | simp [rf_cat, Value.category]) dX13_refuses_2 ?_
    refine m_th hL h hc ?_
    rw [if_neg z7]
    refine R.if_ne (tgt := 10) dX13_refuses_5 (by decide) (fun _ => ?_) (fun c9 => absurd c9 (by decide))
    refine R.aload_n dX13_refuses_10 rfl (by first | rfl | exact rfv_rf _) ?_
    refine R.iload_n dX13_refuses_11 rfl ?_
    refine R.bipush (v := nI 9) dX13_refuses_12 (by decide) ?_
    refine cl_X13_68 rfl rfl (by first | exact Nat.le_of_ble_eq_true rfl | simp [rf_cat, Value.category]) dX13_refuses_14 ?_
    refine m_of hL (by have := h.t.le; omega) (by omega) ?_
    rw [h.t.p hc, pIx_e]
    refine R.iconst (v := (-1)) dX13_refuses_17 rfl ?_
    refine R.icmp_eq (tgt := 23) dX13_refuses_18 (by decide) (fun c9 => absurd c9 (zQ)) (fun _ => ?_)
    refine R.iconst (v := 2) dX13_refuses_21 rfl ?_
    refine WP.ret (ov := some (.int _)) dX13_refuses_22 ⟨rfl, _, rfl, by first | rfl | assumption | exact nar_b01 (by assumption)⟩ ?_
    exact hq
  by_cases z8 : yC Y c 8 < yF Y 6
  · rw [show yRef Y c j = 3 from (if_neg z7).trans ((if_pos zP).trans (if_pos z8))] at hq
    refine R.aload_n dX13_refuses_0 rfl (by first | rfl | exact rfv_rf _) ?_
    refine R.iload_n dX13_refuses_1 rfl ?_
    refine cl_X13_136 rfl rfl (by first | exact Nat.le_of_ble_eq_true rfl | simp [rf_cat, Value.category]) dX13_refuses_2 ?_
    refine m_th hL h hc ?_
    rw [if_neg z7]
    refine R.if_ne (tgt := 10) dX13_refuses_5 (by decide) (fun _ => ?_) (fun c9 => absurd c9 (by decide))
    refine R.aload_n dX13_refuses_10 rfl (by first | rfl | exact rfv_rf _) ?_
    refine R.iload_n dX13_refuses_11 rfl ?_
    refine R.bipush (v := nI 9) dX13_refuses_12 (by decide) ?_
    refine cl_X13_68 rfl rfl (by first | exact Nat.le_of_ble_eq_true rfl | simp [rf_cat, Value.category]) dX13_refuses_14 ?_
    refine m_of hL (by have := h.t.le; omega) (by omega) ?_
    rw [h.t.p hc, pIx_e]
    refine R.iconst (v := (-1)) dX13_refuses_17 rfl ?_
    refine R.icmp_eq (tgt := 23) dX13_refuses_18 (by decide) (fun _ => ?_) (fun c9 => absurd (by rw [zP]; rfl) c9)
    refine R.aload_n dX13_refuses_23 rfl (by first | rfl | exact rfv_rf _) ?_
    refine R.iload_n dX13_refuses_24 rfl ?_
    refine R.bipush (v := nI 12) dX13_refuses_25 (by decide) ?_
    refine cl_X13_68 rfl rfl (by first | exact Nat.le_of_ble_eq_true rfl | simp [rf_cat, Value.category]) dX13_refuses_27 ?_
    refine m_of hL (by have := h.t.le; omega) (by omega) ?_
    rw [(h.d (by have := h.t.le; omega : c < 16)).1]
    refine R.aload_n dX13_refuses_30 rfl (by first | rfl | exact rfv_rf _) ?_
    refine R.getS (hL.w) dX13_refuses_31 fl_X13_7 (by decide) rfl ?_
    refine R.iconst (v := nI 5) dX13_refuses_34 rfl ?_
    refine R.ialdN (k := 5) dX13_refuses_35 (by omega) (by show _ < mN M 14 0; rw [hL.n]; omega) ?_
    rw [mI_sWc]
    rw [h.h.2.2.2.2.1]
    refine R.icmp_ge (tgt := 41) dX13_refuses_36 (by decide) (fun c9 => absurd c9 (Int32.not_le.mpr z8)) (fun _ => ?_)
    refine R.iconst (v := 3) dX13_refuses_39 rfl ?_
    refine WP.ret (ov := some (.int _)) dX13_refuses_40 ⟨rfl, _, rfl, by first | rfl | assumption | exact nar_b01 (by assumption)⟩ ?_
    exact hq
  by_cases z4 : yB Y j 4 < yF Y 7
  · rw [show yRef Y c j = 4 from (if_neg z7).trans ((if_pos zP).trans ((if_neg z8).trans (if_pos z4)))] at hq
    refine R.aload_n dX13_refuses_0 rfl (by first | rfl | exact rfv_rf _) ?_
    refine R.iload_n dX13_refuses_1 rfl ?_
    refine cl_X13_136 rfl rfl (by first | exact Nat.le_of_ble_eq_true rfl | simp [rf_cat, Value.category]) dX13_refuses_2 ?_
    refine m_th hL h hc ?_
    rw [if_neg z7]
    refine R.if_ne (tgt := 10) dX13_refuses_5 (by decide) (fun _ => ?_) (fun c9 => absurd c9 (by decide))
    refine R.aload_n dX13_refuses_10 rfl (by first | rfl | exact rfv_rf _) ?_
    refine R.iload_n dX13_refuses_11 rfl ?_
    refine R.bipush (v := nI 9) dX13_refuses_12 (by decide) ?_
    refine cl_X13_68 rfl rfl (by first | exact Nat.le_of_ble_eq_true rfl | simp [rf_cat, Value.category]) dX13_refuses_14 ?_
    refine m_of hL (by have := h.t.le; omega) (by omega) ?_
    rw [h.t.p hc, pIx_e]
    refine R.iconst (v := (-1)) dX13_refuses_17 rfl ?_
    refine R.icmp_eq (tgt := 23) dX13_refuses_18 (by decide) (fun _ => ?_) (fun c9 => absurd (by rw [zP]; rfl) c9)
    refine R.aload_n dX13_refuses_23 rfl (by first | rfl | exact rfv_rf _) ?_
    refine R.iload_n dX13_refuses_24 rfl ?_
    refine R.bipush (v := nI 12) dX13_refuses_25 (by decide) ?_
    refine cl_X13_68 rfl rfl (by first | exact Nat.le_of_ble_eq_true rfl | simp [rf_cat, Value.category]) dX13_refuses_27 ?_
    refine m_of hL (by have := h.t.le; omega) (by omega) ?_
    rw [(h.d (by have := h.t.le; omega : c < 16)).1]
    refine R.aload_n dX13_refuses_30 rfl (by first | rfl | exact rfv_rf _) ?_
    refine R.getS (hL.w) dX13_refuses_31 fl_X13_7 (by decide) rfl ?_
    refine R.iconst (v := nI 5) dX13_refuses_34 rfl ?_
    refine R.ialdN (k := 5) dX13_refuses_35 (by omega) (by show _ < mN M 14 0; rw [hL.n]; omega) ?_
    rw [mI_sWc]
    rw [h.h.2.2.2.2.1]
    refine R.icmp_ge (tgt := 41) dX13_refuses_36 (by decide) (fun _ => ?_) (fun c9 => absurd (Int32.not_lt.mp z8) c9)
    refine R.aload_n dX13_refuses_41 rfl (by first | rfl | exact rfv_rf _) ?_
    refine R.iload_n dX13_refuses_42 rfl ?_
    refine R.bipush (v := nI 9) dX13_refuses_43 (by decide) ?_
    refine cl_X13_154 rfl rfl (by first | exact Nat.le_of_ble_eq_true rfl | simp [rf_cat, Value.category]) dX13_refuses_45 ?_
    refine m_ofB hL (by have := h.bl; omega) (by omega) ?_
    rw [(h.bu (by have := h.bl; omega : j < 6)).2.2.1]
    refine R.aload_n dX13_refuses_48 rfl (by first | rfl | exact rfv_rf _) ?_
    refine R.getS (hL.w) dX13_refuses_49 fl_X13_7 (by decide) rfl ?_
    refine R.bipush (v := nI 6) dX13_refuses_52 (by decide) ?_
    refine R.ialdN (k := 6) dX13_refuses_54 (by omega) (by show _ < mN M 14 0; rw [hL.n]; omega) ?_
    rw [mI_sWc]
    rw [h.h.2.2.2.2.2.1]
    refine R.icmp_ge (tgt := 60) dX13_refuses_55 (by decide) (fun c9 => absurd c9 (Int32.not_le.mpr z4)) (fun _ => ?_)
    refine R.iconst (v := 4) dX13_refuses_58 rfl ?_
    refine WP.ret (ov := some (.int _)) dX13_refuses_59 ⟨rfl, _, rfl, by first | rfl | assumption | exact nar_b01 (by assumption)⟩ ?_
    exact hq
  by_cases z5 : yB Y j 2 < yPrice Y c
  · rw [show yRef Y c j = 5 from (if_neg z7).trans ((if_pos zP).trans ((if_neg z8).trans ((if_neg z4).trans (if_pos z5))))] at hq
    refine R.aload_n dX13_refuses_0 rfl (by first | rfl | exact rfv_rf _) ?_
    refine R.iload_n dX13_refuses_1 rfl ?_
    refine cl_X13_136 rfl rfl (by first | exact Nat.le_of_ble_eq_true rfl | simp [rf_cat, Value.category]) dX13_refuses_2 ?_
    refine m_th hL h hc ?_
    rw [if_neg z7]
    refine R.if_ne (tgt := 10) dX13_refuses_5 (by decide) (fun _ => ?_) (fun c9 => absurd c9 (by decide))
    refine R.aload_n dX13_refuses_10 rfl (by first | rfl | exact rfv_rf _) ?_
    refine R.iload_n dX13_refuses_11 rfl ?_
    refine R.bipush (v := nI 9) dX13_refuses_12 (by decide) ?_
    refine cl_X13_68 rfl rfl (by first | exact Nat.le_of_ble_eq_true rfl | simp [rf_cat, Value.category]) dX13_refuses_14 ?_
    refine m_of hL (by have := h.t.le; omega) (by omega) ?_
    rw [h.t.p hc, pIx_e]
    refine R.iconst (v := (-1)) dX13_refuses_17 rfl ?_
    refine R.icmp_eq (tgt := 23) dX13_refuses_18 (by decide) (fun _ => ?_) (fun c9 => absurd (by rw [zP]; rfl) c9)
    refine R.aload_n dX13_refuses_23 rfl (by first | rfl | exact rfv_rf _) ?_
    refine R.iload_n dX13_refuses_24 rfl ?_
    refine R.bipush (v := nI 12) dX13_refuses_25 (by decide) ?_
    refine cl_X13_68 rfl rfl (by first | exact Nat.le_of_ble_eq_true rfl | simp [rf_cat, Value.category]) dX13_refuses_27 ?_
    refine m_of hL (by have := h.t.le; omega) (by omega) ?_
    rw [(h.d (by have := h.t.le; omega : c < 16)).1]
    refine R.aload_n dX13_refuses_30 rfl (by first | rfl | exact rfv_rf _) ?_
    refine R.getS (hL.w) dX13_refuses_31 fl_X13_7 (by decide) rfl ?_
    refine R.iconst (v := nI 5) dX13_refuses_34 rfl ?_
    refine R.ialdN (k := 5) dX13_refuses_35 (by omega) (by show _ < mN M 14 0; rw [hL.n]; omega) ?_
    rw [mI_sWc]
    rw [h.h.2.2.2.2.1]
    refine R.icmp_ge (tgt := 41) dX13_refuses_36 (by decide) (fun _ => ?_) (fun c9 => absurd (Int32.not_lt.mp z8) c9)
    refine R.aload_n dX13_refuses_41 rfl (by first | rfl | exact rfv_rf _) ?_
    refine R.iload_n dX13_refuses_42 rfl ?_
    refine R.bipush (v := nI 9) dX13_refuses_43 (by decide) ?_
    refine cl_X13_154 rfl rfl (by first | exact Nat.le_of_ble_eq_true rfl | simp [rf_cat, Value.category]) dX13_refuses_45 ?_
    refine m_ofB hL (by have := h.bl; omega) (by omega) ?_
    rw [(h.bu (by have := h.bl; omega : j < 6)).2.2.1]
    refine R.aload_n dX13_refuses_48 rfl (by first | rfl | exact rfv_rf _) ?_
    refine R.getS (hL.w) dX13_refuses_49 fl_X13_7 (by decide) rfl ?_
    refine R.bipush (v := nI 6) dX13_refuses_52 (by decide) ?_
    refine R.ialdN (k := 6) dX13_refuses_54 (by omega) (by show _ < mN M 14 0; rw [hL.n]; omega) ?_
    rw [mI_sWc]
    rw [h.h.2.2.2.2.2.1]
    refine R.icmp_ge (tgt := 60) dX13_refuses_55 (by decide) (fun _ => ?_) (fun c9 => absurd (Int32.not_lt.mp z4) c9)
    refine R.aload_n dX13_refuses_60 rfl (by first | rfl | exact rfv_rf _) ?_
    refine R.iload_n dX13_refuses_61 rfl ?_
    refine cl_X13_157 rfl rfl (by first | exact Nat.le_of_ble_eq_true rfl | simp [rf_cat, Value.category]) dX13_refuses_62 ?_
    refine m_price hL h hc hM (fun q => z8 (Int32.lt_of_le_of_lt q (np1c hR))) ?_
    refine R.aload_n dX13_refuses_65 rfl (by first | rfl | exact rfv_rf _) ?_
    refine R.iload_n dX13_refuses_66 rfl ?_
    refine R.bipush (v := nI 7) dX13_refuses_67 (by decide) ?_
    refine cl_X13_154 rfl rfl (by first | exact Nat.le_of_ble_eq_true rfl | simp [rf_cat, Value.category]) dX13_refuses_69 ?_
    refine m_ofB hL (by have := h.bl; omega) (by omega) ?_
    rw [(h.bu (by have := h.bl; omega : j < 6)).1]
    refine R.icmp_le (tgt := 79) dX13_refuses_72 (by decide) (fun c9 => absurd c9 (Int32.not_le.mpr z5)) (fun _ => ?_)
    refine R.iconst (v := 5) dX13_refuses_75 rfl ?_
    refine R.goto (tgt := 80) dX13_refuses_76 (by decide) ?_
    refine WP.ret (ov := some (.int _)) dX13_refuses_80 ⟨rfl, _, rfl, by first | rfl | assumption | exact nar_b01 (by assumption)⟩ ?_
    exact hq
  · rw [show yRef Y c j = 0 from (if_neg z7).trans ((if_pos zP).trans ((if_neg z8).trans ((if_neg z4).trans (if_neg z5))))] at hq
    refine R.aload_n dX13_refuses_0 rfl (by first | rfl | exact rfv_rf _) ?_
    refine R.iload_n dX13_refuses_1 rfl ?_
    refine cl_X13_136 rfl rfl (by first | exact Nat.le_of_ble_eq_true rfl | simp [rf_cat, Value.category]) dX13_refuses_2 ?_
    refine m_th hL h hc ?_
    rw [if_neg z7]
    refine R.if_ne (tgt := 10) dX13_refuses_5 (by decide) (fun _ => ?_) (fun c9 => absurd c9 (by decide))
    refine R.aload_n dX13_refuses_10 rfl (by first | rfl | exact rfv_rf _) ?_
    refine R.iload_n dX13_refuses_11 rfl ?_
    refine R.bipush (v := nI 9) dX13_refuses_12 (by decide) ?_
    refine cl_X13_68 rfl rfl (by first | exact Nat.le_of_ble_eq_true rfl | simp [rf_cat, Value.category]) dX13_refuses_14 ?_
    refine m_of hL (by have := h.t.le; omega) (by omega) ?_
    rw [h.t.p hc, pIx_e]
    refine R.iconst (v := (-1)) dX13_refuses_17 rfl ?_
    refine R.icmp_eq (tgt := 23) dX13_refuses_18 (by decide) (fun _ => ?_) (fun c9 => absurd (by rw [zP]; rfl) c9)
    refine R.aload_n dX13_refuses_23 rfl (by first | rfl | exact rfv_rf _) ?_
    refine R.iload_n dX13_refuses_24 rfl ?_
    refine R.bipush (v := nI 12) dX13_refuses_25 (by decide) ?_
    refine cl_X13_68 rfl rfl (by first | exact Nat.le_of_ble_eq_true rfl | simp [rf_cat, Value.category]) dX13_refuses_27 ?_
    refine m_of hL (by have := h.t.le; omega) (by omega) ?_
    rw [(h.d (by have := h.t.le; omega : c < 16)).1]
    refine R.aload_n dX13_refuses_30 rfl (by first | rfl | exact rfv_rf _) ?_
    refine R.getS (hL.w) dX13_refuses_31 fl_X13_7 (by decide) rfl ?_
    refine R.iconst (v := nI 5) dX13_refuses_34 rfl ?_
    refine R.ialdN (k := 5) dX13_refuses_35 (by omega) (by show _ < mN M 14 0; rw [hL.n]; omega) ?_
    rw [mI_sWc]
    rw [h.h.2.2.2.2.1]
    refine R.icmp_ge (tgt := 41) dX13_refuses_36 (by decide) (fun _ => ?_) (fun c9 => absurd (Int32.not_lt.mp z8) c9)
    refine R.aload_n dX13_refuses_41 rfl (by first | rfl | exact rfv_rf _) ?_
    refine R.iload_n dX13_refuses_42 rfl ?_
    refine R.bipush (v := nI 9) dX13_refuses_43 (by decide) ?_
    refine cl_X13_154 rfl rfl (by first | exact Nat.le_of_ble_eq_true rfl | simp [rf_cat, Value.category]) dX13_refuses_45 ?_
    refine m_ofB hL (by have := h.bl; omega) (by omega) ?_
    rw [(h.bu (by have := h.bl; omega : j < 6)).2.2.1]
    refine R.aload_n dX13_refuses_48 rfl (by first | rfl | exact rfv_rf _) ?_
    refine R.getS (hL.w) dX13_refuses_49 fl_X13_7 (by decide) rfl ?_
    refine R.bipush (v := nI 6) dX13_refuses_52 (by decide) ?_
    refine R.ialdN (k := 6) dX13_refuses_54 (by omega) (by show _ < mN M 14 0; rw [hL.n]; omega) ?_
    rw [mI_sWc]
    rw [h.h.2.2.2.2.2.1]
    refine R.icmp_ge (tgt := 60) dX13_refuses_55 (by decide) (fun _ => ?_) (fun c9 => absurd (Int32.not_lt.mp z4) c9)
    refine R.aload_n dX13_refuses_60 rfl (by first | rfl | exact rfv_rf _) ?_
    refine R.iload_n dX13_refuses_61 rfl ?_
    refine cl_X13_157 rfl rfl (by first | exact Nat.le_of_ble_eq_true rfl | simp [rf_cat, Value.category]) dX13_refuses_62 ?_
    refine m_price hL h hc hM (fun q => z8 (Int32.lt_of_le_of_lt q (np1c hR))) ?_
    refine R.aload_n dX13_refuses_65 rfl (by first | rfl | exact rfv_rf _) ?_
    refine R.iload_n dX13_refuses_66 rfl ?_
    refine R.bipush (v := nI 7) dX13_refuses_67 (by decide) ?_
    refine cl_X13_154 rfl rfl (by first | exact Nat.le_of_ble_eq_true rfl | simp [rf_cat, Value.category]) dX13_refuses_69 ?_
    refine m_ofB hL (by have := h.bl; omega) (by omega) ?_
    rw [(h.bu (by have := h.bl; omega : j < 6)).1]
    refine R.icmp_le (tgt := 79) dX13_refuses_72 (by decide) (fun _ => ?_) (fun c9 => absurd (Int32.not_lt.mp z5) c9)
    refine R.iconst (v := 0) dX13_refuses_79 rfl ?_
    refine WP.ret (ov := some (.int _)) dX13_refuses_80 ⟨rfl, _, rfl, by first | rfl | assumption | exact nar_b01 (by assumption)⟩ ?_
    exact hq
