/-! the model writes a crate and what is in it -/
set_option maxHeartbeats 2000000 in
set_option maxRecDepth 4000 in
theorem m_wrC {d m b K n i : Nat} {Y : Yd} {w : Nat → Int32} {M : Mem} {Q : Out → Mem → Prop} (h : RW Y m b K w) (hD : SbD Y) (hi16 : i < 16) (hn : nG Y i 0 ≤ 16) (ihn : ∀ c, c < m → (∀ x, x < 16 → itO (yP Y) (n + 1) (some x) ≠ some c) → ∀ (O : List Int32) (M : Mem), ML M → mI M 14 0 = w → OU M O → O.length + (wrF Y n c).length ≤ 300 → ∀ {Q : Out → Mem → Prop}, (∀ M', OU M' (O ++ wrF Y n c) → FO M M' → Q (.inl none) M') → WPc (d + n + 10) mX13_writes [.ref (rf 11 0), .int (nI c)] M Q) (hN : ∀ x, x < 16 → itO (yP Y) (n + 1 + 1) (some x) ≠ some i) : ∀ (F : Nat) (t0 : Int32) (O1 : List Int32) (M1 : Mem), nG Y i t0 < F → 1 ≤ nL Y i t0 → ML M1 → mI M1 14 0 = w → OU M1 O1 → FO M M1 → O1.length + (wrL Y (wrF Y n) F (caF Y i t0 16 0 none) (nI 44)).length ≤ 299 → (∀ M', OU M' (O1 ++ wrL Y (wrF Y n) F (caF Y i t0 16 0 none) (nI 44) ++ [nI 93]) → FO M M' → Q (.inl none) M') → WP mX13_writes (d + (n + 1) + 10) 64 [.ref (rf 11 0), .int (nI i), .int (nI (nG Y i 0)), .int (nI (nL Y i t0))] [] M1 Q := by
  intro F
  induction F with
  | zero => intro t0 O1 M1 h0; exact absurd h0 (Nat.not_lt_zero _)
  | succ F ihF =>
    intro t0 O1 M1 hF hk hL1 hw1 O9 F1 hl kq
    have hx := caF_nx Y i t0
    have tot := nGL (o := i) hD t0
    cases e : caF Y i t0 16 0 none with
    | none =>
      rw [e] at hx hl kq
      have z0 : nG Y i t0 = 0 := sG_n hx
      rw [show nL Y i t0 = nG Y i 0 by omega]
      rw [show wrL Y (wrF Y n) (F + 1) none (nI 44) = [] from rfl] at hl kq
      rw [List.append_nil] at kq
      refine R.iload_n dX13_writes_64 rfl ?_
      refine R.iload_n dX13_writes_65 rfl ?_
      refine R.geT (tgt := 95) (Int32.le_refl _) dX13_writes_66 (by decide) ?_
      refine R.aload_n dX13_writes_95 rfl (by first | rfl | exact rfv_rf _) ?_
      refine R.bipush (v := nI 93) dX13_writes_96 (by decide) ?_
      refine cl_X13_441 rfl rfl (by first | exact Nat.le_of_ble_eq_true rfl | simp [rf_cat, Value.category]) dX13_writes_98 ?_
      refine m_write hL1 O9 (by omega) (fun M9 O10 F9 => ?_)
      refine WP.ret (ov := none) dX13_writes_101 ⟨rfl, rfl⟩ ?_
      refine kq M9 ?_ (F1.tr F9)
      exact O10
    | some c =>
      rw [e] at hx hl kq
      have e2 := nL_s hD hx
      have e3 : nG Y i t0 = 1 + nG Y i (yC Y c 6) := sG_s (f := fun _ => (1 : Nat)) hD hx
      have hcm : c < m := (h.t.2.2.2 c i hx.1 hx.2.1).1
      have hNc : ∀ x, x < 16 → itO (yP Y) (n + 1) (some x) ≠ some c := fun x hx9 q => hN x hx9 (it_st q hx.2.1)
      rw [show wrL Y (wrF Y n) (F + 1) (some c) (nI 44) = (nI 44 :: wrF Y n c) ++ wrL Y (wrF Y n) F (nCh Y c) (nI 44) from rfl, nCh_e hx.2.1] at hl kq
      rw [List.length_append, List.length_cons] at hl
      refine R.iload_n dX13_writes_64 rfl ?_
      refine R.iload_n dX13_writes_65 rfl ?_
      refine R.geF (tgt := 95) (nI_ge (show nL Y i t0 < nG Y i 0 by omega) (by omega)) dX13_writes_66 (by decide) ?_
      refine R.iload_n dX13_writes_69 rfl ?_
      refine R.if_le (tgt := 79) dX13_writes_70 (by decide) (fun c9 => absurd c9 (fun q => by have := (nI_leI (b := 0) (by omega) (by decide)).mp q; omega)) (fun _ => ?_)
      refine R.aload_n dX13_writes_73 rfl (by first | rfl | exact rfv_rf _) ?_
      refine R.bipush (v := nI 44) dX13_writes_74 (by decide) ?_
      refine cl_X13_441 rfl rfl (by first | exact Nat.le_of_ble_eq_true rfl | simp [rf_cat, Value.category]) dX13_writes_76 ?_
      refine m_write hL1 O9 (by omega) (fun M2 O2 F2 => ?_)
      refine R.aload_n dX13_writes_79 rfl (by first | rfl | exact rfv_rf _) ?_
      refine R.aload_n dX13_writes_80 rfl (by first | rfl | exact rfv_rf _) ?_
      refine R.iload_n dX13_writes_81 rfl ?_
      refine R.iload_n dX13_writes_82 rfl ?_
      refine cl_X13_404 rfl rfl (by first | exact Nat.le_of_ble_eq_true rfl | simp [rf_cat, Value.category]) dX13_writes_83 ?_
      refine atW (F2.w.trans hw1) (m_child (d := d + n + 8) (hL1.fo F2) h.t h.s hD hi16 ?_)
      rw [bW (F2.w.trans hw1), ch_at hD hx]
      refine cl_X13_444 rfl rfl (by first | exact Nat.le_of_ble_eq_true rfl | simp [rf_cat, Value.category]) dX13_writes_86 ?_
      refine ihn c hcm hNc _ M2 (hL1.fo F2) (F2.w.trans hw1) O2 (by rw [List.length_append, List.length_cons, List.length_nil]; omega) (fun M3 O3 F3 => ?_)
      have F4 := F2.tr F3
      refine R.iinc dX13_writes_89 (Nat.le_of_ble_eq_true rfl) (by decide) (by first | rfl | simp [lft, rf_cat]) rfl (inc_nI _) rfl ?_
      refine R.goto (tgt := 64) dX13_writes_92 (by decide) ?_
      rw [show nL Y i t0 + 1 = nL Y i (yC Y c 6) from e2.2.symm]
      refine ihF (yC Y c 6) _ M3 (by omega) (by omega) (hL1.fo F4) (F4.w.trans hw1) O3 (F1.tr F4) (by rw [List.length_append, List.length_append, List.length_cons, List.length_nil]; omega) (fun M5 O5 F5 => kq M5 ?_ F5)
      have e5 : O1 ++ ((nI 44 :: wrF Y n c) ++ wrL Y (wrF Y n) F (caF Y i (yC Y c 6) 16 0 none) (nI 44)) ++ [nI 93] = O1 ++ [nI 44] ++ wrF Y n c ++ wrL Y (wrF Y n) F (caF Y i (yC Y c 6) 16 0 none) (nI 44) ++ [nI 93] := by simp
      rw [e5]
      exact O5
