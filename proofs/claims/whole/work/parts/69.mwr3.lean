set_option maxHeartbeats 2000000 in
set_option maxRecDepth 4000 in
theorem m_writes {d m b K : Nat} {Y : Yd} {w : Nat → Int32} (h : RW Y m b K w) (hA : Acy Y) (hD : SbD Y) (hG : LG Y) (hGr : GrO Y) : ∀ (n i : Nat), i < m → (∀ x, x < 16 → itO (yP Y) (n + 1) (some x) ≠ some i) → ∀ (O : List Int32) (M : Mem), ML M → mI M 14 0 = w → OU M O → O.length + (wrF Y n i).length ≤ 300 → ∀ {Q : Out → Mem → Prop}, (∀ M', OU M' (O ++ wrF Y n i) → FO M M' → Q (.inl none) M') → WPc (d + n + 10) mX13_writes [.ref (rf 11 0), .int (nI i)] M Q := by
  have hm16 := h.t.le
  intro n
  induction n with
  | zero =>
    intro i hi hN O M hL hw hO hl Q hq
    obtain ⟨g1, g2⟩ := hGr i (by omega)
    refine m_wrP (d := d) h hA hG hL hw hO hi g1 g2 (by omega) (fun M1 O1 F1 => ?_)
    rw [sm_z (f := fun c => if yP Y c = some i then (1 : Nat) else 0) (n := 16) fun c hc => if_neg fun q => hN c hc (by show itO (yP Y) 0 (yP Y c) = _; rw [q]; rfl)]
    refine R.iload_n dX13_writes_51 rfl ?_
    refine R.if_ne (tgt := 56) dX13_writes_52 (by decide) (fun c9 => absurd (rfl) c9) (fun _ => ?_)
    refine WP.ret (ov := none) dX13_writes_55 ⟨rfl, rfl⟩ ?_
    exact hq M1 O1 F1
  | succ n ihn =>
    intro i hi hN O M hL hw hO hl Q hq
    obtain ⟨g1, g2⟩ := hGr i (by omega)
    refine m_wrP (d := d + (n + 1)) h hA hG hL hw hO hi g1 g2 (by omega) (fun M1 O1 F1 => ?_)
    rw [← nG_0 hD]
    have hx := caF_nx Y i 0
    have tot := nL_0 (o := i) hD
    cases e : caF Y i 0 16 0 none with
    | none =>
      rw [e] at hx
      rw [show nG Y i 0 = 0 from sG_n hx]
      have ew : wrF Y (n + 1) i = (nmL (yC Y i 1) 6 0 ++ nI 58 :: dgS (yC Y i 4).toNatClampNeg) := by
        rw [wrF, show fCh Y i = none from e]
        exact List.append_nil _
      rw [ew] at hq
      refine R.iload_n dX13_writes_51 rfl ?_
      refine R.if_ne (tgt := 56) dX13_writes_52 (by decide) (fun c9 => absurd (rfl) c9) (fun _ => ?_)
      refine WP.ret (ov := none) dX13_writes_55 ⟨rfl, rfl⟩ ?_
      exact hq M1 O1 F1
    | some c =>
      rw [e] at hx
      have e2 := nL_s hD hx
      have e3 : nG Y i 0 = 1 + nG Y i (yC Y c 6) := sG_s (f := fun _ => (1 : Nat)) hD hx
      have hcm : c < m := (h.t.2.2.2 c i hx.1 hx.2.1).1
      have hNc : ∀ x, x < 16 → itO (yP Y) (n + 1) (some x) ≠ some c := fun x hx9 q => hN x hx9 (it_st q hx.2.1)
      have ec : coF Y 17 (fCh Y i) 0 (nI 0) = nI c := by
        have q := ch_at hD hx
        rw [tot] at q
        exact q
      have hg16 := nG_le Y i 0
      have ew : wrF Y (n + 1) i = (nmL (yC Y i 1) 6 0 ++ nI 58 :: dgS (yC Y i 4).toNatClampNeg) ++ ((nI 91 :: wrF Y n c) ++ wrL Y (wrF Y n) 16 (caF Y i (yC Y c 6) 16 0 none) (nI 44) ++ [nI 93]) := by
        rw [wrF, show fCh Y i = some c from e]
        show _ ++ ((nI 91 :: wrF Y n c) ++ wrL Y (wrF Y n) 16 (nCh Y c) (nI 44) ++ [nI 93]) = _
        rw [nCh_e hx.2.1]
      rw [ew] at hq hl
      rw [List.length_append, List.length_append, List.length_append, List.length_append, List.length_cons, List.length_cons, List.length_cons, List.length_nil] at hl
      refine R.iload_n dX13_writes_51 rfl ?_
      refine R.if_ne (tgt := 56) dX13_writes_52 (by decide) (fun _ => ?_) (fun c9 => absurd c9 (fun q => by have := (nI_inj (b := 0) (by omega) (by decide)).mp q; omega))
      refine R.aload_n dX13_writes_56 rfl (by first | rfl | exact rfv_rf _) ?_
      refine R.bipush (v := nI 91) dX13_writes_57 (by decide) ?_
      refine cl_X13_441 rfl rfl (by first | exact Nat.le_of_ble_eq_true rfl | simp [rf_cat, Value.category]) dX13_writes_59 ?_
      refine m_write (hL.fo F1) O1 (by rw [List.length_append, List.length_append, List.length_cons]; omega) (fun M2 O2 F2 => ?_)
      have F3 := F1.tr F2
      refine R.iconst (v := nI 0) dX13_writes_62 rfl ?_
      refine R.istore_n dX13_writes_63 (Nat.le_of_ble_eq_true rfl) (by decide) (by first | rfl | simp [lft, rf_cat]) rfl ?_
      refine R.iload_n dX13_writes_64 rfl ?_
      refine R.iload_n dX13_writes_65 rfl ?_
      refine R.geF (tgt := 95) (nI_ge (show 0 < nG Y i 0 by omega) (by omega)) dX13_writes_66 (by decide) ?_
      refine R.iload_n dX13_writes_69 rfl ?_
      refine R.if_le (tgt := 79) dX13_writes_70 (by decide) (fun _ => ?_) (fun c9 => absurd (by decide) c9)
      refine R.aload_n dX13_writes_79 rfl (by first | rfl | exact rfv_rf _) ?_
      refine R.aload_n dX13_writes_80 rfl (by first | rfl | exact rfv_rf _) ?_
      refine R.iload_n dX13_writes_81 rfl ?_
      refine R.iload_n dX13_writes_82 rfl ?_
      refine cl_X13_404 rfl rfl (by first | exact Nat.le_of_ble_eq_true rfl | simp [rf_cat, Value.category]) dX13_writes_83 ?_
      refine atW (F3.w.trans hw) (m_child (d := d + n + 8) (hL.fo F3) h.t h.s hD (by omega) ?_)
      rw [bW (F3.w.trans hw), ec]
      refine cl_X13_444 rfl rfl (by first | exact Nat.le_of_ble_eq_true rfl | simp [rf_cat, Value.category]) dX13_writes_86 ?_
      refine ihn c hcm hNc _ M2 (hL.fo F3) (F3.w.trans hw) O2 (by simp only [List.length_append, List.length_cons, List.length_nil]; omega) (fun M3 O3 F4 => ?_)
      have F5 := F3.tr F4
      refine R.iinc dX13_writes_89 (Nat.le_of_ble_eq_true rfl) (by decide) (by first | rfl | simp [lft, rf_cat]) rfl (inc_nI _) rfl ?_
      refine R.goto (tgt := 64) dX13_writes_92 (by decide) ?_
      rw [show 0 + 1 = nL Y i (yC Y c 6) by omega]
      refine m_wrC (d := d) h hD (by omega) (nG_le Y i 0) ihn hN 16 (yC Y c 6) _ M3 (by have := nG_le Y i 0; omega) (by omega) (hL.fo F5) (F5.w.trans hw) O3 (FO.rf M3) (by simp only [List.length_append, List.length_cons, List.length_nil]; omega) (fun M6 O6 F6 => hq M6 ?_ (F5.tr F6))
      have e5 : O ++ ((nmL (yC Y i 1) 6 0 ++ nI 58 :: dgS (yC Y i 4).toNatClampNeg) ++ ((nI 91 :: wrF Y n c) ++ wrL Y (wrF Y n) 16 (caF Y i (yC Y c 6) 16 0 none) (nI 44) ++ [nI 93])) = O ++ (nmL (yC Y i 1) 6 0 ++ nI 58 :: dgS (yC Y i 4).toNatClampNeg) ++ [nI 91] ++ wrF Y n c ++ wrL Y (wrF Y n) 16 (caF Y i (yC Y c 6) 16 0 none) (nI 44) ++ [nI 93] := by simp
      rw [e5]
      exact O6
