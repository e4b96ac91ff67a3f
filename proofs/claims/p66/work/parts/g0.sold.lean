/-! a sale, as the law makes it -/
theorem QR_c {Q : Out → Mem → Prop} {M : Mem} {S : KS} {p i : Nat} {x v : Int32} {Y : Yd} {f : Nat → Rr} (h : kC (kY S) x = some i) (e : f i = r1 S p v Y) (k : ∀ M', CSt M' (kSy (kR S) Y) (p + 1) → FrK M M' → Q (.inl (some (.int v))) M') : QR9 Q M (rC S x f) := by
  rw [rC_s h, e]
  exact k
theorem QR_1 {Q : Out → Mem → Prop} {M : Mem} {S : KS} {p : Nat} {v : Int32} {Y : Yd} {r : Rr} (e : r = r1 S p v Y) (k : ∀ M', CSt M' (kSy (kR S) Y) (p + 1) → FrK M M' → Q (.inl (some (.int v))) M') : QR9 Q M r := by
  rw [e]
  exact k
/-- a law's change of the yard's numbers: room stays -/
abbrev s32 (M : Mem) (f : Nat) (v : Int32) : Mem := sI M 32 0 f v
theorem Fx.y {T : Nat → Nat → Prop} {n s : Nat} {M M' : Mem} {f : Nat} {v : Int32} (h : Fx T n s M M') (hT : T 32 0) : Fx T n s M (s32 M' f v) := h.sI (Or.inl hT)
set_option maxHeartbeats 2000000 in
set_option maxRecDepth 8000 in
theorem s_isSold {S : KS} {p k d T : Nat} {W : LW} {M : Mem} {Q : Out → Mem → Prop} (hC : CSt M S p) (hW : LM M W) (hI : IV (kY S) W T) (hT : T + 1 ≤ 39) (hp : p < 2 ^ 30) (hk : k < wN W) (hr : yRef (kY S) k 0 = 0) (hq : ∀ M' S' W', CSt M' S' (p + 1) → LM M' W' → IV (kY S') W' (T + 1) → mK M' ≤ mK M + 700 → mS M' ≤ mS M + 1500 → Q (.inl (some (.int 1))) M') : WPc (d + 21) mL_isSold [.ref (rf 10 0), .ref (rf 32 0), .ref (rf 11 k)] M Q := by
  refine WPc.of (by decide +kernel) (Nat.le_of_ble_eq_true rfl) rfl ?_
  have he := hI.ref0 hk hr
  have hns := hI.ns hk
  obtain ⟨hpr, hI2⟩ := hI.sell hk he hr hT
  have hP : ∀ M9, mK M9 = mK M9 := fun _ => rfl
  refine R.aload_n dL_isSold_0 rfl (by first | rfl | exact rfv_rf _) ?_
  refine cl_L_170 rfl rfl (by first | exact Nat.le_of_ble_eq_true rfl | simp [rf_cat, Value.category]) dL_isSold_1 ?_
  refine s_lmean (d := d + 16) hk he (hI.mn hk he).2.1 hW (fun M1 hM1 F1 => ?_)
  rw [show mnL (smR (wR W k) 0) (nI (wR W k).length) = sdM W k from rfl]
  skip
  have key1 : ∀ pr : Int32, pr = sdP W k → WP mL_isSold (d + 21) 14 [.ref (rf 10 0), .ref (rf 32 0), .ref (rf 11 k), .int (sdM W k), UN, UN, UN, UN] [.int pr] M1 Q := by
    intro pr epr
    refine R.istore dL_isSold_14 (Nat.le_of_ble_eq_true rfl) (by decide) (by first | rfl | simp [lft, rf_cat]) rfl ?_
    refine R.iload_n dL_isSold_16 rfl ?_
    refine R.aload_n dL_isSold_17 rfl (by first | rfl | exact rfv_rf _) ?_
    refine cl_L_112 rfl rfl (by first | exact Nat.le_of_ble_eq_true rfl | simp [rf_cat, Value.category]) dL_isSold_18 ?_
    refine s_gross 5 k (d + 11) hk (hI.hg hk) hM1 (fun M2 hM2 F2 => ?_)
    refine R.isub dL_isSold_21 ?_
    rw [show sdM W k - grF W 5 k = sdO W k from rfl]
    skip
    have F12 := (F1.tr F2 (fun _ _ z => z.elim))
    have key2 : ∀ ab : Int32, ab = (if sdO W k < 0 then - sdO W k else sdO W k) → WP mL_isSold (d + 21) 37 [.ref (rf 10 0), .ref (rf 32 0), .ref (rf 11 k), .int (sdM W k), .int pr, .int (sdO W k), UN, UN] [.int ab] M2 Q := by
      intro ab eab
      refine R.aload_n dL_isSold_37 rfl (by first | rfl | exact rfv_rf _) ?_
      refine R.getIS (hM2.yi (by decide)) dL_isSold_38 fl_L_246 (by decide) rfl ?_
      refine R.isub dL_isSold_41 ?_
      rw [show ab - wYs W 8 = sdA W k from by rw [eab]; rfl]
      refine R.istore dL_isSold_42 (Nat.le_of_ble_eq_true rfl) (by decide) (by first | rfl | simp [lft, rf_cat]) rfl ?_
      refine R.iconst (v := 0) dL_isSold_44 rfl ?_
      refine R.istore dL_isSold_45 (Nat.le_of_ble_eq_true rfl) (by decide) (by first | rfl | simp [lft, rf_cat]) rfl ?_
      refine R.iload dL_isSold_47 rfl ?_
      skip
      have key4 : ∀ (bk t : Int32) (M3 : Mem), bk = sdB W k → LM M3 (vY W 9 (sdT W k)) → Fx SWl 10 40 M M3 → WP mL_isSold (d + 21) 114 [.ref (rf 10 0), .ref (rf 32 0), .ref (rf 11 k), .int (sdM W k), .int pr, .int (sdO W k), .int (sdA W k), .int bk] [] M3 Q := by
        intro bk t M3 ebk hM3 F3
        subst ebk
        subst epr
        refine R.aload_n dL_isSold_114 rfl (by first | rfl | exact rfv_rf _) ?_
        refine R.dup dL_isSold_115 (by first | rfl | exact rf_cat _) ?_
        refine R.getIS ((hM3.yi (by decide)).trans (vY_n (by decide))) dL_isSold_116 fl_L_58 (by decide) rfl ?_
        refine R.iload dL_isSold_119 rfl ?_
        refine R.iload dL_isSold_121 rfl ?_
        refine R.isub dL_isSold_123 ?_
        refine R.iadd dL_isSold_124 ?_
        refine R.putI dL_isSold_125 fl_L_58 (fun q hq => by cases hq; exact Or.inl rfl) (by decide) rfl rfl rfl ?_
        have hM4 := hM3.sY (f := 7) (v := wYs W 7 + (sdB W k - sdP W k))
        refine R.aload_n dL_isSold_128 rfl (by first | rfl | exact rfv_rf _) ?_
        refine R.dup dL_isSold_129 (by first | rfl | exact rf_cat _) ?_
        refine R.getIS ((hM4.yi (by decide)).trans ((vY_n (by decide)).trans (vY_n (by decide)))) dL_isSold_130 fl_L_70 (by decide) rfl ?_
        refine R.iload dL_isSold_133 rfl ?_
        refine R.iadd dL_isSold_135 ?_
        refine R.putI dL_isSold_136 fl_L_70 (fun q hq => by cases hq; exact Or.inl rfl) (by decide) rfl rfl rfl ?_
        have hM5 := hM4.sY (f := 10) (v := wYs W 10 + sdP W k)
        refine R.aload_n dL_isSold_139 rfl (by first | rfl | exact rfv_rf _) ?_
        refine R.dup dL_isSold_140 (by first | rfl | exact rf_cat _) ?_
        refine R.getIS ((hM5.yi (by decide)).trans ((vY_n (by decide)).trans ((vY_n (by decide)).trans (vY_n (by decide))))) dL_isSold_141 fl_L_76 (by decide) rfl ?_
        refine R.iload dL_isSold_144 rfl ?_
        refine R.iadd dL_isSold_146 ?_
        refine R.putI dL_isSold_147 fl_L_76 (fun q hq => by cases hq; exact Or.inl rfl) (by decide) rfl rfl rfl ?_
        have hM6 := hM5.sY (f := 11) (v := wYs W 11 + sdB W k)
        skip
        have F6 : Fx SWl 10 40 M (sI (sI (sI M3 32 0 7 (wYs W 7 + (sdB W k - sdP W k))) 32 0 10 (wYs W 10 + sdP W k)) 32 0 11 (wYs W 11 + sdB W k)) := ((F3.y (f := 7) (v := wYs W 7 + (sdB W k - sdP W k)) (Or.inr (Or.inr (Or.inl rfl)))).y (f := 10) (v := wYs W 10 + sdP W k) (Or.inr (Or.inr (Or.inl rfl)))).y (f := 11) (v := wYs W 11 + sdB W k) (Or.inr (Or.inr (Or.inl rfl)))
        generalize sI (sI (sI M3 32 0 7 (wYs W 7 + (sdB W k - sdP W k))) 32 0 10 (wYs W 10 + sdP W k)) 32 0 11 (wYs W 11 + sdB W k) = M6 at hM6 F6 ⊢
        have hM6 : LM M6 (sdV W k) := hM6
        have hkV : k < wN (sdV W k) := hk
        have hgV : hgK (sdV W k) 5 k := hgK_g (W := W) (V := sdV W k) rfl 5 k (hI.hg hk)
        have hnV : nsF (sdV W k) 5 k = nsF W 5 k := nsF_g (W := W) (V := sdV W k) rfl 5 k
        refine R.aload_n dL_isSold_150 rfl (by first | rfl | exact rfv_rf _) ?_
        refine cl_L_249 rfl rfl (by first | exact Nat.le_of_ble_eq_true rfl | simp [rf_cat, Value.category]) dL_isSold_151 ?_
        refine s_goes (W := sdV W k) 5 k (d + 11) hkV hgV (Gs.rf _) (fun k' c' h1 h2 => (hM6.c h1).cn c' h2) hM6 (fun M7 hM7 F7 => ?_)
        skip
        have F8 : Fx SWl 19 76 M M7 := ((F6.tr F7 (fun i j z => Or.inl (Or.inl z))).le (by rw [hnV]; omega) (by rw [hnV]; omega))
        have hC8 := hC.fx F8 (fun _ _ z => SWl_K z)
        have hM7 : LM M7 (sdW W k) := hM7
        have hN : k < wN (sdW W k) := by rw [show wN (sdW W k) = wN W from (goF_s 5 (sdV W k) k).1]; exact hk
        refine R.aload_n dL_isSold_154 rfl (by first | rfl | exact rfv_rf _) ?_
        refine R.aload_n dL_isSold_155 rfl (by first | rfl | exact rfv_rf _) ?_
        refine R.getIS ((hM7.c hN).i.trans (hI2.rc hN).1) dL_isSold_156 fl_L_106 (by decide) rfl ?_
        refine R.iconst (v := 0) dL_isSold_159 rfl ?_
        refine cl_L_252 rfl rfl (by first | exact Nat.le_of_ble_eq_true rfl | simp [rf_cat, Value.category]) dL_isSold_160 ?_
        refine c_sell (d := d) hC8 hp hI.pv.kg (QR_c (S := S) (p := p) (hI.kc hk) (v := sdP W k - sdB W k) (Y := trY (kY S) k 0) ?_ (fun M9 hC9 F9 => ?_))
        · show rU S 0 _ = _
          rw [rU_s hI.ku]
          show (if yRef (kY S) k 0 = 0 then _ else _) = _
          rw [if_pos hr, hpr]
        refine R.iload dL_isSold_163 rfl ?_
        refine R.iload dL_isSold_165 rfl ?_
        refine R.isub dL_isSold_167 ?_
        refine R.icmp_ne (tgt := 175) dL_isSold_168 (by decide) (fun c => absurd rfl c) (fun _ => ?_)
        refine R.iconst (v := 1) dL_isSold_171 rfl ?_
        refine R.goto (tgt := 176) dL_isSold_172 (by decide) ?_
        refine WP.ret (ov := some (.int _)) dL_isSold_176 ⟨rfl, _, rfl, by first | rfl | assumption | exact nar_b01 (by assumption)⟩ ?_
        have b1 := F8.2.2.2.1
        have b2 := F8.2.2.2.2
        have b3 := F9.2.2.1
        have b4 := F9.2.2.2
        exact hq M9 _ _ hC9 (hM7.fk F9) hI2 (by omega) (by omega)
      by_cases zA : sdA W k ≤ 0
      · have eB : (0 : Int32) = sdB W k := by unfold sdB; rw [if_pos zA]
        refine R.if_gt (tgt := 81) dL_isSold_49 (by decide) (fun c => absurd (Int32.not_le.mpr c) (fun q => q zA)) (fun _ => ?_)
        skip
        have key3 : ∀ t : Int32, t = sdT W k → WP mL_isSold (d + 21) 75 [.ref (rf 10 0), .ref (rf 32 0), .ref (rf 11 k), .int (sdM W k), .int pr, .int (sdO W k), .int (sdA W k), .int 0] [.int t, .ref (rf 32 0)] M2 Q := by
          intro t et
          subst et
          refine R.putI dL_isSold_75 fl_L_64 (fun q hq => by cases hq; exact Or.inl rfl) (by decide) rfl rfl rfl ?_
          refine R.goto (tgt := 114) dL_isSold_78 (by decide) ?_
          skip
          have hM3 := hM2.sY (f := 9) (v := sdT W k)
          exact key4 0 0 _ eB hM3 (((F12.mono (S' := SWl) (fun _ _ z => z.elim) (Nat.le_refl _) (Nat.le_refl _)).y (Or.inr (Or.inr (Or.inl rfl)))).le (by omega) (by omega))
        have eT : sdT W k = if 100 < wYs W 9 + 5 then 100 else wYs W 9 + 5 := by unfold sdT; rw [if_pos zA]
        by_cases zT : (100 : Int32) < wYs W 9 + 5
        · skip
          refine R.aload_n dL_isSold_52 rfl (by first | rfl | exact rfv_rf _) ?_
          refine R.aload_n dL_isSold_53 rfl (by first | rfl | exact rfv_rf _) ?_
          refine R.getIS (hM2.yi (by decide)) dL_isSold_54 fl_L_64 (by decide) rfl ?_
          refine R.iconst (v := 5) dL_isSold_57 rfl ?_
          refine R.iadd dL_isSold_58 ?_
          refine R.bipush (v := 100) dL_isSold_59 (by decide) ?_
          refine R.icmp_le (tgt := 69) dL_isSold_61 (by decide) (fun c => absurd zT (Int32.not_lt.mpr c)) (fun _ => ?_)
          refine R.bipush (v := 100) dL_isSold_64 (by decide) ?_
          refine R.goto (tgt := 75) dL_isSold_66 (by decide) ?_
          exact key3 _ (by rw [eT, if_pos zT])
        · skip
          refine R.aload_n dL_isSold_52 rfl (by first | rfl | exact rfv_rf _) ?_
          refine R.aload_n dL_isSold_53 rfl (by first | rfl | exact rfv_rf _) ?_
          refine R.getIS (hM2.yi (by decide)) dL_isSold_54 fl_L_64 (by decide) rfl ?_
          refine R.iconst (v := 5) dL_isSold_57 rfl ?_
          refine R.iadd dL_isSold_58 ?_
          refine R.bipush (v := 100) dL_isSold_59 (by decide) ?_
          refine R.icmp_le (tgt := 69) dL_isSold_61 (by decide) (fun _ => ?_) (fun c => absurd (Int32.not_lt.mp zT) c)
          refine R.aload_n dL_isSold_69 rfl (by first | rfl | exact rfv_rf _) ?_
          refine R.getIS (hM2.yi (by decide)) dL_isSold_70 fl_L_64 (by decide) rfl ?_
          refine R.iconst (v := 5) dL_isSold_73 rfl ?_
          refine R.iadd dL_isSold_74 ?_
          exact key3 _ (by rw [eT, if_neg zT])
      · skip
        refine R.if_gt (tgt := 81) dL_isSold_49 (by decide) (fun _ => ?_) (fun c => absurd (Int32.not_le.mp zA) c)
        skip
        have key3 : ∀ t : Int32, t = sdT W k → WP mL_isSold (d + 21) 102 [.ref (rf 10 0), .ref (rf 32 0), .ref (rf 11 k), .int (sdM W k), .int pr, .int (sdO W k), .int (sdA W k), .int 0] [.int t, .ref (rf 32 0)] M2 Q := by
          intro t et
          subst et
          refine R.putI dL_isSold_102 fl_L_64 (fun q hq => by cases hq; exact Or.inl rfl) (by decide) rfl rfl rfl ?_
          skip
          have hM3 := hM2.sY (f := 9) (v := sdT W k)
          have F3 : Fx SWl 10 40 M (sI M2 32 0 9 (sdT W k)) := ((F12.mono (S' := SWl) (fun _ _ z => z.elim) (Nat.le_refl _) (Nat.le_refl _)).y (Or.inr (Or.inr (Or.inl rfl)))).le (by omega) (by omega)
          by_cases zO : 0 < sdO W k
          · have eB : sdO W k = sdB W k := by unfold sdB; rw [if_neg zA, if_pos zO]
            refine R.iload dL_isSold_105 rfl ?_
            refine R.if_le (tgt := 114) dL_isSold_107 (by decide) (fun c => absurd zO (Int32.not_lt.mpr c)) (fun _ => ?_)
            refine R.iload dL_isSold_110 rfl ?_
            refine R.istore dL_isSold_112 (Nat.le_of_ble_eq_true rfl) (by decide) (by first | rfl | simp [lft, rf_cat]) rfl ?_
            exact key4 _ 0 _ eB hM3 F3
          · have eB : (0 : Int32) = sdB W k := by unfold sdB; rw [if_neg zA, if_neg zO]
            refine R.iload dL_isSold_105 rfl ?_
            refine R.if_le (tgt := 114) dL_isSold_107 (by decide) (fun _ => ?_) (fun c => absurd (Int32.not_lt.mp zO) c)
            exact key4 _ 0 _ eB hM3 F3
        have eT : sdT W k = if wYs W 9 < sdA W k then 0 else wYs W 9 - sdA W k := by unfold sdT; rw [if_neg zA]
        by_cases zT : wYs W 9 < sdA W k
        · skip
          refine R.aload_n dL_isSold_81 rfl (by first | rfl | exact rfv_rf _) ?_
          refine R.aload_n dL_isSold_82 rfl (by first | rfl | exact rfv_rf _) ?_
          refine R.getIS (hM2.yi (by decide)) dL_isSold_83 fl_L_64 (by decide) rfl ?_
          refine R.iload dL_isSold_86 rfl ?_
          refine R.icmp_ge (tgt := 95) dL_isSold_88 (by decide) (fun c => absurd zT (Int32.not_lt.mpr c)) (fun _ => ?_)
          refine R.iconst (v := 0) dL_isSold_91 rfl ?_
          refine R.goto (tgt := 102) dL_isSold_92 (by decide) ?_
          exact key3 _ (by rw [eT, if_pos zT])
        · skip
          refine R.aload_n dL_isSold_81 rfl (by first | rfl | exact rfv_rf _) ?_
          refine R.aload_n dL_isSold_82 rfl (by first | rfl | exact rfv_rf _) ?_
          refine R.getIS (hM2.yi (by decide)) dL_isSold_83 fl_L_64 (by decide) rfl ?_
          refine R.iload dL_isSold_86 rfl ?_
          refine R.icmp_ge (tgt := 95) dL_isSold_88 (by decide) (fun _ => ?_) (fun c => absurd (Int32.not_lt.mp zT) c)
          refine R.aload_n dL_isSold_95 rfl (by first | rfl | exact rfv_rf _) ?_
          refine R.getIS (hM2.yi (by decide)) dL_isSold_96 fl_L_64 (by decide) rfl ?_
          refine R.iload dL_isSold_99 rfl ?_
          refine R.isub dL_isSold_101 ?_
          exact key3 _ (by rw [eT, if_neg zT])
    by_cases zO : sdO W k < 0
    · skip
      refine R.istore dL_isSold_22 (Nat.le_of_ble_eq_true rfl) (by decide) (by first | rfl | simp [lft, rf_cat]) rfl ?_
      refine R.iload dL_isSold_24 rfl ?_
      refine R.if_ge (tgt := 35) dL_isSold_26 (by decide) (fun c => absurd zO (Int32.not_lt.mpr c)) (fun _ => ?_)
      refine R.iload dL_isSold_29 rfl ?_
      refine R.ineg dL_isSold_31 ?_
      refine R.goto (tgt := 37) dL_isSold_32 (by decide) ?_
      exact key2 _ (by rw [if_pos zO])
    · skip
      refine R.istore dL_isSold_22 (Nat.le_of_ble_eq_true rfl) (by decide) (by first | rfl | simp [lft, rf_cat]) rfl ?_
      refine R.iload dL_isSold_24 rfl ?_
      refine R.if_ge (tgt := 35) dL_isSold_26 (by decide) (fun _ => ?_) (fun c => absurd (Int32.not_lt.mp zO) c)
      refine R.iload dL_isSold_35 rfl ?_
      exact key2 _ (by rw [if_neg zO])
  by_cases zM : sdM W k < 0
  · skip
    refine R.istore_n dL_isSold_4 (Nat.le_of_ble_eq_true rfl) (by decide) (by first | rfl | simp [lft, rf_cat]) rfl ?_
    refine R.iload_n dL_isSold_5 rfl ?_
    refine R.if_ge (tgt := 13) dL_isSold_6 (by decide) (fun c => absurd zM (Int32.not_lt.mpr c)) (fun _ => ?_)
    refine R.iconst (v := 0) dL_isSold_9 rfl ?_
    refine R.goto (tgt := 14) dL_isSold_10 (by decide) ?_
    exact key1 _ (by unfold sdP; rw [if_pos zM])
  · skip
    refine R.istore_n dL_isSold_4 (Nat.le_of_ble_eq_true rfl) (by decide) (by first | rfl | simp [lft, rf_cat]) rfl ?_
    refine R.iload_n dL_isSold_5 rfl ?_
    refine R.if_ge (tgt := 13) dL_isSold_6 (by decide) (fun _ => ?_) (fun c => absurd (Int32.not_lt.mp zM) c)
    refine R.iload_n dL_isSold_13 rfl ?_
    exact key1 _ (by unfold sdP; rw [if_neg zM])
