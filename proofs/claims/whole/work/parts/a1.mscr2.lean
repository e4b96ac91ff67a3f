/-! the model reads a statement of a script -/
def soF (b : Nat → Int32) (n : Nat) (Y : Yd) (e : Nat) (l : Nat) : QR := match vbF b (tS b n e) (tE b n e) (tK b n e) 9 0 with
  | none => .inl (1, tS b n e)
  | some v => if 30 ≤ l then .inl (6, tS b n e) else match sqP b n (tE b n e) v Y with
    | .inl x => .inl x
    | .inr (e', t) => if scC (tK b n e') = 0 then .inr (tE b n e', t) else .inl (scC (tK b n e'), tS b n e')
theorem scQ_s (b : Nat → Int32) (n : Nat) (Y : Yd) (f e : Nat) (ac : List St) : scQ b n Y (f + 1) e ac = if tK b n e = 0 then .inr ac else match soF b n Y e ac.length with
  | .inl x => .inl x
  | .inr (e', t) => scQ b n Y f e' (ac ++ [t]) := by
  rw [scQ]
  by_cases k0 : tK b n e = 0
  · rw [if_pos k0, if_pos k0]
  · rw [if_neg k0, if_neg k0]
    unfold soF
    cases vbF b (tS b n e) (tE b n e) (tK b n e) 9 0 with
    | none => rfl
    | some v =>
      dsimp only
      by_cases hl : 30 ≤ ac.length
      · rw [if_pos hl, if_pos hl]
      · rw [if_neg hl, if_neg hl]
        cases sqP b n (tE b n e) v Y with
        | inl x => rfl
        | inr x =>
          obtain ⟨e', t⟩ := x
          dsimp only
          by_cases hs : scC (tK b n e') = 0
          · rw [if_pos hs, if_pos hs]
          · rw [if_neg hs, if_neg hs]
def ordM (M : Mem) (k : Nat) (its a x : Int32) : Mem := sI (sI (sI (sI M 14 7 k its) 14 8 (2 * k) a) 14 8 (2 * k + 1) x) 11 0 22 (nI (k + 1))
theorem PQ.ord {M0 M : Mem} {b : Nat → Int32} {n e : Nat} {w N : Nat → Int32} {RR : OR9} (h : PQ M0 M b n e w N RR) (k : Nat) (its a x : Int32) : PQ M0 (ordM M k its a x) b n e w N (nI (k + 1), upW RR.2.1 k its, upW (upW RR.2.2 (2 * k) a) (2 * k + 1) x) := by
  have e14 : ∀ i, i ≠ 7 → i ≠ 8 → mI (ordM M k its a x) 14 i = mI M 14 i := fun i h7 h8 => by
    funext y
    rw [ordM, mI_sI, if_neg (by omega), mI_sI, if_neg (by omega), mI_sI, if_neg (by omega), mI_sI, if_neg (by omega)]
  have ef : ∀ f, f ≠ 22 → mI (ordM M k its a x) 11 0 f = mI M 11 0 f := fun f hf => by
    rw [ordM, mI_sI, if_neg (by omega), mI_sI, if_neg (by omega), mI_sI, if_neg (by omega), mI_sI, if_neg (by omega)]
  obtain ⟨t1, t2, t3, t4⟩ := h.t
  refine ⟨(((h.F.c _ _ (Or.inr (Or.inr (Or.inl rfl)))).c _ _ (Or.inr (Or.inr (Or.inr rfl)))).c _ _ (Or.inr (Or.inr (Or.inr rfl)))).f _ (Or.inr rfl), ⟨by rw [ef 15 (by decide)]; exact t1, by rw [ef 14 (by decide)]; exact t2, by rw [ef 17 (by decide)]; exact t3, fun z => by rw [ef 16 (by decide)]; exact t4 z⟩, ⟨by rw [e14 0 (by decide) (by decide)]; exact h.w, by rw [e14 6 (by decide) (by decide)]; exact h.N, ?_, ?_⟩, ⟨by rw [ef 12 (by decide)]; exact h.x, by rw [ef 13 (by decide)]; exact h.x2, ?_⟩, h.l.fr rfl rfl, h.i.fr (ef 9 (by decide)) (e14 5 (by decide) (by decide)), h.en⟩
  · funext y
    rw [ordM, mI_sI, if_neg (by omega), mI_sI, if_neg (by omega), mI_sI, if_neg (by omega), mI_sI]
    show _ = if y = k then its else RR.2.1 y
    by_cases z : y = k
    · rw [if_pos ⟨rfl, rfl, z⟩, if_pos z]
    · rw [if_neg (fun q => z q.2.2), if_neg z, h.o7]
  · funext y
    rw [ordM, mI_sI, if_neg (by omega), mI_sI]
    show _ = if y = 2 * k + 1 then x else if y = 2 * k then a else RR.2.2 y
    by_cases z : y = 2 * k + 1
    · rw [if_pos ⟨rfl, rfl, z⟩, if_pos z]
    · rw [if_neg (fun q => z q.2.2), if_neg z, mI_sI]
      by_cases z2 : y = 2 * k
      · rw [if_pos ⟨rfl, rfl, z2⟩, if_pos z2]
      · rw [if_neg (fun q => z2 q.2.2), if_neg z2, mI_sI, if_neg (by omega), h.o8]
  · rw [ordM, mI_sI, if_pos ⟨rfl, rfl, rfl⟩]
theorem RS9.snoc {ac : List St} {RR : OR9} {t : St} {its a x : Int32} (h : RS9 ac RR) (hl : ac.length < 30) (ht : OT t its a x) : RS9 (ac ++ [t]) (nI (ac.length + 1), upW RR.2.1 ac.length its, upW (upW RR.2.2 (2 * ac.length) a) (2 * ac.length + 1) x) := by
  obtain ⟨h1, h2, h3⟩ := h
  refine ⟨by rw [List.length_append]; rfl, by rw [List.length_append]; exact hl, fun k t2 e => ?_⟩
  show OT t2 (if k = ac.length then its else RR.2.1 k) (if 2 * k = 2 * ac.length + 1 then x else if 2 * k = 2 * ac.length then a else RR.2.2 (2 * k)) (if 2 * k + 1 = 2 * ac.length + 1 then x else if 2 * k + 1 = 2 * ac.length then a else RR.2.2 (2 * k + 1))
  by_cases z : k = ac.length
  · subst z
    rw [if_pos rfl, if_neg (by omega), if_pos rfl, if_pos rfl]
    rw [List.getElem?_append_right (Nat.le_refl _), Nat.sub_self] at e
    have : t2 = t := by simpa using e.symm
    rw [this]; exact ht
  · have hk : k < ac.length := by
      have := (List.getElem?_eq_some_iff.mp e).1
      rw [List.length_append] at this
      simp at this
      omega
    rw [if_neg z, if_neg (by omega), if_neg (by omega), if_neg (by omega), if_neg (by omega)]
    rw [List.getElem?_append_left hk] at e
    exact h3 k t2 e
def PRO (Q : Out → Mem → Prop) (M0 : Mem) (b : Nat → Int32) (n : Nat) (w : Nat → Int32) (ac : List St) (r : QR) : Prop := match r with
  | .inl (cd, s) => ∀ M', PX M0 M' cd s w → Q (.inl (some (.int 0))) M'
  | .inr (e', t) => ∀ M' N' RR', PQ M0 M' b n e' w N' RR' → RS9 (ac ++ [t]) RR' → Q (.inl (some (.int 1))) M'
set_option maxHeartbeats 4000000 in
set_option maxRecDepth 4000 in
theorem p_rdO {d n e : Nat} {b w N : Nat → Int32} {RR : OR9} {M0 M : Mem} {Q : Out → Mem → Prop} {Y : Yd} {m b9 K : Nat} {ac : List St} (h : PQ M0 M b n e w N RR) (hR : RW Y m b9 K w) (hB : CrB Y m b9) (hS : RS9 ac RR) (hq : PRO Q M0 b n w ac (soF b n Y e ac.length)) : WPc (d + 7) mX13_readScriptStatement [.ref (rf 11 0)] M Q := by
  refine WPc.of (by decide +kernel) (Nat.le_of_ble_eq_true rfl) rfl ?_
  unfold soF at hq
  have hl30 := hS.2.1
  cases ev : vbF b (tS b n e) (tE b n e) (tK b n e) 9 0 with
  | none =>
    simp only [ev] at hq
    refine R.aload_n dX13_readScriptStatement_0 rfl (by first | rfl | exact rfv_rf _) ?_
    refine cl_X13_346 rfl rfl (by first | exact Nat.le_of_ble_eq_true rfl | simp [rf_cat, Value.category]) dX13_readScriptStatement_1 ?_
    refine p_scH h ?_
    rw [ev]
    change WP _ _ _ _ (.int 0 :: _) _ _
    refine R.istore_n dX13_readScriptStatement_4 (Nat.le_of_ble_eq_true rfl) (by decide) (by first | rfl | simp [lft, rf_cat]) rfl ?_
    refine R.iload_n dX13_readScriptStatement_5 rfl ?_
    refine R.if_ne (tgt := 15) dX13_readScriptStatement_6 (by decide) (fun c9 => absurd (rfl) c9) (fun _ => ?_)
    refine R.aload_n dX13_readScriptStatement_9 rfl (by first | rfl | exact rfv_rf _) ?_
    refine R.iconst (v := 1) dX13_readScriptStatement_10 rfl ?_
    refine cl_X13_224 rfl rfl (by first | exact Nat.le_of_ble_eq_true rfl | simp [rf_cat, Value.category]) dX13_readScriptStatement_11 ?_
    refine p_fail h (fun M1 h1 => ?_)
    refine WP.ret (ov := some (.int _)) dX13_readScriptStatement_14 ⟨rfl, _, rfl, by first | rfl | assumption | exact nar_b01 (by assumption)⟩ ?_
    exact hq M1 h1
  | some v =>
    have hv : v < 9 := vbF_lt 9 0 (by omega) ev
    simp only [ev] at hq
    by_cases hl : 30 ≤ ac.length
    · rw [if_pos hl] at hq
      have h30 : ac.length = 30 := by omega
      refine R.aload_n dX13_readScriptStatement_0 rfl (by first | rfl | exact rfv_rf _) ?_
      refine cl_X13_346 rfl rfl (by first | exact Nat.le_of_ble_eq_true rfl | simp [rf_cat, Value.category]) dX13_readScriptStatement_1 ?_
      refine p_scH h ?_
      rw [ev]
      change WP _ _ _ _ (.int (nI (v + 1)) :: _) _ _
      refine R.istore_n dX13_readScriptStatement_4 (Nat.le_of_ble_eq_true rfl) (by decide) (by first | rfl | simp [lft, rf_cat]) rfl ?_
      refine R.iload_n dX13_readScriptStatement_5 rfl ?_
      refine R.if_ne (tgt := 15) dX13_readScriptStatement_6 (by decide) (fun _ => ?_) (fun c9 => absurd c9 (nI_ne0 (by omega) (by omega)))
      refine R.aload_n dX13_readScriptStatement_15 rfl (by first | rfl | exact rfv_rf _) ?_
      refine R.getI dX13_readScriptStatement_16 fl_X13_296 (by decide) rfl ?_
      rw [h.o, hS.1]
      refine R.bipush (v := nI 30) dX13_readScriptStatement_19 (by decide) ?_
      refine R.icmp_ne (tgt := 31) dX13_readScriptStatement_21 (by decide) (fun c9 => absurd (by rw [h30]) c9) (fun _ => ?_)
      refine R.aload_n dX13_readScriptStatement_24 rfl (by first | rfl | exact rfv_rf _) ?_
      refine R.bipush (v := 6) dX13_readScriptStatement_25 (by decide) ?_
      refine cl_X13_224 rfl rfl (by first | exact Nat.le_of_ble_eq_true rfl | simp [rf_cat, Value.category]) dX13_readScriptStatement_27 ?_
      refine p_fail h (fun M1 h1 => ?_)
      refine WP.ret (ov := some (.int _)) dX13_readScriptStatement_30 ⟨rfl, _, rfl, by first | rfl | assumption | exact nar_b01 (by assumption)⟩ ?_
      exact hq M1 h1
    · rw [if_neg hl] at hq
      cases es : sqP b n (tE b n e) v Y with
      | inl x =>
        obtain ⟨cd, s9⟩ := x
        simp only [es] at hq
        refine R.aload_n dX13_readScriptStatement_0 rfl (by first | rfl | exact rfv_rf _) ?_
        refine cl_X13_346 rfl rfl (by first | exact Nat.le_of_ble_eq_true rfl | simp [rf_cat, Value.category]) dX13_readScriptStatement_1 ?_
        refine p_scH h ?_
        rw [ev]
        change WP _ _ _ _ (.int (nI (v + 1)) :: _) _ _
        refine R.istore_n dX13_readScriptStatement_4 (Nat.le_of_ble_eq_true rfl) (by decide) (by first | rfl | simp [lft, rf_cat]) rfl ?_
        refine R.iload_n dX13_readScriptStatement_5 rfl ?_
        refine R.if_ne (tgt := 15) dX13_readScriptStatement_6 (by decide) (fun _ => ?_) (fun c9 => absurd c9 (nI_ne0 (by omega) (by omega)))
        refine R.aload_n dX13_readScriptStatement_15 rfl (by first | rfl | exact rfv_rf _) ?_
        refine R.getI dX13_readScriptStatement_16 fl_X13_296 (by decide) rfl ?_
        rw [h.o, hS.1]
        refine R.bipush (v := nI 30) dX13_readScriptStatement_19 (by decide) ?_
        refine R.icmp_ne (tgt := 31) dX13_readScriptStatement_21 (by decide) (fun _ => ?_) (fun c9 => absurd c9 (fun q => hl (Nat.le_of_eq ((nI_inj (by omega) (by omega)).mp q).symm)))
        refine R.aload_n dX13_readScriptStatement_31 rfl (by first | rfl | exact rfv_rf _) ?_
        refine R.iload_n dX13_readScriptStatement_32 rfl ?_
        refine cl_X13_349 rfl rfl (by first | exact Nat.le_of_ble_eq_true rfl | simp [rf_cat, Value.category]) dX13_readScriptStatement_33 ?_
        refine p_tR h hv hR hB ?_
        rw [es]
        intro M2 h2
        refine R.if_ne (tgt := 41) dX13_readScriptStatement_36 (by decide) (fun c9 => absurd (rfl) c9) (fun _ => ?_)
        refine R.iconst (v := 0) dX13_readScriptStatement_39 rfl ?_
        refine WP.ret (ov := some (.int _)) dX13_readScriptStatement_40 ⟨rfl, _, rfl, by first | rfl | assumption | exact nar_b01 (by assumption)⟩ ?_
        exact hq M2 h2
      | inr x =>
        obtain ⟨e2, t⟩ := x
        simp only [es] at hq
        by_cases c7 : scC (tK b n e2) = 0
        · rw [if_pos c7] at hq
          refine R.aload_n dX13_readScriptStatement_0 rfl (by first | rfl | exact rfv_rf _) ?_
          refine cl_X13_346 rfl rfl (by first | exact Nat.le_of_ble_eq_true rfl | simp [rf_cat, Value.category]) dX13_readScriptStatement_1 ?_
          refine p_scH h ?_
          rw [ev]
          change WP _ _ _ _ (.int (nI (v + 1)) :: _) _ _
          refine R.istore_n dX13_readScriptStatement_4 (Nat.le_of_ble_eq_true rfl) (by decide) (by first | rfl | simp [lft, rf_cat]) rfl ?_
          refine R.iload_n dX13_readScriptStatement_5 rfl ?_
          refine R.if_ne (tgt := 15) dX13_readScriptStatement_6 (by decide) (fun _ => ?_) (fun c9 => absurd c9 (nI_ne0 (by omega) (by omega)))
          refine R.aload_n dX13_readScriptStatement_15 rfl (by first | rfl | exact rfv_rf _) ?_
          refine R.getI dX13_readScriptStatement_16 fl_X13_296 (by decide) rfl ?_
          rw [h.o, hS.1]
          refine R.bipush (v := nI 30) dX13_readScriptStatement_19 (by decide) ?_
          refine R.icmp_ne (tgt := 31) dX13_readScriptStatement_21 (by decide) (fun _ => ?_) (fun c9 => absurd c9 (fun q => hl (Nat.le_of_eq ((nI_inj (by omega) (by omega)).mp q).symm)))
          refine R.aload_n dX13_readScriptStatement_31 rfl (by first | rfl | exact rfv_rf _) ?_
          refine R.iload_n dX13_readScriptStatement_32 rfl ?_
          refine cl_X13_349 rfl rfl (by first | exact Nat.le_of_ble_eq_true rfl | simp [rf_cat, Value.category]) dX13_readScriptStatement_33 ?_
          refine p_tR h hv hR hB ?_
          rw [es]
          intro M2 N2 h2 hO
          refine R.if_ne (tgt := 41) dX13_readScriptStatement_36 (by decide) (fun _ => ?_) (fun c9 => absurd c9 (by decide))
          refine R.aload_n dX13_readScriptStatement_41 rfl (by first | rfl | exact rfv_rf _) ?_
          refine R.getS (h2.l.1.2.2.2.2.2.2.2.1) dX13_readScriptStatement_42 fl_X13_35 (by decide) rfl ?_
          refine R.aload_n dX13_readScriptStatement_45 rfl (by first | rfl | exact rfv_rf _) ?_
          refine R.getI dX13_readScriptStatement_46 fl_X13_296 (by decide) rfl ?_
          rw [h2.o, hS.1]
          refine R.iload_n dX13_readScriptStatement_49 rfl ?_
          refine R.iastN (k := ac.length) dX13_readScriptStatement_50 (by omega) (by rw [h2.l.2.2.2.2.2.2.2.2.1]; omega) ?_
          refine R.aload_n dX13_readScriptStatement_51 rfl (by first | rfl | exact rfv_rf _) ?_
          refine R.getS (h2.l.1.2.2.2.2.2.2.2.2.1) dX13_readScriptStatement_52 fl_X13_38 (by decide) rfl ?_
          refine R.iconst (v := nI 2) dX13_readScriptStatement_55 rfl ?_
          refine R.aload_n dX13_readScriptStatement_56 rfl (by first | rfl | exact rfv_rf _) ?_
          refine R.getI dX13_readScriptStatement_57 fl_X13_296 (by decide) rfl ?_
          rw [mI_sI, if_neg (by omega), h2.o, hS.1]
          refine R.imul dX13_readScriptStatement_60 ?_
          rw [pk_mul]
          refine R.aload_n dX13_readScriptStatement_61 rfl (by first | rfl | exact rfv_rf _) ?_
          refine R.getS (h2.l.1.2.2.2.2.2.2.1) dX13_readScriptStatement_62 fl_X13_32 (by decide) rfl ?_
          refine R.iconst (v := nI 0) dX13_readScriptStatement_65 rfl ?_
          refine R.ialdN (k := 0) dX13_readScriptStatement_66 (by omega) (by show 0 < mN M2 14 6; rw [h2.l.2.2.2.2.2.2.2.1]; omega) ?_
          rw [show mI (sI M2 14 7 ac.length (nI (v + 1))) 14 6 = mI M2 14 6 from by funext y; rw [mI_sI, if_neg (by omega)], h2.N]
          refine R.iastN (k := 2 * ac.length) dX13_readScriptStatement_67 (by omega) (by show _ < mN M2 14 8; rw [h2.l.2.2.2.2.2.2.2.2.2.1]; omega) ?_
          refine R.aload_n dX13_readScriptStatement_68 rfl (by first | rfl | exact rfv_rf _) ?_
          refine R.getS (h2.l.1.2.2.2.2.2.2.2.2.1) dX13_readScriptStatement_69 fl_X13_38 (by decide) rfl ?_
          refine R.iconst (v := nI 2) dX13_readScriptStatement_72 rfl ?_
          refine R.aload_n dX13_readScriptStatement_73 rfl (by first | rfl | exact rfv_rf _) ?_
          refine R.getI dX13_readScriptStatement_74 fl_X13_296 (by decide) rfl ?_
          rw [mI_sI, if_neg (by omega), mI_sI, if_neg (by omega), h2.o, hS.1]
          refine R.imul dX13_readScriptStatement_77 ?_
          rw [pk_mul]
          refine R.iconst (v := nI 1) dX13_readScriptStatement_78 rfl ?_
          refine R.iadd dX13_readScriptStatement_79 ?_
          rw [nI_add9]
          refine R.aload_n dX13_readScriptStatement_80 rfl (by first | rfl | exact rfv_rf _) ?_
          refine R.getS (h2.l.1.2.2.2.2.2.2.1) dX13_readScriptStatement_81 fl_X13_32 (by decide) rfl ?_
          refine R.iconst (v := nI 1) dX13_readScriptStatement_84 rfl ?_
          refine R.ialdN (k := 1) dX13_readScriptStatement_85 (by omega) (by show 1 < mN M2 14 6; rw [h2.l.2.2.2.2.2.2.2.1]; omega) ?_
          rw [show mI (sI (sI M2 14 7 ac.length (nI (v + 1))) 14 8 (2 * ac.length) (N2 0)) 14 6 = mI M2 14 6 from by funext y; rw [mI_sI, if_neg (by omega), mI_sI, if_neg (by omega)], h2.N]
          refine R.iastN (k := 2 * ac.length + 1) dX13_readScriptStatement_86 (by omega) (by show _ < mN M2 14 8; rw [h2.l.2.2.2.2.2.2.2.2.2.1]; omega) ?_
          refine R.aload_n dX13_readScriptStatement_87 rfl (by first | rfl | exact rfv_rf _) ?_
          refine R.dup dX13_readScriptStatement_88 (by first | rfl | exact rf_cat _) ?_
          refine R.getI dX13_readScriptStatement_89 fl_X13_296 (by decide) rfl ?_
          rw [mI_sI, if_neg (by omega), mI_sI, if_neg (by omega), mI_sI, if_neg (by omega), h2.o, hS.1]
          refine R.iconst (v := 1) dX13_readScriptStatement_92 rfl ?_
          refine R.iadd dX13_readScriptStatement_93 ?_
          rw [nI_s1]
          refine R.putI dX13_readScriptStatement_94 fl_X13_296 (fun q hq => by cases hq; exact Or.inl rfl) (by decide) rfl rfl rfl ?_
          refine R.aload_n dX13_readScriptStatement_97 rfl (by first | rfl | exact rfv_rf _) ?_
          refine cl_X13_268 rfl rfl (by first | exact Nat.le_of_ble_eq_true rfl | simp [rf_cat, Value.category]) dX13_readScriptStatement_98 ?_
          refine p_semS (h2.ord ac.length _ _ _) c7 (fun M3 h3 => ?_)
          refine WP.ret (ov := some (.int _)) dX13_readScriptStatement_101 ⟨rfl, _, rfl, by first | rfl | assumption | exact nar_b01 (by assumption)⟩ ?_
          exact hq M3 _ _ h3 (hS.snoc (by omega) hO)
        · rw [if_neg c7] at hq
          refine R.aload_n dX13_readScriptStatement_0 rfl (by first | rfl | exact rfv_rf _) ?_
          refine cl_X13_346 rfl rfl (by first | exact Nat.le_of_ble_eq_true rfl | simp [rf_cat, Value.category]) dX13_readScriptStatement_1 ?_
          refine p_scH h ?_
          rw [ev]
          change WP _ _ _ _ (.int (nI (v + 1)) :: _) _ _
          refine R.istore_n dX13_readScriptStatement_4 (Nat.le_of_ble_eq_true rfl) (by decide) (by first | rfl | simp [lft, rf_cat]) rfl ?_
          refine R.iload_n dX13_readScriptStatement_5 rfl ?_
          refine R.if_ne (tgt := 15) dX13_readScriptStatement_6 (by decide) (fun _ => ?_) (fun c9 => absurd c9 (nI_ne0 (by omega) (by omega)))
          refine R.aload_n dX13_readScriptStatement_15 rfl (by first | rfl | exact rfv_rf _) ?_
          refine R.getI dX13_readScriptStatement_16 fl_X13_296 (by decide) rfl ?_
          rw [h.o, hS.1]
          refine R.bipush (v := nI 30) dX13_readScriptStatement_19 (by decide) ?_
          refine R.icmp_ne (tgt := 31) dX13_readScriptStatement_21 (by decide) (fun _ => ?_) (fun c9 => absurd c9 (fun q => hl (Nat.le_of_eq ((nI_inj (by omega) (by omega)).mp q).symm)))
          refine R.aload_n dX13_readScriptStatement_31 rfl (by first | rfl | exact rfv_rf _) ?_
          refine R.iload_n dX13_readScriptStatement_32 rfl ?_
          refine cl_X13_349 rfl rfl (by first | exact Nat.le_of_ble_eq_true rfl | simp [rf_cat, Value.category]) dX13_readScriptStatement_33 ?_
          refine p_tR h hv hR hB ?_
          rw [es]
          intro M2 N2 h2 hO
          refine R.if_ne (tgt := 41) dX13_readScriptStatement_36 (by decide) (fun _ => ?_) (fun c9 => absurd c9 (by decide))
          refine R.aload_n dX13_readScriptStatement_41 rfl (by first | rfl | exact rfv_rf _) ?_
          refine R.getS (h2.l.1.2.2.2.2.2.2.2.1) dX13_readScriptStatement_42 fl_X13_35 (by decide) rfl ?_
          refine R.aload_n dX13_readScriptStatement_45 rfl (by first | rfl | exact rfv_rf _) ?_
          refine R.getI dX13_readScriptStatement_46 fl_X13_296 (by decide) rfl ?_
          rw [h2.o, hS.1]
          refine R.iload_n dX13_readScriptStatement_49 rfl ?_
          refine R.iastN (k := ac.length) dX13_readScriptStatement_50 (by omega) (by rw [h2.l.2.2.2.2.2.2.2.2.1]; omega) ?_
          refine R.aload_n dX13_readScriptStatement_51 rfl (by first | rfl | exact rfv_rf _) ?_
          refine R.getS (h2.l.1.2.2.2.2.2.2.2.2.1) dX13_readScriptStatement_52 fl_X13_38 (by decide) rfl ?_
          refine R.iconst (v := nI 2) dX13_readScriptStatement_55 rfl ?_
          refine R.aload_n dX13_readScriptStatement_56 rfl (by first | rfl | exact rfv_rf _) ?_
          refine R.getI dX13_readScriptStatement_57 fl_X13_296 (by decide) rfl ?_
          rw [mI_sI, if_neg (by omega), h2.o, hS.1]
          refine R.imul dX13_readScriptStatement_60 ?_
          rw [pk_mul]
          refine R.aload_n dX13_readScriptStatement_61 rfl (by first | rfl | exact rfv_rf _) ?_
          refine R.getS (h2.l.1.2.2.2.2.2.2.1) dX13_readScriptStatement_62 fl_X13_32 (by decide) rfl ?_
          refine R.iconst (v := nI 0) dX13_readScriptStatement_65 rfl ?_
          refine R.ialdN (k := 0) dX13_readScriptStatement_66 (by omega) (by show 0 < mN M2 14 6; rw [h2.l.2.2.2.2.2.2.2.1]; omega) ?_
          rw [show mI (sI M2 14 7 ac.length (nI (v + 1))) 14 6 = mI M2 14 6 from by funext y; rw [mI_sI, if_neg (by omega)], h2.N]
          refine R.iastN (k := 2 * ac.length) dX13_readScriptStatement_67 (by omega) (by show _ < mN M2 14 8; rw [h2.l.2.2.2.2.2.2.2.2.2.1]; omega) ?_
          refine R.aload_n dX13_readScriptStatement_68 rfl (by first | rfl | exact rfv_rf _) ?_
          refine R.getS (h2.l.1.2.2.2.2.2.2.2.2.1) dX13_readScriptStatement_69 fl_X13_38 (by decide) rfl ?_
          refine R.iconst (v := nI 2) dX13_readScriptStatement_72 rfl ?_
          refine R.aload_n dX13_readScriptStatement_73 rfl (by first | rfl | exact rfv_rf _) ?_
          refine R.getI dX13_readScriptStatement_74 fl_X13_296 (by decide) rfl ?_
          rw [mI_sI, if_neg (by omega), mI_sI, if_neg (by omega), h2.o, hS.1]
          refine R.imul dX13_readScriptStatement_77 ?_
          rw [pk_mul]
          refine R.iconst (v := nI 1) dX13_readScriptStatement_78 rfl ?_
          refine R.iadd dX13_readScriptStatement_79 ?_
          rw [nI_add9]
          refine R.aload_n dX13_readScriptStatement_80 rfl (by first | rfl | exact rfv_rf _) ?_
          refine R.getS (h2.l.1.2.2.2.2.2.2.1) dX13_readScriptStatement_81 fl_X13_32 (by decide) rfl ?_
          refine R.iconst (v := nI 1) dX13_readScriptStatement_84 rfl ?_
          refine R.ialdN (k := 1) dX13_readScriptStatement_85 (by omega) (by show 1 < mN M2 14 6; rw [h2.l.2.2.2.2.2.2.2.1]; omega) ?_
          rw [show mI (sI (sI M2 14 7 ac.length (nI (v + 1))) 14 8 (2 * ac.length) (N2 0)) 14 6 = mI M2 14 6 from by funext y; rw [mI_sI, if_neg (by omega), mI_sI, if_neg (by omega)], h2.N]
          refine R.iastN (k := 2 * ac.length + 1) dX13_readScriptStatement_86 (by omega) (by show _ < mN M2 14 8; rw [h2.l.2.2.2.2.2.2.2.2.2.1]; omega) ?_
          refine R.aload_n dX13_readScriptStatement_87 rfl (by first | rfl | exact rfv_rf _) ?_
          refine R.dup dX13_readScriptStatement_88 (by first | rfl | exact rf_cat _) ?_
          refine R.getI dX13_readScriptStatement_89 fl_X13_296 (by decide) rfl ?_
          rw [mI_sI, if_neg (by omega), mI_sI, if_neg (by omega), mI_sI, if_neg (by omega), h2.o, hS.1]
          refine R.iconst (v := 1) dX13_readScriptStatement_92 rfl ?_
          refine R.iadd dX13_readScriptStatement_93 ?_
          rw [nI_s1]
          refine R.putI dX13_readScriptStatement_94 fl_X13_296 (fun q hq => by cases hq; exact Or.inl rfl) (by decide) rfl rfl rfl ?_
          refine R.aload_n dX13_readScriptStatement_97 rfl (by first | rfl | exact rfv_rf _) ?_
          refine cl_X13_268 rfl rfl (by first | exact Nat.le_of_ble_eq_true rfl | simp [rf_cat, Value.category]) dX13_readScriptStatement_98 ?_
          refine p_semN (h2.ord ac.length _ _ _) c7 (fun M3 h3 => ?_)
          refine WP.ret (ov := some (.int _)) dX13_readScriptStatement_101 ⟨rfl, _, rfl, by first | rfl | assumption | exact nar_b01 (by assumption)⟩ ?_
          exact hq M3 h3
