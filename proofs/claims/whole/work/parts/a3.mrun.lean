/-! the model runs a script -/
theorem soF_gt {b : Nat → Int32} {n e e2 l : Nat} {Y : Yd} {t : St} (h : soF b n Y e l = .inr (e2, t)) (k0 : ¬ tK b n e = 0) : e < e2 := by
  unfold soF at h
  split at h
  · cases h
  · split at h
    · cases h
    · split at h
      · cases h
      next e' t' hs =>
        split at h
        next hc =>
          cases h
          have h1 := tE_gt k0
          have h2 := sqP_ge hs
          have h3 := tE_gtC hc
          omega
        · cases h
def PSC (M0 : Mem) (b : Nat → Int32) (n : Nat) (w : Nat → Int32) (K : Int32 → Mem → Prop) (r : CR) : Prop := match r with
  | .inl (cd, s) => ∀ M', PX M0 M' cd s w → K 0 M'
  | .inr ts => ∀ M' e' N' RR', PQ M0 M' b n e' w N' RR' → RS9 ts RR' → K 1 M'
/-- readings a script costs -/
def ctL (ts : List St) : Nat := (ts.map ct).sum
def ctS (S : KS) : Nat := match scQ (kB S) (kN S) (kY S) 600 0 [] with
  | .inl _ => 0
  | .inr ts => ctL ts
set_option maxHeartbeats 1000000 in
set_option maxRecDepth 4000 in
theorem p_sc1 {d n m b9 K : Nat} {b w : Nat → Int32} {Y : Yd} {M0 : Mem} {Q : Out → Mem → Prop} (hR : RW Y m b9 K w) (hB : CrB Y m b9) : ∀ (f e : Nat) (ac : List St) (N : Nat → Int32) (RR : OR9) (M1 : Mem), n ≤ e + f → PQ M0 M1 b n e w N RR → RS9 ac RR → PSC M0 b n w (fun g M' => WP mX13_runScript (d + 8) 30 [.ref (rf 11 0), .int g, UN] [] M' Q) (scQ b n Y f e ac) → WP mX13_runScript (d + 8) 11 [.ref (rf 11 0), .int 1, UN] [] M1 Q := by
  have fin : ∀ (e : Nat) (ac : List St) (N : Nat → Int32) (RR : OR9) (M1 : Mem), PQ M0 M1 b n e w N RR → RS9 ac RR → tK b n e = 0 → PSC M0 b n w (fun g M' => WP mX13_runScript (d + 8) 30 [.ref (rf 11 0), .int g, UN] [] M' Q) (.inr ac) → WP mX13_runScript (d + 8) 11 [.ref (rf 11 0), .int 1, UN] [] M1 Q := by
    intro e ac N RR M1 h hS k0 hq
    refine R.iload_n dX13_runScript_11 rfl ?_
    refine R.if_eq (tgt := 30) dX13_runScript_12 (by decide) (fun c9 => absurd c9 (by decide)) (fun _ => ?_)
    refine R.aload_n dX13_runScript_15 rfl (by first | rfl | exact rfv_rf _) ?_
    refine R.getI dX13_runScript_16 fl_X13_203 (by decide) rfl ?_
    rw [h.t.2.2.1]
    refine R.if_eq (tgt := 30) dX13_runScript_19 (by decide) (fun _ => ?_) (fun c9 => absurd ((tkM_c _).1.mpr k0) c9)
    exact hq M1 _ _ _ h hS
  intro f
  induction f with
  | zero =>
    intro e ac N RR M1 hf h hS hq
    have he : e = n := by have := h.en; omega
    subst he
    exact fin e ac N RR M1 h hS tK_end hq
  | succ f ih =>
    intro e ac N RR M1 hf h hS hq
    rw [scQ_s] at hq
    by_cases k0 : tK b n e = 0
    · rw [if_pos k0] at hq
      exact fin e ac N RR M1 h hS k0 hq
    · rw [if_neg k0] at hq
      cases es : soF b n Y e ac.length with
      | inl x =>
        obtain ⟨cd, s9⟩ := x
        simp only [es] at hq
        refine R.iload_n dX13_runScript_11 rfl ?_
        refine R.if_eq (tgt := 30) dX13_runScript_12 (by decide) (fun c9 => absurd c9 (by decide)) (fun _ => ?_)
        refine R.aload_n dX13_runScript_15 rfl (by first | rfl | exact rfv_rf _) ?_
        refine R.getI dX13_runScript_16 fl_X13_203 (by decide) rfl ?_
        rw [h.t.2.2.1]
        refine R.if_eq (tgt := 30) dX13_runScript_19 (by decide) (fun c9 => absurd c9 (fun q => k0 ((tkM_c _).1.mp q))) (fun _ => ?_)
        refine R.aload_n dX13_runScript_22 rfl (by first | rfl | exact rfv_rf _) ?_
        refine cl_X13_382 rfl rfl (by first | exact Nat.le_of_ble_eq_true rfl | simp [rf_cat, Value.category]) dX13_runScript_23 ?_
        refine p_rdO h hR hB hS ?_
        rw [es]
        intro M2 h2
        refine R.istore_n dX13_runScript_26 (Nat.le_of_ble_eq_true rfl) (by decide) (by first | rfl | simp [lft, rf_cat]) rfl ?_
        refine R.goto (tgt := 11) dX13_runScript_27 (by decide) ?_
        refine R.iload_n dX13_runScript_11 rfl ?_
        refine R.if_eq (tgt := 30) dX13_runScript_12 (by decide) (fun _ => ?_) (fun c9 => absurd (rfl) c9)
        exact hq M2 h2
      | inr x =>
        obtain ⟨e2, t2⟩ := x
        simp only [es] at hq
        have g1 := soF_gt es k0
        refine R.iload_n dX13_runScript_11 rfl ?_
        refine R.if_eq (tgt := 30) dX13_runScript_12 (by decide) (fun c9 => absurd c9 (by decide)) (fun _ => ?_)
        refine R.aload_n dX13_runScript_15 rfl (by first | rfl | exact rfv_rf _) ?_
        refine R.getI dX13_runScript_16 fl_X13_203 (by decide) rfl ?_
        rw [h.t.2.2.1]
        refine R.if_eq (tgt := 30) dX13_runScript_19 (by decide) (fun c9 => absurd c9 (fun q => k0 ((tkM_c _).1.mp q))) (fun _ => ?_)
        refine R.aload_n dX13_runScript_22 rfl (by first | rfl | exact rfv_rf _) ?_
        refine cl_X13_382 rfl rfl (by first | exact Nat.le_of_ble_eq_true rfl | simp [rf_cat, Value.category]) dX13_runScript_23 ?_
        refine p_rdO h hR hB hS ?_
        rw [es]
        intro M2 N2 RR2 h2 hS2
        refine R.istore_n dX13_runScript_26 (Nat.le_of_ble_eq_true rfl) (by decide) (by first | rfl | simp [lft, rf_cat]) rfl ?_
        refine R.goto (tgt := 11) dX13_runScript_27 (by decide) ?_
        exact ih e2 (ac ++ [t2]) N2 RR2 M2 (by omega) h2 hS2 hq
theorem CV.ex {Y : Yd} {t u : St} (h : CV Y t) : CV (exY Y u).2 t := CV.keep (yF_exY Y u 4 (by decide)) (yF_exY Y u 5 (by decide)) h
set_option maxHeartbeats 1000000 in
set_option maxRecDepth 4000 in
theorem p_run {d : Nat} {ts : List St} {RR : OR9} {M : Mem} {Q : Out → Mem → Prop} (hL : ML M) (hS : RS9 ts RR) (hM : mI M 11 0 22 = nI ts.length ∧ mI M 14 7 = RR.2.1 ∧ mI M 14 8 = RR.2.2) : ∀ (us : List St) (i T : Nat) (Y : Yd) (w1 : Nat → Int32), ts.drop i = us → i ≤ ts.length → YI Y T w1 → T + ctL us ≤ 57000 → (∀ t, t ∈ us → CV Y t ∧ NV t) → (∀ w2 T2, T2 ≤ T + ctL us → YI (rnF us i Y).2 T2 w2 → Q (.inl (some (.int (nI (rnF us i Y).1)))) (sW M w2)) → WP mX13_runScript (d + 20) 46 [.ref (rf 11 0), .int 1, .int (nI i)] [] (sW M w1) Q := by
  intro us
  induction us with
  | nil =>
    intro i T Y w1 hd hi9 hY hT hC hq
    have h30 := hS.2.1
    have hi : ts.length ≤ i := List.drop_eq_nil_iff.mp hd
    have he : ts.length = i := by omega
    subst he
    refine R.iload_n dX13_runScript_46 rfl ?_
    refine R.aload_n dX13_runScript_47 rfl (by first | rfl | exact rfv_rf _) ?_
    refine R.getI dX13_runScript_48 fl_X13_296 (by decide) rfl ?_
    rw [mI_sWn _ _ (by decide), hM.1]
    refine R.geT (tgt := 68) (Int32.le_refl _) dX13_runScript_51 (by decide) ?_
    refine R.iload_n dX13_runScript_68 rfl ?_
    refine WP.ret (ov := some (.int _)) dX13_runScript_69 ⟨rfl, _, rfl, by first | rfl | assumption | exact nar_b01 (by assumption)⟩ ?_
    exact hq w1 T (Nat.le_add_right _ _) hY
  | cons t us ih =>
    intro i T Y w1 hd hi9 hY hT hC hq
    have h30 := hS.2.1
    have hi : i < ts.length := by
      have : ¬ ts.length ≤ i := fun z => by rw [List.drop_eq_nil_of_le z] at hd; cases hd
      omega
    have hti : ts[i]? = some t := by
      have e9 : (ts.drop i)[0]? = some t := by rw [hd]; rfl
      rw [List.getElem?_drop] at e9
      simpa using e9
    have hO9 : OT t (mI M 14 7 i) (mI M 14 8 (2 * i)) (mI M 14 8 (2 * i + 1)) := by rw [hM.2.1, hM.2.2]; exact hS.2.2 i t hti
    have hdr : ts.drop (i + 1) = us := by simpa [List.tail_drop] using congrArg List.tail hd
    have hC9 := hC t (List.mem_cons_self ..)
    have ecl : ctL (t :: us) = ct t + ctL us := by unfold ctL; rw [List.map_cons, List.sum_cons]
    rw [ecl] at hT
    have hCs : ∀ u, u ∈ us → CV (exY Y t).2 u ∧ NV u := fun u hu => ⟨(hC u (List.mem_cons_of_mem _ hu)).1.ex, (hC u (List.mem_cons_of_mem _ hu)).2⟩
    by_cases e0 : (exY Y t).1 = 0
    · rw [rnF, if_pos e0, ecl] at hq
      refine R.iload_n dX13_runScript_46 rfl ?_
      refine R.aload_n dX13_runScript_47 rfl (by first | rfl | exact rfv_rf _) ?_
      refine R.getI dX13_runScript_48 fl_X13_296 (by decide) rfl ?_
      rw [mI_sWn _ _ (by decide), hM.1]
      refine R.geF (tgt := 68) (nI_ge hi (by omega)) dX13_runScript_51 (by decide) ?_
      refine R.aload_n dX13_runScript_54 rfl (by first | rfl | exact rfv_rf _) ?_
      refine R.iload_n dX13_runScript_55 rfl ?_
      refine cl_X13_388 rfl rfl (by first | exact Nat.le_of_ble_eq_true rfl | simp [rf_cat, Value.category]) dX13_runScript_56 ?_
      refine p_do (d := d + 6) hL hY (by omega) (by omega) hO9 hC9.1 hC9.2 (fun w2 hY2 => ?_)
      refine R.if_eq (tgt := 68) dX13_runScript_59 (by decide) (fun _ => ?_) (fun c9 => absurd (e0) c9)
      refine R.iload_n dX13_runScript_68 rfl ?_
      refine WP.ret (ov := some (.int _)) dX13_runScript_69 ⟨rfl, _, rfl, by first | rfl | assumption | exact nar_b01 (by assumption)⟩ ?_
      exact hq w2 (T + ct t) (by omega) hY2
    · rw [rnF, if_neg e0, ecl] at hq
      have hq : ∀ w2 T2, T2 ≤ T + ct t + ctL us → YI (rnF us (i + 1) (exY Y t).2).2 T2 w2 → Q (.inl (some (.int (nI (rnF us (i + 1) (exY Y t).2).1)))) (sW M w2) := fun w2 T2 h1 h2 => hq w2 T2 (by omega) h2
      refine R.iload_n dX13_runScript_46 rfl ?_
      refine R.aload_n dX13_runScript_47 rfl (by first | rfl | exact rfv_rf _) ?_
      refine R.getI dX13_runScript_48 fl_X13_296 (by decide) rfl ?_
      rw [mI_sWn _ _ (by decide), hM.1]
      refine R.geF (tgt := 68) (nI_ge hi (by omega)) dX13_runScript_51 (by decide) ?_
      refine R.aload_n dX13_runScript_54 rfl (by first | rfl | exact rfv_rf _) ?_
      refine R.iload_n dX13_runScript_55 rfl ?_
      refine cl_X13_388 rfl rfl (by first | exact Nat.le_of_ble_eq_true rfl | simp [rf_cat, Value.category]) dX13_runScript_56 ?_
      refine p_do (d := d + 6) hL hY (by omega) (by omega) hO9 hC9.1 hC9.2 (fun w2 hY2 => ?_)
      refine R.if_eq (tgt := 68) dX13_runScript_59 (by decide) (fun c9 => absurd c9 (e0)) (fun _ => ?_)
      refine R.iinc dX13_runScript_62 (Nat.le_of_ble_eq_true rfl) (by decide) (by first | rfl | simp [lft, rf_cat]) rfl (inc_nI _) rfl ?_
      refine R.goto (tgt := 46) dX13_runScript_65 (by decide) ?_
      exact ih (i + 1) (T + ct t) _ w2 hdr (by omega) hY2 (by omega) hCs hq
theorem MSt.en {M1 M4 : Mem} {S : KS} {T : Nat} {cd q : Int32} (h : MSt M1 S T) (F : FQ pA pP M1 M4) (hw : mI M4 14 0 = mI M1 14 0) : MSt (enM M4 cd q) (kSt S (kB S) 0 cd q) T ∧ mI (enM M4 cd q) 11 0 7 = mI M1 11 0 7 ∧ Fr inM M1 (enM M4 cd q) := by
  have e0 : mI (enM M4 cd q) 14 0 = mI M1 14 0 := by rw [enM, mI_sI9, mI_sI9, mI_sI9, hw]
  have e14 : ∀ i, ¬ pA i → mI (enM M4 cd q) 14 i = mI M1 14 i := fun i hi => by rw [enM, mI_sI9, mI_sI9, mI_sI9, F.2.1 i hi]
  have ef : ∀ f, (f = 5 ∨ f = 6 ∨ f = 7 ∨ f = 25) → mI (enM M4 cd q) 11 0 f = mI M1 11 0 f := fun f hf => by
    rw [enM, mI_sI, if_neg (by omega), mI_sI, if_neg (by omega), mI_sI, if_neg (by omega), F.2.2.1 f (by unfold pP; omega)]
  refine ⟨⟨(F.l h.l).fr rfl rfl, by rw [e0]; exact h.y, h.v.fr (ef 6 (by omega)) (e14 3 (by unfold pA; omega)), h.h.fr (ef 5 (by omega)) (e14 4 (by unfold pA; omega)), ⟨?_, Nat.zero_le _, fun i hi => absurd hi (Nat.not_lt_zero i)⟩, ⟨?_, ?_⟩, h.o.fr (ef 25 (by omega)) (e14 10 (by unfold pA; omega)), h.ob⟩, ef 7 (by omega), F.fr.tr (((Fr_s11 _ _ _).tr (Fr_s11 _ _ _)).tr (Fr_s11 _ _ _))⟩
  · rw [enM, mI_sI, if_neg (by omega), mI_sI, if_neg (by omega), mI_sI, if_pos ⟨rfl, rfl, rfl⟩]; rfl
  · rw [enM, mI_sI, if_neg (by omega), mI_sI, if_pos ⟨rfl, rfl, rfl⟩]; rfl
  · rw [enM, mI_sI, if_pos ⟨rfl, rfl, rfl⟩]; rfl
set_option maxHeartbeats 2000000 in
set_option maxRecDepth 4000 in
theorem n_runScript {d T : Nat} {S : KS} {M : Mem} {Q : Out → Mem → Prop} {p : Nat} (h : MSt M S T) (hT : T ≤ 57000) (hT2 : T + ctS S ≤ 57000) (hq : QMb Q M (T + ctS S) (rRun S p)) : WPc (d + 20) mX13_runScript [.ref (rf 11 0)] M Q := by
  refine WPc.of (by decide +kernel) (Nat.le_of_ble_eq_true rfl) rfl ?_
  refine R.aload_n dX13_runScript_0 rfl (by first | rfl | exact rfv_rf _) ?_
  refine R.iconst (v := 0) dX13_runScript_1 rfl ?_
  refine R.putI dX13_runScript_2 fl_X13_65 (fun q hq => by cases hq; exact Or.inl rfl) (by decide) rfl rfl rfl ?_
  have h1 := h.th 0
  have F1 := Fr_th M 0
  have z1 : mI (sI M 11 0 7 0) 11 0 7 = 0 := th7 M 0
  generalize sI M 11 0 7 0 = M1 at h1 F1 z1 ⊢
  obtain ⟨m, b, hR, hV⟩ := h1.y
  have hL := h1.l
  have hm16 := hV.m16
  have hb6 := hV.b6
  unfold rRun at hq
  unfold ctS at hq hT2
  cases es : scQ (kB S) (kN S) (kY S) 600 0 [] with
  | inl x =>
    obtain ⟨cd, s9⟩ := x
    simp only [es] at hq hT2
    refine R.aload_n dX13_runScript_5 rfl (by first | rfl | exact rfv_rf _) ?_
    refine cl_X13_302 rfl rfl (by first | exact Nat.le_of_ble_eq_true rfl | simp [rf_cat, Value.category]) dX13_runScript_6 ?_
    refine p_start (b := kB S) (n := kN S) hL h1.i (fun M3 h3 => ?_)
    refine R.iconst (v := 1) dX13_runScript_9 rfl ?_
    refine R.istore_n dX13_runScript_10 (Nat.le_of_ble_eq_true rfl) (by decide) (by first | rfl | simp [lft, rf_cat]) rfl ?_
    refine p_sc1 hR hV.c 600 0 [] _ _ _ (by have := h3.n6; omega) h3 ⟨rfl, Nat.zero_le _, fun k t e => by simp at e⟩ ?_
    rw [es]
    intro M4 h4
    obtain ⟨k1, k2, k3⟩ := h1.en (cd := cd) (q := nI s9) h4.1 h4.2.2.2
    refine R.aload_n dX13_runScript_30 rfl (by first | rfl | exact rfv_rf _) ?_
    refine cl_X13_308 rfl rfl (by first | exact Nat.le_of_ble_eq_true rfl | simp [rf_cat, Value.category]) dX13_runScript_31 ?_
    refine p_end h4.2.1 h4.2.2.1 ?_
    refine R.iload_n dX13_runScript_34 rfl ?_
    refine R.if_ne (tgt := 40) dX13_runScript_35 (by decide) (fun c9 => absurd (rfl) c9) (fun _ => ?_)
    refine R.iconst (v := (-1)) dX13_runScript_38 rfl ?_
    refine WP.ret (ov := some (.int _)) dX13_runScript_39 ⟨rfl, _, rfl, by first | rfl | assumption | exact nar_b01 (by assumption)⟩ ?_
    exact hq _ k1 (k2.trans z1) (F1.tr k3)
  | inr ts =>
    simp only [es] at hq hT2
    refine R.aload_n dX13_runScript_5 rfl (by first | rfl | exact rfv_rf _) ?_
    refine cl_X13_302 rfl rfl (by first | exact Nat.le_of_ble_eq_true rfl | simp [rf_cat, Value.category]) dX13_runScript_6 ?_
    refine p_start (b := kB S) (n := kN S) hL h1.i (fun M3 h3 => ?_)
    refine R.iconst (v := 1) dX13_runScript_9 rfl ?_
    refine R.istore_n dX13_runScript_10 (Nat.le_of_ble_eq_true rfl) (by decide) (by first | rfl | simp [lft, rf_cat]) rfl ?_
    refine p_sc1 hR hV.c 600 0 [] _ _ _ (by have := h3.n6; omega) h3 ⟨rfl, Nat.zero_le _, fun k t e => by simp at e⟩ ?_
    rw [es]
    intro M4 e4 N4 RR4 h4 hS4
    obtain ⟨k1, k2, k3⟩ := h1.en (cd := 0) (q := -1) h4.F h4.w
    refine R.aload_n dX13_runScript_30 rfl (by first | rfl | exact rfv_rf _) ?_
    refine cl_X13_308 rfl rfl (by first | exact Nat.le_of_ble_eq_true rfl | simp [rf_cat, Value.category]) dX13_runScript_31 ?_
    refine p_end h4.x h4.x2 ?_
    refine R.iload_n dX13_runScript_34 rfl ?_
    refine R.if_ne (tgt := 40) dX13_runScript_35 (by decide) (fun _ => ?_) (fun c9 => absurd c9 (by decide))
    refine R.aload_n dX13_runScript_40 rfl (by first | rfl | exact rfv_rf _) ?_
    refine cl_X13_385 rfl rfl (by first | exact Nat.le_of_ble_eq_true rfl | simp [rf_cat, Value.category]) dX13_runScript_41 ?_
    refine m_remb k1 (fun M6 h6 e6 t6 F6 X6 => ?_)
    refine R.iconst (v := nI 0) dX13_runScript_44 rfl ?_
    refine R.istore_n dX13_runScript_45 (Nat.le_of_ble_eq_true rfl) (by decide) (by first | rfl | simp [lft, rf_cat]) rfl ?_
    have c7 : ∀ i, ¬ i = 4 → mI M6 14 i = mI M4 14 i := fun i hi => by rw [X6.2.1 i hi, enM, mI_sI9, mI_sI9, mI_sI9]
    have c22 : mI M6 11 0 22 = mI M4 11 0 22 := by rw [X6.2.2.1 22 (by decide), enM, mI_sI, if_neg (by omega), mI_sI, if_neg (by omega), mI_sI, if_neg (by omega)]
    rw [← bW (M := M6) ((c7 0 (by decide)).trans h4.w)]
    refine p_run h6.l hS4 ⟨c22.trans (h4.o.trans hS4.1), (c7 7 (by decide)).trans h4.o7, (c7 8 (by decide)).trans h4.o8⟩ ts 0 T (kY S) _ rfl (Nat.zero_le _) h1.y hT2 (scQ_in hV.c 600 0 [] ts (fun t ht => by simp at ht) es) (fun w2 T2 hT3 hY2 => ?_)
    exact hq _ (h6.sw (hY2.mono hT3) (Nat.le_add_right _ _)) ((th_sW _ _).trans (t6.trans (k2.trans z1))) (F1.tr (k3.tr (F6.tr (Fr_sW9 _ _))))
