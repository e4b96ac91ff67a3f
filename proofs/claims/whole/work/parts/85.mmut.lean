/-! the model's changes, by its state -/
def QMr (Q : Out → Mem → Prop) (M : Mem) (S : KS) (T : Nat) (cd : String → Int32) (r : Rr) : Prop := match r with
  | .inl E => ∀ M', MSt M' S T → mI M' 11 0 7 = cd E → Fr inM M M' → Q (.inl (some (.int 0))) M'
  | .inr (v, S', _) => ∀ M', MSt M' S' (T + 1) → mI M' 11 0 7 = 0 → Fr inM M M' → Q (.inl (some (.int v))) M'
theorem Fr_sW9 (M : Mem) (w : Nat → Int32) : Fr inM M (sW M w) := Fr_sA9 M 0 w
theorem th_sW (M : Mem) (w : Nat → Int32) : mI (sW M w) 11 0 7 = mI M 11 0 7 := by rw [mI_sWn _ _ (by decide)]
theorem MSt.sw {M : Mem} {S : KS} {T T' : Nat} {Y' : Yd} {w' : Nat → Int32} (h : MSt M S T) (hy : YI Y' T' w') (hT : T ≤ T') : MSt (sW M w') (kSy S Y') T' := by
  have h' := h.mono hT
  have e : ∀ i, i ≠ 0 → mI (sW M w') 14 i = mI M 14 i := fun i hi => mI_sWn _ _ (fun z => hi z.2)
  have e2 : ∀ f, mI (sW M w') 11 0 f = mI M 11 0 f := fun f => by rw [mI_sWn _ _ (by decide)]
  refine ⟨h'.l.fr rfl rfl, by rw [mI_sW]; exact hy, h'.v.fr (e2 6) (e 3 (by decide)), h'.h.fr (e2 5) (e 4 (by decide)), h'.i.fr (e2 9) (e 5 (by decide)), ⟨?_, ?_⟩, h'.o.fr (e2 25) (e 10 (by decide)), h'.ob⟩
  · rw [e2]; exact h'.e
  · rw [e2]; exact h'.q
/-- a yard is remembered -/
theorem MH.push {M M' : Mem} {H : List Yd} {Y : Yd} {T : Nat} (h : MH M H T) (hl : H.length ≤ 7) (hY : YI Y T (mI M 14 0)) (e4 : mI M' 14 4 = cpK (mI M 14 4) (mI M 14 0) 0 (370 * H.length) 370) (e5 : mI M' 11 0 5 = nI (H.length + 1)) : MH M' (Y :: H) T := by
  obtain ⟨h1, h2, h3⟩ := h
  refine ⟨e5, by rw [List.length_cons]; omega, fun j Z e => ?_⟩
  rw [e4, List.length_cons]
  cases j with
  | zero =>
    have : Z = Y := by simpa using e.symm
    subst this
    refine hY.eq fun x hx => ?_
    show (if 370 * H.length ≤ 370 * (H.length + 1 - 1 - 0) + x ∧ 370 * (H.length + 1 - 1 - 0) + x < 370 * H.length + 370 then mI M 14 0 (0 + (370 * (H.length + 1 - 1 - 0) + x - 370 * H.length)) else _) = _
    rw [if_pos (by omega)]
    congr 1
    omega
  | succ j =>
    have e2 : H[j]? = some Z := by simpa using e
    have hj := (List.getElem?_eq_some_iff.mp e2).1
    refine (h3 j Z e2).eq fun x hx => ?_
    show (if 370 * H.length ≤ 370 * (H.length + 1 - 1 - (j + 1)) + x ∧ 370 * (H.length + 1 - 1 - (j + 1)) + x < 370 * H.length + 370 then _ else mI M 14 4 (370 * (H.length + 1 - 1 - (j + 1)) + x)) = _
    have e9 : H.length + 1 - 1 - (j + 1) = H.length - 1 - j := by omega
    rw [e9, if_neg (by omega)]
theorem MH.shift {M M' : Mem} {H : List Yd} {T : Nat} (h : MH M H T) (hl : H.length = 8) (e4 : mI M' 14 4 = shK (mI M 14 4) 2590) (e5 : mI M' 11 0 5 = nI 7) : MH M' (H.take 7) T := by
  obtain ⟨h1, h2, h3⟩ := h
  have hl7 : (H.take 7).length = 7 := by rw [List.length_take]; omega
  refine ⟨by rw [hl7]; exact e5, by omega, fun j Z e => ?_⟩
  rw [List.getElem?_take] at e
  split at e
  next hj =>
    rw [e4, hl7]
    refine (h3 j Z e).eq fun x hx => ?_
    show (if 370 * (7 - 1 - j) + x < 2590 then mI M 14 4 (370 * (7 - 1 - j) + x + 370) else _) = _
    rw [if_pos (by omega)]
    congr 1
    omega
  · cases e
theorem take8 {H : List Yd} (Y : Yd) (h : H.length ≤ 7) : (Y :: H).take 8 = Y :: H := List.take_of_length_le (by rw [List.length_cons]; omega)
theorem take8s {H : List Yd} (Y : Yd) : Y :: H.take 7 = (Y :: H).take 8 := rfl
theorem mI_sI9 (M : Mem) (f : Nat) (v : Int32) (i : Nat) : mI (sI M 11 0 f v) 14 i = mI M 14 i := by
  funext x
  rw [mI_sI, if_neg (by omega)]
theorem Fr_s11 (M : Mem) (f : Nat) (v : Int32) : Fr inM M (sI M 11 0 f v) := (Fr.rf _ M).sI (Or.inl rfl)
/-- array a and field f alone are changed -/
def FX (a f0 : Nat) (M M' : Mem) : Prop := (mC M' = mC M ∧ mN M' = mN M ∧ mK M' = mK M ∧ mS M' = mS M ∧ mR M' = mR M ∧ mL M' = mL M ∧ mD M' = mD M) ∧ (∀ i, i ≠ a → mI M' 14 i = mI M 14 i) ∧ (∀ f, f ≠ f0 → mI M' 11 0 f = mI M 11 0 f) ∧ ∀ k i, k ≠ 11 → k ≠ 14 → mI M' k i = mI M k i
theorem FX.fr {a f0 : Nat} {M M' : Mem} (h : FX a f0 M M') : Fr inM M M' := by
  obtain ⟨⟨a1, a2, a3, a4, a5, a6, a7⟩, -, -, a8⟩ := h
  exact ⟨a1, a2, a3, a4, fun k i hn => ⟨a8 k i (fun z => hn (Or.inl z)) (fun z => hn (Or.inr z)), by rw [a6], by rw [a5], by rw [a7]⟩⟩
theorem FX.l {a f0 : Nat} {M M' : Mem} (h : FX a f0 M M') (hL : ML M) : ML M' := hL.fr (by rw [h.1.2.2.2.2.1]) (by rw [h.1.2.1])
theorem FX.rf (a f0 : Nat) (M : Mem) : FX a f0 M M := ⟨⟨rfl, rfl, rfl, rfl, rfl, rfl, rfl⟩, fun _ _ => rfl, fun _ _ => rfl, fun _ _ _ _ => rfl⟩
theorem FX.tr {a f0 : Nat} {M M' M'' : Mem} (h : FX a f0 M M') (g : FX a f0 M' M'') : FX a f0 M M'' := by
  obtain ⟨⟨a1, a2, a3, a4, a5, a6, a7⟩, a8, a9, a0⟩ := h
  obtain ⟨⟨b1, b2, b3, b4, b5, b6, b7⟩, b8, b9, b0⟩ := g
  exact ⟨⟨b1.trans a1, b2.trans a2, b3.trans a3, b4.trans a4, b5.trans a5, b6.trans a6, b7.trans a7⟩, fun i hi => (b8 i hi).trans (a8 i hi), fun f hf => (b9 f hf).trans (a9 f hf), fun k i h1 h2 => (b0 k i h1 h2).trans (a0 k i h1 h2)⟩
theorem FX_sA (M : Mem) (a f0 : Nat) (g : Nat → Int32) : FX a f0 M (sA M a g) := ⟨⟨rfl, rfl, rfl, rfl, rfl, rfl, rfl⟩, fun i hi => mI_sAn _ _ _ (fun z => hi z.2), fun f _ => by rw [mI_sAn _ _ _ (by omega)], fun k i _ h2 => mI_sAn _ _ _ (fun z => h2 z.1)⟩
theorem FX_sI (M : Mem) (a f0 : Nat) (v : Int32) : FX a f0 M (sI M 11 0 f0 v) := ⟨⟨rfl, rfl, rfl, rfl, rfl, rfl, rfl⟩, fun i _ => mI_sI9 _ _ _ _, fun f hf => by rw [mI_sI, if_neg (by omega)], fun k i h1 _ => by funext x; rw [mI_sI, if_neg (by omega)]⟩
theorem FX_sI14 (M : Mem) (a f0 c : Nat) (v : Int32) : FX a f0 M (sI M 14 a c v) := ⟨⟨rfl, rfl, rfl, rfl, rfl, rfl, rfl⟩, fun i hi => by funext x; rw [mI_sI, if_neg (by omega)], fun f _ => by rw [mI_sI, if_neg (by omega)], fun k i _ h2 => by funext x; rw [mI_sI, if_neg (by omega)]⟩
theorem MSt.rem8 {M : Mem} {S : KS} {T : Nat} {g : Nat → Int32} {v : Int32} {L : List Yd} (h : MSt M S T) (P : MH (sI (sA M 4 g) 11 0 5 v) L T) : MSt (sI (sA M 4 g) 11 0 5 v) (kSh S L) T := by
  have e : ∀ i, i ≠ 4 → mI (sI (sA M 4 g) 11 0 5 v) 14 i = mI M 14 i := fun i hi => by rw [mI_sI9]; exact mI_sAn _ _ _ (fun z => hi z.2)
  have e2 : ∀ f, f ≠ 5 → mI (sI (sA M 4 g) 11 0 5 v) 11 0 f = mI M 11 0 f := fun f hf => by rw [mI_sI, if_neg (by omega), mI_sAn _ _ _ (by decide)]
  refine ⟨h.l.fr rfl rfl, by rw [e 0 (by decide)]; exact h.y, h.v.fr (e2 6 (by decide)) (e 3 (by decide)), P, h.i.fr (e2 9 (by decide)) (e 5 (by decide)), ⟨?_, ?_⟩, h.o.fr (e2 25 (by decide)) (e 10 (by decide)), h.ob⟩
  · rw [e2 10 (by decide)]; exact h.e
  · rw [e2 11 (by decide)]; exact h.q
theorem MSt.rem9 {M : Mem} {S S' : KS} {T : Nat} {g : Nat → Int32} {v : Int32} (h : MSt M S T) (P : MH (sI (sA M 4 g) 11 0 5 v) (kH S') T) (e : S' = kSh S (kH S') := by rfl) : MSt (sI (sA M 4 g) 11 0 5 v) S' T := by
  rw [e]
  exact h.rem8 P
set_option maxHeartbeats 2000000 in
set_option maxRecDepth 4000 in
theorem m_remb {d T : Nat} {S : KS} {M : Mem} {Q : Out → Mem → Prop} (h : MSt M S T) (hq : ∀ M', MSt M' (kR S) T → mI M' 14 0 = mI M 14 0 → mI M' 11 0 7 = mI M 11 0 7 → Fr inM M M' → FX 4 5 M M' → Q (.inl none) M') : WPc (d + 1) mX13_remembers [.ref (rf 11 0)] M Q := by
  refine WPc.of (by decide +kernel) (Nat.le_of_ble_eq_true rfl) rfl ?_
  have hl9 := h.h.2.1
  by_cases hl8 : (kH S).length = 8
  · refine R.aload_n dX13_remembers_0 rfl (by first | rfl | exact rfv_rf _) ?_
    refine R.getI dX13_remembers_1 fl_X13_178 (by decide) rfl ?_
    rw [h.h.1]
    refine R.bipush (v := nI 8) dX13_remembers_4 (by decide) ?_
    refine R.icmp_ne (tgt := 50) dX13_remembers_6 (by decide) (fun c9 => absurd (by rw [hl8]) c9) (fun _ => ?_)
    refine R.iconst (v := nI 0) dX13_remembers_9 rfl ?_
    refine R.istore_n dX13_remembers_10 (Nat.le_of_ble_eq_true rfl) (by decide) (by first | rfl | simp [lft, rf_cat]) rfl ?_
    refine m_shift h.l (fun v' => ?_)
    have hL2 : ML (sA M 4 (shK (mI M 14 4) 2590)) := h.l.fr rfl rfl
    refine R.aload_n dX13_remembers_40 rfl (by first | rfl | exact rfv_rf _) ?_
    refine R.dup dX13_remembers_41 (by first | rfl | exact rf_cat _) ?_
    refine R.getI dX13_remembers_42 fl_X13_178 (by decide) rfl ?_
    rw [mI_sAn _ _ _ (by omega), h.h.1, hl8]
    refine R.iconst (v := 1) dX13_remembers_45 rfl ?_
    refine R.isub dX13_remembers_46 ?_
    rw [show nI 8 - 1 = nI 7 from nI_pred 7]
    refine R.putI dX13_remembers_47 fl_X13_178 (fun q hq => by cases hq; exact Or.inl rfl) (by decide) rfl rfl rfl ?_
    have P0 := h.h.shift (M' := sI (sA M 4 (shK (mI M 14 4) 2590)) 11 0 5 (nI 7)) hl8 (by
      rw [mI_sI9, mI_sA]) (by rw [mI_sI, if_pos ⟨rfl, rfl, rfl⟩])
    have hl7 : ((kH S).take 7).length = 7 := by rw [List.length_take]; omega
    refine m_rem50 (H := (kH S).take 7) (M := sI (sA M 4 (shK (mI M 14 4) 2590)) 11 0 5 (nI 7)) hL2 ⟨P0.1, by omega⟩ ?_
    have hy : YI (kY S) T (mI (sI (sA M 4 (shK (mI M 14 4) 2590)) 11 0 5 (nI 7)) 14 0) := by
      rw [mI_sI9, mI_sAn _ _ _ (by decide)]; exact h.y
    have P := P0.push (M' := sI (sA (sI (sA M 4 (shK (mI M 14 4) 2590)) 11 0 5 (nI 7)) 4 (cpK (mI (sI (sA M 4 (shK (mI M 14 4) 2590)) 11 0 5 (nI 7)) 14 4) (mI (sI (sA M 4 (shK (mI M 14 4) 2590)) 11 0 5 (nI 7)) 14 0) 0 (370 * ((kH S).take 7).length) 370)) 11 0 5 (nI (((kH S).take 7).length + 1))) (Y := kY S) (by omega) hy (by
      rw [mI_sI9, mI_sA]) (by rw [mI_sI, if_pos ⟨rfl, rfl, rfl⟩])
    refine hq _ ?_ (by rw [mI_sI9, mI_sAn _ _ _ (by decide), mI_sI9, mI_sAn _ _ _ (by decide)]) (by rw [mI_sI, if_neg (by decide), mI_sAn _ _ _ (by decide), mI_sI, if_neg (by decide), mI_sAn _ _ _ (by decide)]) ((((Fr_sA9 _ _ _).tr (Fr_s11 _ _ _)).tr (Fr_sA9 _ _ _)).tr (Fr_s11 _ _ _)) ((((FX_sA _ 4 5 _).tr (FX_sI _ 4 5 _)).tr (FX_sA _ 4 5 _)).tr (FX_sI _ 4 5 _))
    have h0 : MSt (sI (sA M 4 (shK (mI M 14 4) 2590)) 11 0 5 (nI 7)) (kSh S ((kH S).take 7)) T := h.rem8 P0
    exact h0.rem9 (S' := kR S) P
  · refine R.aload_n dX13_remembers_0 rfl (by first | rfl | exact rfv_rf _) ?_
    refine R.getI dX13_remembers_1 fl_X13_178 (by decide) rfl ?_
    rw [h.h.1]
    refine R.bipush (v := nI 8) dX13_remembers_4 (by decide) ?_
    refine R.icmp_ne (tgt := 50) dX13_remembers_6 (by decide) (fun _ => ?_) (fun c9 => absurd c9 (fun q => hl8 ((nI_inj (by omega) (by omega)).mp q)))
    refine m_rem50 h.l ⟨h.h.1, by omega⟩ ?_
    have P := h.h.push (M' := sI (sA M 4 (cpK (mI M 14 4) (mI M 14 0) 0 (370 * (kH S).length) 370)) 11 0 5 (nI ((kH S).length + 1))) (Y := kY S) (by omega) h.y (by
      rw [mI_sI9, mI_sA]) (by rw [mI_sI, if_pos ⟨rfl, rfl, rfl⟩])
    have e9 : kH (kR S) = kY S :: kH S := take8 _ (by omega)
    refine hq _ ?_ (by rw [mI_sI9, mI_sAn _ _ _ (by decide)]) (by rw [mI_sI, if_neg (by decide), mI_sAn _ _ _ (by decide)]) ((Fr_sA9 _ _ _).tr (Fr_s11 _ _ _)) ((FX_sA _ 4 5 _).tr (FX_sI _ 4 5 _))
    exact h.rem9 (by rw [e9]; exact P)
set_option maxHeartbeats 2000000 in
set_option maxRecDepth 4000 in
theorem n_weigh {d T : Nat} {S : KS} {M : Mem} {Q : Out → Mem → Prop} {p : Nat} {x : Int32} (h : MSt M S T) (hT : T ≤ 57000) (hq : QMr Q M S T cdB (rC S x fun i => if yC (kY S) i 7 = 0 then .inl eS else r1 S p (tkY (kY S) i).1 (tkY (kY S) i).2)) : WPc (d + 20) mX13_weigh [.ref (rf 11 0), .int x] M Q := by
  refine WPc.of (by decide +kernel) (Nat.le_of_ble_eq_true rfl) rfl ?_
  refine R.aload_n dX13_weigh_0 rfl (by first | rfl | exact rfv_rf _) ?_
  refine R.iconst (v := 0) dX13_weigh_1 rfl ?_
  refine R.putI dX13_weigh_2 fl_X13_65 (fun q hq => by cases hq; exact Or.inl rfl) (by decide) rfl rfl rfl ?_
  have h1 := h.th 0
  have F1 := Fr_th M 0
  have z1 : mI (sI M 11 0 7 0) 11 0 7 = 0 := th7 M 0
  generalize sI M 11 0 7 0 = M1 at h1 F1 z1 ⊢
  obtain ⟨m, b, hR, hV⟩ := h1.y
  have hL := h1.l
  have hm16 := hV.m16
  have hb6 := hV.b6
  rw [← bW (M := M1) rfl]
  generalize hw : mI M1 14 0 = w at hR ⊢
  cases hx : kC (kY S) x with
  | none =>
    rw [rC_n hx] at hq
    refine R.aload_n dX13_weigh_5 rfl (by first | rfl | exact rfv_rf _) ?_
    refine R.iload_n dX13_weigh_6 rfl ?_
    refine cl_X13_395 rfl rfl (by first | exact Nat.le_of_ble_eq_true rfl | simp [rf_cat, Value.category]) dX13_weigh_7 ?_
    refine m_noCN hL hR hV.f4 hx ?_
    refine R.if_ne (tgt := 34) dX13_weigh_10 (by decide) (fun _ => ?_) (fun c9 => absurd c9 (by decide))
    refine R.iconst (v := 0) dX13_weigh_34 rfl ?_
    refine WP.ret (ov := some (.int _)) dX13_weigh_35 ⟨rfl, _, rfl, by first | rfl | assumption | exact nar_b01 (by assumption)⟩ ?_
    rw [bW (show mI (sI M1 11 0 7 1) 14 0 = w from hw)]
    exact hq _ (h1.th _) ((th7 _ _).trans cdB_I.symm) (F1.tr (Fr_th _ _))
  | some i =>
    rw [rC_s hx] at hq
    obtain ⟨ex, hi⟩ := kC_m hx hm16 hV.f4
    subst ex
    by_cases c7 : yC (kY S) i 7 = 0
    · simp only [if_pos c7] at hq
      refine R.aload_n dX13_weigh_5 rfl (by first | rfl | exact rfv_rf _) ?_
      refine R.iload_n dX13_weigh_6 rfl ?_
      refine cl_X13_395 rfl rfl (by first | exact Nat.le_of_ble_eq_true rfl | simp [rf_cat, Value.category]) dX13_weigh_7 ?_
      refine m_noCS hL hR hV.f4 hx ?_
      refine R.if_ne (tgt := 34) dX13_weigh_10 (by decide) (fun c9 => absurd (rfl) c9) (fun _ => ?_)
      refine R.aload_n dX13_weigh_13 rfl (by first | rfl | exact rfv_rf _) ?_
      refine R.aload_n dX13_weigh_14 rfl (by first | rfl | exact rfv_rf _) ?_
      refine R.iload_n dX13_weigh_15 rfl ?_
      refine cl_X13_136 rfl rfl (by first | exact Nat.le_of_ble_eq_true rfl | simp [rf_cat, Value.category]) dX13_weigh_16 ?_
      refine m_th hL hR hi ?_
      rw [if_pos c7]
      refine R.if_ne (tgt := 26) dX13_weigh_19 (by decide) (fun c9 => absurd (rfl) c9) (fun _ => ?_)
      refine R.iconst (v := 1) dX13_weigh_22 rfl ?_
      refine R.goto (tgt := 27) dX13_weigh_23 (by decide) ?_
      refine R.iconst (v := 2) dX13_weigh_27 rfl ?_
      refine cl_X13_391 rfl rfl (by first | exact Nat.le_of_ble_eq_true rfl | simp [rf_cat, Value.category]) dX13_weigh_28 ?_
      refine m_fail1 ?_
      rw [sI_sWf M1 w 0 7 2 (by decide)]
      refine R.if_eq (tgt := 36) dX13_weigh_31 (by decide) (fun c9 => absurd c9 (by decide)) (fun _ => ?_)
      refine R.iconst (v := 0) dX13_weigh_34 rfl ?_
      refine WP.ret (ov := some (.int _)) dX13_weigh_35 ⟨rfl, _, rfl, by first | rfl | assumption | exact nar_b01 (by assumption)⟩ ?_
      rw [bW (show mI (sI M1 11 0 7 2) 14 0 = w from hw)]
      exact hq _ (h1.th _) ((th7 _ _).trans cdB_S.symm) (F1.tr (Fr_th _ _))
    · simp only [if_neg c7] at hq
      refine R.aload_n dX13_weigh_5 rfl (by first | rfl | exact rfv_rf _) ?_
      refine R.iload_n dX13_weigh_6 rfl ?_
      refine cl_X13_395 rfl rfl (by first | exact Nat.le_of_ble_eq_true rfl | simp [rf_cat, Value.category]) dX13_weigh_7 ?_
      refine m_noCS hL hR hV.f4 hx ?_
      refine R.if_ne (tgt := 34) dX13_weigh_10 (by decide) (fun c9 => absurd (rfl) c9) (fun _ => ?_)
      refine R.aload_n dX13_weigh_13 rfl (by first | rfl | exact rfv_rf _) ?_
      refine R.aload_n dX13_weigh_14 rfl (by first | rfl | exact rfv_rf _) ?_
      refine R.iload_n dX13_weigh_15 rfl ?_
      refine cl_X13_136 rfl rfl (by first | exact Nat.le_of_ble_eq_true rfl | simp [rf_cat, Value.category]) dX13_weigh_16 ?_
      refine m_th hL hR hi ?_
      rw [if_neg c7]
      refine R.if_ne (tgt := 26) dX13_weigh_19 (by decide) (fun _ => ?_) (fun c9 => absurd c9 (by decide))
      refine R.iconst (v := 0) dX13_weigh_26 rfl ?_
      refine R.iconst (v := 2) dX13_weigh_27 rfl ?_
      refine cl_X13_391 rfl rfl (by first | exact Nat.le_of_ble_eq_true rfl | simp [rf_cat, Value.category]) dX13_weigh_28 ?_
      refine m_fail0 ?_
      refine R.if_eq (tgt := 36) dX13_weigh_31 (by decide) (fun _ => ?_) (fun c9 => absurd (rfl) c9)
      refine R.aload_n dX13_weigh_36 rfl (by first | rfl | exact rfv_rf _) ?_
      refine cl_X13_385 rfl rfl (by first | exact Nat.le_of_ble_eq_true rfl | simp [rf_cat, Value.category]) dX13_weigh_37 ?_
      rw [bW hw]
      refine m_remb h1 (fun M2 h2 e2 t2 F2 X2 => ?_)
      rw [← bW (M := M2) (e2.trans hw)]
      have hL2 := h2.l
      refine R.aload_n dX13_weigh_40 rfl (by first | rfl | exact rfv_rf _) ?_
      refine R.iload_n dX13_weigh_41 rfl ?_
      refine cl_X13_117 rfl rfl (by first | exact Nat.le_of_ble_eq_true rfl | simp [rf_cat, Value.category]) dX13_weigh_42 ?_
      refine m_weighs (d := d + 10) hL2 hR (by omega) (hV.wg (by omega) (by omega)) (fun w3 hR3 => ?_)
      refine WP.ret (ov := some (.int _)) dX13_weigh_45 ⟨rfl, _, rfl, by first | rfl | assumption | exact nar_b01 (by assumption)⟩ ?_
      exact hq _ (h2.sw (T' := T + 1) ⟨m, b, hR3.mono (Nat.le_succ T), hV.tk hT hi⟩ (Nat.le_succ T)) ((th_sW _ _).trans (t2.trans z1)) (F1.tr (F2.tr (Fr_sW9 _ _)))
/-- may a weight be added: the class's test and the model's -/
theorem gd_in {Y : Yd} {m b T i : Nat} {x : Int32} (h : PV Y m b T) (hi : i < 16) (h0 : 0 ≤ yC Y i 3 + x) (h5 : yC Y i 3 + x ≤ 500) : ∃ go, yC Y i 3 + x = nI go ∧ go ≤ 500 := by
  obtain ⟨j, hj, e⟩ := nI_of (x := yC Y i 3 + x) (fun z => absurd h0 (i_nle z))
  rw [e, show (500 : Int32) = nI 500 from rfl] at h5
  exact ⟨j, e, (nI_leI hj (by omega)).mp h5⟩
set_option maxHeartbeats 2000000 in
set_option maxRecDepth 4000 in
theorem n_chg {d T p : Nat} {S : KS} {M M1 : Mem} {Q : Out → Mem → Prop} {x z y : Int32} (h1 : MSt M1 S T) (hT : T ≤ 57000) (F1 : Fr inM M M1) (z1 : mI M1 11 0 7 = 0) (hq : QMr Q M S T cdC (rC S x fun i => if 1 ≤ z ∧ z ≤ 500 then (if (if ¬ yC (kY S) i 7 = 0 ∧ 0 ≤ yC (kY S) i 3 + y ∧ yC (kY S) i 3 + y ≤ 500 then (1 : Int32) else 0) = 0 then .inl eS else r1 S p (yC (cgY (kY S) i y) i 4) (cgY (kY S) i y)) else .inl eA)) : WPc (d + 19) mX13_changesGoods [.ref (rf 11 0), .int x, .int z, .int y] M1 Q := by
  refine WPc.of (by decide +kernel) (Nat.le_of_ble_eq_true rfl) rfl ?_
  obtain ⟨m, b, hR, hV⟩ := h1.y
  have hL := h1.l
  have hm16 := hV.m16
  rw [← bW (M := M1) rfl]
  generalize hw : mI M1 14 0 = w at hR ⊢
  cases hx : kC (kY S) x with
  | none =>
    rw [rC_n hx] at hq
    refine R.aload_n dX13_changesGoods_0 rfl (by first | rfl | exact rfv_rf _) ?_
    refine R.iload_n dX13_changesGoods_1 rfl ?_
    refine cl_X13_395 rfl rfl (by first | exact Nat.le_of_ble_eq_true rfl | simp [rf_cat, Value.category]) dX13_changesGoods_2 ?_
    refine m_noCN hL hR hV.f4 hx ?_
    refine R.if_ne (tgt := 54) dX13_changesGoods_5 (by decide) (fun _ => ?_) (fun c9 => absurd c9 (by decide))
    refine R.iconst (v := 0) dX13_changesGoods_54 rfl ?_
    refine WP.ret (ov := some (.int _)) dX13_changesGoods_55 ⟨rfl, _, rfl, by first | rfl | assumption | exact nar_b01 (by assumption)⟩ ?_
    rw [bW (show mI (sI M1 11 0 7 1) 14 0 = w from hw)]
    exact hq _ (h1.th _) ((th7 _ _).trans cdC_I.symm) (F1.tr (Fr_th _ _))
  | some i =>
    rw [rC_s hx] at hq
    obtain ⟨ex, hi⟩ := kC_m hx hm16 hV.f4
    subst ex
    by_cases hr : 1 ≤ z ∧ z ≤ 500
    · simp only [if_pos hr] at hq
      by_cases hm : ¬ yC (kY S) i 7 = 0 ∧ 0 ≤ yC (kY S) i 3 + y ∧ yC (kY S) i 3 + y ≤ 500
      · obtain ⟨go, eg, hg⟩ := gd_in hV (by omega) hm.2.1 hm.2.2
        simp only [if_pos hm, if_neg (by decide : ¬ (1 : Int32) = 0)] at hq
        refine R.aload_n dX13_changesGoods_0 rfl (by first | rfl | exact rfv_rf _) ?_
        refine R.iload_n dX13_changesGoods_1 rfl ?_
        refine cl_X13_395 rfl rfl (by first | exact Nat.le_of_ble_eq_true rfl | simp [rf_cat, Value.category]) dX13_changesGoods_2 ?_
        refine m_noCS hL hR hV.f4 hx ?_
        refine R.if_ne (tgt := 54) dX13_changesGoods_5 (by decide) (fun c9 => absurd (rfl) c9) (fun _ => ?_)
        refine R.aload_n dX13_changesGoods_8 rfl (by first | rfl | exact rfv_rf _) ?_
        refine R.iload_n dX13_changesGoods_9 rfl ?_
        refine R.iconst (v := 1) dX13_changesGoods_10 rfl ?_
        refine R.sipush (v := 500) dX13_changesGoods_11 (by decide) ?_
        refine cl_X13_140 rfl rfl (by first | exact Nat.le_of_ble_eq_true rfl | simp [rf_cat, Value.category]) dX13_changesGoods_14 ?_
        refine m_inR ?_
        rw [if_pos hr]
        refine R.if_ne (tgt := 24) dX13_changesGoods_17 (by decide) (fun _ => ?_) (fun c9 => absurd c9 (by decide))
        refine R.iconst (v := 0) dX13_changesGoods_24 rfl ?_
        refine R.iconst (v := 2) dX13_changesGoods_25 rfl ?_
        refine cl_X13_391 rfl rfl (by first | exact Nat.le_of_ble_eq_true rfl | simp [rf_cat, Value.category]) dX13_changesGoods_26 ?_
        refine m_fail0 ?_
        refine R.if_ne (tgt := 54) dX13_changesGoods_29 (by decide) (fun c9 => absurd (rfl) c9) (fun _ => ?_)
        refine R.aload_n dX13_changesGoods_32 rfl (by first | rfl | exact rfv_rf _) ?_
        refine R.aload_n dX13_changesGoods_33 rfl (by first | rfl | exact rfv_rf _) ?_
        refine R.iload_n dX13_changesGoods_34 rfl ?_
        refine R.iload_n dX13_changesGoods_35 rfl ?_
        refine cl_X13_355 rfl rfl (by first | exact Nat.le_of_ble_eq_true rfl | simp [rf_cat, Value.category]) dX13_changesGoods_36 ?_
        refine m_mayAdd (d := d + 16) hL hR hi ?_
        rw [if_pos hm]
        refine R.if_ne (tgt := 46) dX13_changesGoods_39 (by decide) (fun _ => ?_) (fun c9 => absurd c9 (by decide))
        refine R.iconst (v := 0) dX13_changesGoods_46 rfl ?_
        refine R.iconst (v := 3) dX13_changesGoods_47 rfl ?_
        refine cl_X13_391 rfl rfl (by first | exact Nat.le_of_ble_eq_true rfl | simp [rf_cat, Value.category]) dX13_changesGoods_48 ?_
        refine m_fail0 ?_
        refine R.if_eq (tgt := 56) dX13_changesGoods_51 (by decide) (fun _ => ?_) (fun c9 => absurd (rfl) c9)
        refine R.aload_n dX13_changesGoods_56 rfl (by first | rfl | exact rfv_rf _) ?_
        refine cl_X13_385 rfl rfl (by first | exact Nat.le_of_ble_eq_true rfl | simp [rf_cat, Value.category]) dX13_changesGoods_57 ?_
        rw [bW hw]
        refine m_remb h1 (fun M2 h2 e2 t2 F2 X2 => ?_)
        rw [← bW (M := M2) (e2.trans hw)]
        have hL2 := h2.l
        refine R.aload_n dX13_changesGoods_60 rfl (by first | rfl | exact rfv_rf _) ?_
        refine R.iload_n dX13_changesGoods_61 rfl ?_
        refine R.iload_n dX13_changesGoods_62 rfl ?_
        refine cl_X13_358 rfl rfl (by first | exact Nat.le_of_ble_eq_true rfl | simp [rf_cat, Value.category]) dX13_changesGoods_63 ?_
        refine m_adds (d := d + 9) hL2 hR hi hV.acy (PV.cg hV (by omega) eg hg).l (fun w3 hR3 => ?_)
        refine WP.ret (ov := some (.int _)) dX13_changesGoods_66 ⟨rfl, _, rfl, by first | rfl | assumption | exact nar_b01 (by assumption)⟩ ?_
        exact hq _ (h2.sw (T' := T + 1) ⟨m, b, hR3.mono (Nat.le_succ T), (hV.cg (by omega) eg hg).mono (Nat.le_succ T)⟩ (Nat.le_succ T)) ((th_sW _ _).trans (t2.trans z1)) (F1.tr (F2.tr (Fr_sW9 _ _)))
      · simp only [if_neg hm, if_pos] at hq
        refine R.aload_n dX13_changesGoods_0 rfl (by first | rfl | exact rfv_rf _) ?_
        refine R.iload_n dX13_changesGoods_1 rfl ?_
        refine cl_X13_395 rfl rfl (by first | exact Nat.le_of_ble_eq_true rfl | simp [rf_cat, Value.category]) dX13_changesGoods_2 ?_
        refine m_noCS hL hR hV.f4 hx ?_
        refine R.if_ne (tgt := 54) dX13_changesGoods_5 (by decide) (fun c9 => absurd (rfl) c9) (fun _ => ?_)
        refine R.aload_n dX13_changesGoods_8 rfl (by first | rfl | exact rfv_rf _) ?_
        refine R.iload_n dX13_changesGoods_9 rfl ?_
        refine R.iconst (v := 1) dX13_changesGoods_10 rfl ?_
        refine R.sipush (v := 500) dX13_changesGoods_11 (by decide) ?_
        refine cl_X13_140 rfl rfl (by first | exact Nat.le_of_ble_eq_true rfl | simp [rf_cat, Value.category]) dX13_changesGoods_14 ?_
        refine m_inR ?_
        rw [if_pos hr]
        refine R.if_ne (tgt := 24) dX13_changesGoods_17 (by decide) (fun _ => ?_) (fun c9 => absurd c9 (by decide))
        refine R.iconst (v := 0) dX13_changesGoods_24 rfl ?_
        refine R.iconst (v := 2) dX13_changesGoods_25 rfl ?_
        refine cl_X13_391 rfl rfl (by first | exact Nat.le_of_ble_eq_true rfl | simp [rf_cat, Value.category]) dX13_changesGoods_26 ?_
        refine m_fail0 ?_
        refine R.if_ne (tgt := 54) dX13_changesGoods_29 (by decide) (fun c9 => absurd (rfl) c9) (fun _ => ?_)
        refine R.aload_n dX13_changesGoods_32 rfl (by first | rfl | exact rfv_rf _) ?_
        refine R.aload_n dX13_changesGoods_33 rfl (by first | rfl | exact rfv_rf _) ?_
        refine R.iload_n dX13_changesGoods_34 rfl ?_
        refine R.iload_n dX13_changesGoods_35 rfl ?_
        refine cl_X13_355 rfl rfl (by first | exact Nat.le_of_ble_eq_true rfl | simp [rf_cat, Value.category]) dX13_changesGoods_36 ?_
        refine m_mayAdd (d := d + 16) hL hR hi ?_
        rw [if_neg hm]
        refine R.if_ne (tgt := 46) dX13_changesGoods_39 (by decide) (fun c9 => absurd (rfl) c9) (fun _ => ?_)
        refine R.iconst (v := 1) dX13_changesGoods_42 rfl ?_
        refine R.goto (tgt := 47) dX13_changesGoods_43 (by decide) ?_
        refine R.iconst (v := 3) dX13_changesGoods_47 rfl ?_
        refine cl_X13_391 rfl rfl (by first | exact Nat.le_of_ble_eq_true rfl | simp [rf_cat, Value.category]) dX13_changesGoods_48 ?_
        refine m_fail1 ?_
        rw [sI_sWf M1 w 0 7 3 (by decide)]
        refine R.if_eq (tgt := 56) dX13_changesGoods_51 (by decide) (fun c9 => absurd c9 (by decide)) (fun _ => ?_)
        refine R.iconst (v := 0) dX13_changesGoods_54 rfl ?_
        refine WP.ret (ov := some (.int _)) dX13_changesGoods_55 ⟨rfl, _, rfl, by first | rfl | assumption | exact nar_b01 (by assumption)⟩ ?_
        rw [bW (show mI (sI M1 11 0 7 3) 14 0 = w from hw)]
        exact hq _ (h1.th _) ((th7 _ _).trans cdC_S.symm) (F1.tr (Fr_th _ _))
    · simp only [if_neg hr] at hq
      refine R.aload_n dX13_changesGoods_0 rfl (by first | rfl | exact rfv_rf _) ?_
      refine R.iload_n dX13_changesGoods_1 rfl ?_
      refine cl_X13_395 rfl rfl (by first | exact Nat.le_of_ble_eq_true rfl | simp [rf_cat, Value.category]) dX13_changesGoods_2 ?_
      refine m_noCS hL hR hV.f4 hx ?_
      refine R.if_ne (tgt := 54) dX13_changesGoods_5 (by decide) (fun c9 => absurd (rfl) c9) (fun _ => ?_)
      refine R.aload_n dX13_changesGoods_8 rfl (by first | rfl | exact rfv_rf _) ?_
      refine R.iload_n dX13_changesGoods_9 rfl ?_
      refine R.iconst (v := 1) dX13_changesGoods_10 rfl ?_
      refine R.sipush (v := 500) dX13_changesGoods_11 (by decide) ?_
      refine cl_X13_140 rfl rfl (by first | exact Nat.le_of_ble_eq_true rfl | simp [rf_cat, Value.category]) dX13_changesGoods_14 ?_
      refine m_inR ?_
      rw [if_neg hr]
      refine R.if_ne (tgt := 24) dX13_changesGoods_17 (by decide) (fun c9 => absurd (rfl) c9) (fun _ => ?_)
      refine R.iconst (v := 1) dX13_changesGoods_20 rfl ?_
      refine R.goto (tgt := 25) dX13_changesGoods_21 (by decide) ?_
      refine R.iconst (v := 2) dX13_changesGoods_25 rfl ?_
      refine cl_X13_391 rfl rfl (by first | exact Nat.le_of_ble_eq_true rfl | simp [rf_cat, Value.category]) dX13_changesGoods_26 ?_
      refine m_fail1 ?_
      rw [sI_sWf M1 w 0 7 2 (by decide)]
      refine R.if_ne (tgt := 54) dX13_changesGoods_29 (by decide) (fun _ => ?_) (fun c9 => absurd c9 (by decide))
      refine R.iconst (v := 0) dX13_changesGoods_54 rfl ?_
      refine WP.ret (ov := some (.int _)) dX13_changesGoods_55 ⟨rfl, _, rfl, by first | rfl | assumption | exact nar_b01 (by assumption)⟩ ?_
      rw [bW (show mI (sI M1 11 0 7 2) 14 0 = w from hw)]
      exact hq _ (h1.th _) ((th7 _ _).trans cdC_A.symm) (F1.tr (Fr_th _ _))
