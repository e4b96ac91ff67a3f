/-! the constructors -/
def FC (T : Nat → Nat → Prop) (M M' : Mem) : Prop := ∀ k i, ¬ T k i → mI M' k i = mI M k i ∧ mL M' k i = mL M k i ∧ mR M' k i = mR M k i ∧ mD M' k i = mD M k i ∧ mN M' k i = mN M k i
theorem FC.rf (T : Nat → Nat → Prop) (M : Mem) : FC T M M := fun _ _ _ => ⟨rfl, rfl, rfl, rfl, rfl⟩
theorem FC.tr {T : Nat → Nat → Prop} {M M' M'' : Mem} (h : FC T M M') (g : FC T M' M'') : FC T M M'' := fun k i hn => by
  have a := h k i hn
  have b := g k i hn
  exact ⟨b.1.trans a.1, b.2.1.trans a.2.1, b.2.2.1.trans a.2.2.1, b.2.2.2.1.trans a.2.2.2.1, b.2.2.2.2.trans a.2.2.2.2⟩
theorem FC.mo {T T' : Nat → Nat → Prop} {M M' : Mem} (h : FC T M M') (hs : ∀ k i, T k i → T' k i) : FC T' M M' := fun k i hn => h k i fun z => hn (hs k i z)
theorem FC.fr {T : Nat → Nat → Prop} {M M' : Mem} (h : Fr T M M') : FC T M M' := fun k i hn => by
  have e := h.2.2.2.2 k i hn
  exact ⟨e.1, e.2.1, e.2.2.1, e.2.2.2, by rw [h.2.1]⟩
theorem FC.sI {T : Nat → Nat → Prop} {M M' : Mem} {k i f : Nat} {v : Int32} (h : FC T M M') (hs : T k i) : FC T M (sI M' k i f v) :=
  h.tr fun k' i' hn => ⟨up3_ne fun z => hn (by rw [z.1, z.2]; exact hs), rfl, rfl, rfl, rfl⟩
theorem FC.sR {T : Nat → Nat → Prop} {M M' : Mem} {k i f : Nat} {v : Option Nat} (h : FC T M M') (hs : T k i) : FC T M (sR M' k i f v) :=
  h.tr fun k' i' hn => ⟨rfl, rfl, up3_ne fun z => hn (by rw [z.1, z.2]; exact hs), rfl, rfl⟩
theorem up2_ne {α : Type} {F : Nat → Nat → Nat → α} {k i : Nat} {v : α} {k' i' : Nat} (h : ¬ (k' = k ∧ i' = i)) : up2 F k i v k' i' = F k' i' := by
  funext f'
  unfold up2
  exact if_neg h
theorem FC.al {T : Nat → Nat → Prop} {M M' : Mem} {k n sl : Nat} (h : FC T M M') (hs : T k (mC M' k)) : FC T M (al M' k n sl) :=
  h.tr fun k' i' hn => by
    have hne : ¬ (k' = k ∧ i' = mC M' k) := fun z => hn (by rw [z.1, z.2]; exact hs)
    exact ⟨up2_ne hne, up2_ne hne, up2_ne hne, up2_ne hne, if_neg hne⟩
theorem mC_al (M : Mem) (k n sl k' : Nat) : mC (al M k n sl) k' = if k' = k then mC M k + 1 else mC M k' := rfl
theorem mN_al (M : Mem) (k n sl k' i' : Nat) : mN (al M k n sl) k' i' = if k' = k ∧ i' = mC M k then n else mN M k' i' := rfl
theorem mI_al (M : Mem) (k n sl k' i' f : Nat) : mI (al M k n sl) k' i' f = if k' = k ∧ i' = mC M k then 0 else mI M k' i' f := rfl
theorem mL_al (M : Mem) (k n sl k' i' f : Nat) : mL (al M k n sl) k' i' f = if k' = k ∧ i' = mC M k then 0 else mL M k' i' f := rfl
theorem mR_al (M : Mem) (k n sl k' i' f : Nat) : mR (al M k n sl) k' i' f = if k' = k ∧ i' = mC M k then none else mR M k' i' f := rfl
theorem mK_al (M : Mem) (k n sl : Nat) : mK (al M k n sl) = mK M + 1 := rfl
theorem mS_al (M : Mem) (k n sl : Nat) : mS (al M k n sl) = mS M + sl := rfl
theorem Lay.fc {T : Nat → Nat → Prop} {M M' : Mem} {y : Nat} (h : Lay M y) (F : FC T M M') (hn : ∀ k i, inY y k i → ¬ T k i) : Lay M' y := by
  have e9 := F 9 y (hn _ _ (by unfold inY; omega))
  have e18 := F 18 y (hn _ _ (by unfold inY; omega))
  have e17 := F 17 y (hn _ _ (by unfold inY; omega))
  obtain ⟨a1, a2, a3, a4, a5, a6, a7, a8⟩ := h
  exact ⟨by rw [e9.2.2.1]; exact a1, by rw [e9.2.2.1]; exact a2, by rw [e9.2.2.1]; exact a3, by rw [e9.2.2.1]; exact a4, by rw [e18.2.2.2.2]; exact a5, by rw [e17.2.2.2.2]; exact a6, fun i hi => by rw [e18.2.2.1]; exact a7 i hi, fun i hi => by rw [e17.2.2.1]; exact a8 i hi⟩
theorem Yv.fc {T : Nat → Nat → Prop} {M M' : Mem} {y : Nat} {Y : Yd} (h : Yv M y Y) (F : FC T M M') (hn : ∀ k i, inY y k i → ¬ T k i) : Yv M' y Y := by
  obtain ⟨h1, h2, h3, h4, h5, h6, h7, h8, h9, h10, h11, h12⟩ := h
  refine ⟨h1.fc F hn, fun i hi f => ?_, fun i hi f => ?_, fun i hi => ?_, h5, fun j hj f => ?_, fun f => ?_, fun f => ?_, fun f => ?_, h10, h11, h12⟩
  · rw [(F 1 _ (hn _ _ (by unfold inY; omega))).1]; exact h2 i hi f
  · rw [(F 1 _ (hn _ _ (by unfold inY; omega))).2.1]; exact h3 i hi f
  · rw [(F 1 _ (hn _ _ (by unfold inY; omega))).2.2.1]; exact h4 i hi
  · rw [(F 0 _ (hn _ _ (by unfold inY; omega))).1]; exact h6 j hj f
  · rw [(F 3 _ (hn _ _ (by unfold inY; omega))).1]; exact h7 f
  · rw [(F 8 _ (hn _ _ (by unfold inY; omega))).1]; exact h8 f
  · rw [(F 9 _ (hn _ _ (by unfold inY; omega))).1]; exact h9 f
/-- how many yards there are -/
def CY (M : Mem) (n y : Nat) : Prop := mC M 9 = n ∧ mC M 18 = y ∧ mC M 17 = y ∧ mC M 3 = y ∧ mC M 8 = y ∧ mC M 1 = 16 * y ∧ mC M 0 = 6 * y
/-- a yard half made: a crates, c buyers -/
def YP (M : Mem) (y a c : Nat) : Prop := (mR M 9 y 0 = some (rf 18 y) ∧ mR M 9 y 1 = some (rf 17 y) ∧ mR M 9 y 2 = some (rf 3 y) ∧ mR M 9 y 3 = some (rf 8 y) ∧ mN M 18 y = 16 ∧ mN M 17 y = 6) ∧ (∀ i, i < a → mR M 18 y i = some (rf 1 (16 * y + i)) ∧ (∀ f, mI M 1 (16 * y + i) f = if f = 0 then nI i else 0) ∧ (∀ f, mL M 1 (16 * y + i) f = 0) ∧ mR M 1 (16 * y + i) 5 = none) ∧ (∀ j, j < c → mR M 17 y j = some (rf 0 (6 * y + j)) ∧ ∀ f, mI M 0 (6 * y + j) f = if f = 0 then nI j else 0) ∧ (∀ f, mI M 3 y f = 0) ∧ (∀ f, mI M 8 y f = 0) ∧ (∀ f, mI M 9 y f = 0)
/-- what is counted: the class's own kinds alone -/
def CK (M M' : Mem) : Prop := ∀ k, (k ≠ 9 ∧ k ≠ 18 ∧ k ≠ 17 ∧ k ≠ 3 ∧ k ≠ 8 ∧ k ≠ 1 ∧ k ≠ 0) → mC M' k = mC M k
def zeY : Yd := (fun i f => if f = 0 then nI i else 0, fun _ _ => 0, fun _ => none, fun j f => if f = 0 then nI j else 0, fun _ => 0, fun _ => 0, fun _ => 0)
theorem nf_ze : Nf zeY := ⟨fun i _ f hf => if_neg (fun z => tf_n (by rw [z]; rfl) hf), fun _ _ _ _ => rfl, fun j _ f hf => if_neg (fun z => tf_n (by rw [z]; rfl) hf), fun _ _ => rfl, fun _ _ => rfl, fun _ _ => rfl⟩
theorem YP.yv {M : Mem} {y : Nat} (h : YP M y 16 6) : Yv M y zeY := by
  obtain ⟨⟨a1, a2, a3, a4, a5, a6⟩, b1, b2, b3, b4, b5⟩ := h
  exact ⟨⟨a1, a2, a3, a4, a5, a6, fun i hi => (b1 i hi).1, fun j hj => (b2 j hj).1⟩, fun i hi f => (b1 i hi).2.1 f, fun i hi f => (b1 i hi).2.2.1 f, fun i hi => (b1 i hi).2.2.2, fun i hi j hj => (nomatch hj), fun j hj f => (b2 j hj).2 f, b3, b4, b5, fun i _ => rfl, fun j _ => rfl, nf_ze⟩
theorem YP.crate {M : Mem} {y a c : Nat} (h : YP M y a c) (hc : mC M 1 = 16 * y + a) : YP (sR (sI (al M 1 0 13) 1 (16 * y + a) 0 (nI a)) 18 y a (some (rf 1 (16 * y + a)))) y (a + 1) c := by
  obtain ⟨a1, b1, b2, b3, b4, b5⟩ := h
  refine ⟨?_, fun i hi => ?_, fun j hj => ?_, fun f => ?_, fun f => ?_, fun f => ?_⟩
  · obtain ⟨a1, a2, a3, a4, a5, a6⟩ := a1
    refine ⟨?_, ?_, ?_, ?_, ?_, ?_⟩
    · rw [mR_sR, if_neg (by omega), mR_sI, mR_al, if_neg (by omega)]; exact a1
    · rw [mR_sR, if_neg (by omega), mR_sI, mR_al, if_neg (by omega)]; exact a2
    · rw [mR_sR, if_neg (by omega), mR_sI, mR_al, if_neg (by omega)]; exact a3
    · rw [mR_sR, if_neg (by omega), mR_sI, mR_al, if_neg (by omega)]; exact a4
    · rw [mN_sR, mN_sI, mN_al, if_neg (by omega)]; exact a5
    · rw [mN_sR, mN_sI, mN_al, if_neg (by omega)]; exact a6
  · by_cases z : i = a
    · subst z
      refine ⟨?_, fun f => ?_, fun f => ?_, ?_⟩
      · rw [mR_sR, if_pos ⟨rfl, rfl, rfl⟩]
      · by_cases w : f = 0
        · rw [mI_sR, mI_sI, if_pos ⟨rfl, rfl, w⟩, if_pos w]
        · rw [mI_sR, mI_sI, if_neg (fun q => w q.2.2), mI_al, if_pos ⟨rfl, hc.symm⟩, if_neg w]
      · rw [mL_sR, mL_sI, mL_al, if_pos ⟨rfl, hc.symm⟩]
      · rw [mR_sR, if_neg (by omega), mR_sI, mR_al, if_pos ⟨rfl, hc.symm⟩]
    · obtain ⟨c1, c2, c3, c4⟩ := b1 i (by omega)
      refine ⟨?_, fun f => ?_, fun f => ?_, ?_⟩
      · rw [mR_sR, if_neg (by omega), mR_sI, mR_al, if_neg (by omega)]; exact c1
      · rw [mI_sR, mI_sI, if_neg (by omega), mI_al, if_neg (by omega)]; exact c2 f
      · rw [mL_sR, mL_sI, mL_al, if_neg (by omega)]; exact c3 f
      · rw [mR_sR, if_neg (by omega), mR_sI, mR_al, if_neg (by omega)]; exact c4
  · obtain ⟨c1, c2⟩ := b2 j hj
    refine ⟨?_, fun f => ?_⟩
    · rw [mR_sR, if_neg (by omega), mR_sI, mR_al, if_neg (by omega)]; exact c1
    · rw [mI_sR, mI_sI, if_neg (by omega), mI_al, if_neg (by omega)]; exact c2 f
  · rw [mI_sR, mI_sI, if_neg (by omega), mI_al, if_neg (by omega)]; exact b3 f
  · rw [mI_sR, mI_sI, if_neg (by omega), mI_al, if_neg (by omega)]; exact b4 f
  · rw [mI_sR, mI_sI, if_neg (by omega), mI_al, if_neg (by omega)]; exact b5 f
theorem YP.buyer {M : Mem} {y a c : Nat} (h : YP M y a c) (hc : mC M 0 = 6 * y + c) : YP (sR (sI (al M 0 0 6) 0 (6 * y + c) 0 (nI c)) 17 y c (some (rf 0 (6 * y + c)))) y a (c + 1) := by
  obtain ⟨a1, b1, b2, b3, b4, b5⟩ := h
  refine ⟨?_, fun i hi => ?_, fun j hj => ?_, fun f => ?_, fun f => ?_, fun f => ?_⟩
  · obtain ⟨a1, a2, a3, a4, a5, a6⟩ := a1
    refine ⟨?_, ?_, ?_, ?_, ?_, ?_⟩
    · rw [mR_sR, if_neg (by omega), mR_sI, mR_al, if_neg (by omega)]; exact a1
    · rw [mR_sR, if_neg (by omega), mR_sI, mR_al, if_neg (by omega)]; exact a2
    · rw [mR_sR, if_neg (by omega), mR_sI, mR_al, if_neg (by omega)]; exact a3
    · rw [mR_sR, if_neg (by omega), mR_sI, mR_al, if_neg (by omega)]; exact a4
    · rw [mN_sR, mN_sI, mN_al, if_neg (by omega)]; exact a5
    · rw [mN_sR, mN_sI, mN_al, if_neg (by omega)]; exact a6
  · obtain ⟨c1, c2, c3, c4⟩ := b1 i hi
    refine ⟨?_, fun f => ?_, fun f => ?_, ?_⟩
    · rw [mR_sR, if_neg (by omega), mR_sI, mR_al, if_neg (by omega)]; exact c1
    · rw [mI_sR, mI_sI, if_neg (by omega), mI_al, if_neg (by omega)]; exact c2 f
    · rw [mL_sR, mL_sI, mL_al, if_neg (by omega)]; exact c3 f
    · rw [mR_sR, if_neg (by omega), mR_sI, mR_al, if_neg (by omega)]; exact c4
  · by_cases z : j = c
    · subst z
      refine ⟨?_, fun f => ?_⟩
      · rw [mR_sR, if_pos ⟨rfl, rfl, rfl⟩]
      · by_cases w : f = 0
        · rw [mI_sR, mI_sI, if_pos ⟨rfl, rfl, w⟩, if_pos w]
        · rw [mI_sR, mI_sI, if_neg (fun q => w q.2.2), mI_al, if_pos ⟨rfl, hc.symm⟩, if_neg w]
    · obtain ⟨c1, c2⟩ := b2 j (by omega)
      refine ⟨?_, fun f => ?_⟩
      · rw [mR_sR, if_neg (by omega), mR_sI, mR_al, if_neg (by omega)]; exact c1
      · rw [mI_sR, mI_sI, if_neg (by omega), mI_al, if_neg (by omega)]; exact c2 f
  · rw [mI_sR, mI_sI, if_neg (by omega), mI_al, if_neg (by omega)]; exact b3 f
  · rw [mI_sR, mI_sI, if_neg (by omega), mI_al, if_neg (by omega)]; exact b4 f
  · rw [mI_sR, mI_sI, if_neg (by omega), mI_al, if_neg (by omega)]; exact b5 f
set_option maxHeartbeats 1000000 in
set_option maxRecDepth 4000 in
theorem s_yInit {d : Nat} {y : Nat} {M : Mem} {Q : Out → Mem → Prop} (hc : CY M (y + 1) y) (hz : ∀ f, mI M 9 y f = 0) (hq : ∀ M', Yv M' y blY → CY M' (y + 1) (y + 1) → FC (inY y) M M' → CK M M' → mK M' = mK M + (4 + 16 + 6) → mS M' = mS M + (33 + 13 * 16 + 6 * 6) → Q (.inl none) M') : WPc (d + 3) mX11_init [.ref (rf 9 y)] M Q := by
  refine WPc.of (by decide +kernel) (Nat.le_of_ble_eq_true rfl) rfl ?_
  obtain ⟨c1, c2, c3, c4, c5, c6, c7⟩ := hc
  have key2 : ∀ (f c : Nat) (M1 : Mem), c + f = 6 → YP M1 y 16 c → (mC M1 9 = y + 1 ∧ mC M1 18 = y + 1 ∧ mC M1 17 = y + 1 ∧ mC M1 3 = y + 1 ∧ mC M1 8 = y + 1 ∧ mC M1 1 = 16 * y + 16 ∧ mC M1 0 = 6 * y + c) → FC (inY y) M M1 → CK M M1 → mK M1 = mK M + (4 + 16 + c) → mS M1 = mS M + (33 + 13 * 16 + 6 * c) → WP mX11_init (d + 3) 74 [.ref (rf 9 y), .int (nI c)] [] M1 Q := by
    intro f
    induction f with
    | zero =>
      intro c M1 hf h1 ⟨d1, d2, d3, d4, d5, d6, d7⟩ F1 K1 b1 b2
      have ec : c = 6 := by omega
      subst ec
      refine R.iload_n dX11_init_74 rfl ?_
      refine R.bipush (v := 6) dX11_init_75 (by decide) ?_
      refine R.geT (tgt := 100) (Int32.le_refl _) dX11_init_77 (by decide) ?_
      refine R.aload_n dX11_init_100 rfl (by first | rfl | exact rfv_rf _) ?_
      refine cl_X11_41 rfl rfl (by first | exact Nat.le_of_ble_eq_true rfl | simp [rf_cat, Value.category]) dX11_init_101 ?_
      refine s_yReset h1.yv (fun M5 h5 F5 => ?_)
      refine WP.ret (ov := none) dX11_init_104 ⟨rfl, rfl⟩ ?_
      obtain ⟨f1, f2, f3, f4, f5⟩ := F5
      refine hq M5 h5 ⟨by rw [f1]; exact d1, by rw [f1]; exact d2, by rw [f1]; exact d3, by rw [f1]; exact d4, by rw [f1]; exact d5, by rw [f1, d6]; omega, by rw [f1, d7]; omega⟩ (F1.tr (FC.fr ⟨f1, f2, f3, f4, f5⟩)) (fun k hk => by rw [f1]; exact K1 k hk) (by rw [f3, b1]) (by rw [f4, b2])
    | succ f ih =>
      intro c M1 hf h1 ⟨d1, d2, d3, d4, d5, d6, d7⟩ F1 K1 b1 b2
      refine R.iload_n dX11_init_74 rfl ?_
      refine R.bipush (v := 6) dX11_init_75 (by decide) ?_
      refine R.geF (tgt := 100) (nI_ge (show c < 6 by omega) (by decide)) dX11_init_77 (by decide) ?_
      refine R.aload_n dX11_init_80 rfl (by first | rfl | exact rfv_rf _) ?_
      refine R.getS (h1.1.2.1) dX11_init_81 fl_X11_19 (by decide) rfl ?_
      refine R.iload_n dX11_init_84 rfl ?_
      refine R.new (k := 0) rfl cw_X11_17 mk_0 iz_0 dX11_init_85 ?_
      rw [d7]
      refine R.dup dX11_init_88 (by first | rfl | exact rf_cat _) ?_
      refine R.iload_n dX11_init_89 rfl ?_
      refine cl_X11_40 rfl rfl (by first | exact Nat.le_of_ble_eq_true rfl | simp [rf_cat, Value.category]) dX11_init_90 ?_
      refine s_bInit (by omega) ?_
      refine R.aast (k := 17) (ko := 0) (by decide) (by decide) rfl rfl dX11_init_93 (nI_pos (by omega)) (by rw [nI_clamp (by omega)]; show c < mN (al M1 0 0 6) 17 y; rw [mN_al, if_neg (by omega), h1.1.2.2.2.2.2]; omega) ?_
      rw [nI_clamp (by omega)]
      refine R.iinc dX11_init_94 (Nat.le_of_ble_eq_true rfl) (by decide) (by first | rfl | simp [lft, rf_cat]) rfl (inc_nI _) rfl ?_
      refine R.goto (tgt := 74) dX11_init_97 (by decide) ?_
      refine ih (c + 1) _ (by omega) (h1.buyer d7) ⟨d1, d2, d3, d4, d5, d6, ?_⟩ (((F1.al (by rw [d7]; exact inY_B (by omega))).sI (inY_B (by omega))).sR (by unfold inY; omega)) (fun k hk => ?_) ?_ ?_
      · show (if 0 = 0 then mC M1 0 + 1 else mC M1 0) = _
        rw [if_pos rfl, d7]; omega
      · show (if k = 0 then mC M1 0 + 1 else mC M1 k) = _
        rw [if_neg (by omega)]; exact K1 k hk
      · show mK M1 + 1 = _
        rw [b1]; omega
      · show mS M1 + 6 = _
        rw [b2]; omega
  have key1 : ∀ (f a : Nat) (M1 : Mem), a + f = 16 → YP M1 y a 0 → (mC M1 9 = y + 1 ∧ mC M1 18 = y + 1 ∧ mC M1 17 = y + 1 ∧ mC M1 3 = y + 1 ∧ mC M1 8 = y + 1 ∧ mC M1 1 = 16 * y + a ∧ mC M1 0 = 6 * y + 0) → FC (inY y) M M1 → CK M M1 → mK M1 = mK M + (4 + a + 0) → mS M1 = mS M + (33 + 13 * a + 6 * 0) → (∀ M1, YP M1 y 16 0 → (mC M1 9 = y + 1 ∧ mC M1 18 = y + 1 ∧ mC M1 17 = y + 1 ∧ mC M1 3 = y + 1 ∧ mC M1 8 = y + 1 ∧ mC M1 1 = 16 * y + 16 ∧ mC M1 0 = 6 * y + 0) → FC (inY y) M M1 → CK M M1 → mK M1 = mK M + (4 + 16 + 0) → mS M1 = mS M + (33 + 13 * 16 + 6 * 0) → WP mX11_init (d + 3) 72 [.ref (rf 9 y), .int (nI 16)] [] M1 Q) → WP mX11_init (d + 3) 46 [.ref (rf 9 y), .int (nI a)] [] M1 Q := by
    intro f
    induction f with
    | zero =>
      intro a M1 hf h1 ⟨d1, d2, d3, d4, d5, d6, d7⟩ F1 K1 b1 b2 kq
      have ea : a = 16 := by omega
      subst ea
      refine R.iload_n dX11_init_46 rfl ?_
      refine R.bipush (v := 16) dX11_init_47 (by decide) ?_
      refine R.geT (tgt := 72) (Int32.le_refl _) dX11_init_49 (by decide) ?_
      exact kq M1 h1 ⟨d1, d2, d3, d4, d5, d6, d7⟩ F1 K1 b1 b2
    | succ f ih =>
      intro a M1 hf h1 ⟨d1, d2, d3, d4, d5, d6, d7⟩ F1 K1 b1 b2 kq
      refine R.iload_n dX11_init_46 rfl ?_
      refine R.bipush (v := 16) dX11_init_47 (by decide) ?_
      refine R.geF (tgt := 72) (nI_ge (show a < 16 by omega) (by decide)) dX11_init_49 (by decide) ?_
      refine R.aload_n dX11_init_52 rfl (by first | rfl | exact rfv_rf _) ?_
      refine R.getS (h1.1.1) dX11_init_53 fl_X11_11 (by decide) rfl ?_
      refine R.iload_n dX11_init_56 rfl ?_
      refine R.new (k := 1) rfl cw_X11_9 mk_1 iz_1 dX11_init_57 ?_
      rw [d6]
      refine R.dup dX11_init_60 (by first | rfl | exact rf_cat _) ?_
      refine R.iload_n dX11_init_61 rfl ?_
      refine cl_X11_37 rfl rfl (by first | exact Nat.le_of_ble_eq_true rfl | simp [rf_cat, Value.category]) dX11_init_62 ?_
      refine s_cInit (by omega) ?_
      refine R.aast (k := 18) (ko := 1) (by decide) (by decide) rfl rfl dX11_init_65 (nI_pos (by omega)) (by rw [nI_clamp (by omega)]; show a < mN (al M1 1 0 13) 18 y; rw [mN_al, if_neg (by omega), h1.1.2.2.2.2.1]; omega) ?_
      rw [nI_clamp (by omega)]
      refine R.iinc dX11_init_66 (Nat.le_of_ble_eq_true rfl) (by decide) (by first | rfl | simp [lft, rf_cat]) rfl (inc_nI _) rfl ?_
      refine R.goto (tgt := 46) dX11_init_69 (by decide) ?_
      refine ih (a + 1) _ (by omega) (h1.crate d6) ⟨d1, d2, d3, d4, d5, ?_, d7⟩ (((F1.al (by rw [d6]; exact inY_C (by omega))).sI (inY_C (by omega))).sR (by unfold inY; omega)) (fun k hk => ?_) ?_ ?_ kq
      · show (if 1 = 1 then mC M1 1 + 1 else mC M1 1) = _
        rw [if_pos rfl, d6]; omega
      · show (if k = 1 then mC M1 1 + 1 else mC M1 k) = _
        rw [if_neg (by omega)]; exact K1 k hk
      · show mK M1 + 1 = _
        rw [b1]; omega
      · show mS M1 + 13 = _
        rw [b2]; omega
  refine R.aload_n dX11_init_0 rfl (by first | rfl | exact rfv_rf _) ?_
  refine R.objInit (by decide) oi_X11_3 oi_in oi_co (by omega) (by first | exact Nat.le_of_ble_eq_true rfl | simp [rf_cat, Value.category]) dX11_init_1 ?_
  refine R.aload_n dX11_init_4 rfl (by first | rfl | exact rfv_rf _) ?_
  refine R.bipush (v := 16) dX11_init_5 (by decide) ?_
  refine R.anewarr (k := 18) (N := 16) (by decide) (by decide) rfl cw_X11_9 (by decide) (by decide) (by decide) (by decide) dX11_init_7 ?_
  rw [c2]
  refine R.putA dX11_init_10 fl_X11_11 (fun q hq => by cases hq; exact Or.inr ⟨rfl, rfl⟩) rfl ?_
  refine R.aload_n dX11_init_13 rfl (by first | rfl | exact rfv_rf _) ?_
  refine R.bipush (v := 6) dX11_init_14 (by decide) ?_
  refine R.anewarr (k := 17) (N := 6) (by decide) (by decide) rfl cw_X11_17 (by decide) (by decide) (by decide) (by decide) dX11_init_16 ?_
  rw [show mC (sR (al M 18 16 16) 9 y 0 (some (rf 18 y))) 17 = y from c3]
  refine R.putA dX11_init_19 fl_X11_19 (fun q hq => by cases hq; exact Or.inr ⟨rfl, rfl⟩) rfl ?_
  refine R.aload_n dX11_init_22 rfl (by first | rfl | exact rfv_rf _) ?_
  refine R.new (k := 3) rfl cw_X11_23 mk_3 iz_3 dX11_init_23 ?_
  rw [show mC (sR (al (sR (al M 18 16 16) 9 y 0 (some (rf 18 y))) 17 6 6) 9 y 1 (some (rf 17 y))) 3 = y from c4]
  refine R.dup dX11_init_26 (by first | rfl | exact rf_cat _) ?_
  refine cl_X11_25 rfl rfl (by first | exact Nat.le_of_ble_eq_true rfl | simp [rf_cat, Value.category]) dX11_init_27 ?_
  refine s_sInit (by omega) ?_
  refine R.putA dX11_init_30 fl_X11_26 (fun q hq => by cases hq; exact Or.inr ⟨rfl, rfl⟩) rfl ?_
  refine R.aload_n dX11_init_33 rfl (by first | rfl | exact rfv_rf _) ?_
  refine R.new (k := 8) rfl cw_X11_30 mk_8 iz_8 dX11_init_34 ?_
  rw [show mC (sR (al (sR (al (sR (al M 18 16 16) 9 y 0 (some (rf 18 y))) 17 6 6) 9 y 1 (some (rf 17 y))) 3 0 4) 9 y 2 (some (rf 3 y))) 8 = y from c5]
  refine R.dup dX11_init_37 (by first | rfl | exact rf_cat _) ?_
  refine cl_X11_32 rfl rfl (by first | exact Nat.le_of_ble_eq_true rfl | simp [rf_cat, Value.category]) dX11_init_38 ?_
  refine s_tInit (by omega) ?_
  refine R.putA dX11_init_41 fl_X11_33 (fun q hq => by cases hq; exact Or.inr ⟨rfl, rfl⟩) rfl ?_
  refine R.iconst (v := 0) dX11_init_44 rfl ?_
  refine R.istore_n dX11_init_45 (Nat.le_of_ble_eq_true rfl) (by decide) (by first | rfl | simp [lft, rf_cat]) rfl ?_
  refine key1 16 0 (sR (al (sR (al (sR (al (sR (al M 18 16 16) 9 y 0 (some (rf 18 y))) 17 6 6) 9 y 1 (some (rf 17 y))) 3 0 4) 9 y 2 (some (rf 3 y))) 8 0 7) 9 y 3 (some (rf 8 y))) rfl ?_ ?_ ?_ ?_ ?_ ?_ (fun M1 h1 hd F1 K1 b1 b2 => ?_)
  · refine ⟨⟨?_, ?_, ?_, ?_, ?_, ?_⟩, fun i hi => absurd hi (Nat.not_lt_zero i), fun j hj => absurd hj (Nat.not_lt_zero j), fun f => ?_, fun f => ?_, fun f => ?_⟩
    · simp [mR_sR, mR_al]
    · simp [mR_sR, mR_al]
    · simp [mR_sR, mR_al]
    · simp [mR_sR, mR_al]
    · simp [mN_sR, mN_al, mC_sR, mC_al, c2]
    · simp [mN_sR, mN_al, mC_sR, mC_al, c3]
    · simp [mI_sR, mI_al, mC_sR, mC_al, c4]
    · simp [mI_sR, mI_al, mC_sR, mC_al, c5]
    · simp [mI_sR, mI_al, mC_sR, mC_al, hz]
  · refine ⟨?_, ?_, ?_, ?_, ?_, ?_, ?_⟩ <;> simp [mC_sR, mC_al, c1, c2, c3, c4, c5, c6, c7]
  · exact (((((((FC.rf _ M).al (by rw [c2]; unfold inY; omega)).sR (by unfold inY; omega)).al (by rw [show mC (sR (al M 18 16 16) 9 y 0 (some (rf 18 y))) 17 = y from c3]; unfold inY; omega)).sR (by unfold inY; omega)).al (by rw [show mC (sR (al (sR (al M 18 16 16) 9 y 0 (some (rf 18 y))) 17 6 6) 9 y 1 (some (rf 17 y))) 3 = y from c4]; unfold inY; omega)).sR (by unfold inY; omega)).al (by rw [show mC (sR (al (sR (al (sR (al M 18 16 16) 9 y 0 (some (rf 18 y))) 17 6 6) 9 y 1 (some (rf 17 y))) 3 0 4) 9 y 2 (some (rf 3 y))) 8 = y from c5]; unfold inY; omega) |>.sR (by unfold inY; omega)
  · intro k hk
    simp only [mC_sR, mC_al]
    rw [if_neg (by omega), if_neg (by omega), if_neg (by omega), if_neg (by omega)]
  · simp only [mK_sR, mK_al]
  · simp only [mS_sR, mS_al]
  refine R.iconst (v := 0) dX11_init_72 rfl ?_
  refine R.istore_n dX11_init_73 (Nat.le_of_ble_eq_true rfl) (by decide) (by first | rfl | simp [lft, rf_cat]) rfl ?_
  exact key2 6 0 M1 rfl h1 hd F1 K1 b1 b2
/-! what is new alone is changed -/
def FN (M M' : Mem) : Prop := FC (fun k i => mC M k ≤ i ∨ (k = 10 ∧ i = 0)) M M' ∧ ∀ k, mC M k ≤ mC M' k
theorem FN.rf (M : Mem) : FN M M := ⟨FC.rf _ M, fun _ => Nat.le_refl _⟩
theorem FN.tr {M M' M'' : Mem} (h : FN M M') (g : FN M' M'') : FN M M'' := ⟨h.1.tr (g.1.mo fun k i z => by have := h.2 k; omega), fun k => Nat.le_trans (h.2 k) (g.2 k)⟩
theorem FN.al (M : Mem) (k n sl : Nat) : FN M (al M k n sl) := ⟨(FC.rf _ M).al (Or.inl (Nat.le_refl _)), fun k' => by
  rw [mC_al]
  by_cases z : k' = k
  · rw [if_pos z, z]; omega
  · rw [if_neg z]; exact Nat.le_refl _⟩
theorem FN.sR (M : Mem) (f : Nat) (v : Option Nat) : FN M (sR M 10 0 f v) := ⟨(FC.rf _ M).sR (Or.inr ⟨rfl, rfl⟩), fun _ => Nat.le_refl _⟩
theorem FN.sI (M : Mem) (f : Nat) (v : Int32) : FN M (sI M 10 0 f v) := ⟨(FC.rf _ M).sI (Or.inr ⟨rfl, rfl⟩), fun _ => Nat.le_refl _⟩
theorem FN.of {T : Nat → Nat → Prop} {M M' : Mem} (h : FC T M M') (hc : ∀ k, mC M k ≤ mC M' k) (hT : ∀ k i, T k i → mC M k ≤ i ∨ (k = 10 ∧ i = 0)) : FN M M' := ⟨h.mo hT, hc⟩
theorem Yv.fn {M M' : Mem} {y n : Nat} {Y : Yd} (h : Yv M y Y) (hc : CY M n n) (hy : y < n) (F : FN M M') : Yv M' y Y := h.fc F.1 fun k i z => by
  obtain ⟨c1, c2, c3, c4, c5, c6, c7⟩ := hc
  unfold inY at z
  rcases z with z | z | z | z | z | z | z <;> (try (obtain ⟨rfl, z⟩ := z)) <;> (try omega)
theorem inY_bd {y k i : Nat} (h : inY y k i) : (k = 9 ∨ k = 18 ∨ k = 17 ∨ k = 3 ∨ k = 8 ∨ k = 1 ∨ k = 0) ∧ y ≤ i := by unfold inY at h; omega
/-- a new yard's cells -/
theorem inY_new {M : Mem} {n k i : Nat} (hc : CY M n n) (h : inY n k i) : mC M k ≤ i := by
  obtain ⟨c1, c2, c3, c4, c5, c6, c7⟩ := hc
  unfold inY at h
  rcases h with h | h | h | h | h | h | h <;> (first | (obtain ⟨rfl, h⟩ := h; omega) | omega)
theorem CY.le {M M' : Mem} {n n' : Nat} (h : CY M n n) (h' : CY M' n' n') (hn : n ≤ n') (hk : CK M M') : ∀ k, mC M k ≤ mC M' k := fun k => by
  obtain ⟨c1, c2, c3, c4, c5, c6, c7⟩ := h
  obtain ⟨e1, e2, e3, e4, e5, e6, e7⟩ := h'
  by_cases z : k ≠ 9 ∧ k ≠ 18 ∧ k ≠ 17 ∧ k ≠ 3 ∧ k ≠ 8 ∧ k ≠ 1 ∧ k ≠ 0
  · rw [hk k z]; exact Nat.le_refl _
  · have z' : k = 9 ∨ k = 18 ∨ k = 17 ∨ k = 3 ∨ k = 8 ∨ k = 1 ∨ k = 0 := by omega
    rcases z' with rfl | rfl | rfl | rfl | rfl | rfl | rfl <;> omega
theorem cy_al {M : Mem} {y : Nat} (h : CY M y y) : CY (al M 9 0 9) (y + 1) y := by
  obtain ⟨c1, c2, c3, c4, c5, c6, c7⟩ := h
  refine ⟨?_, ?_, ?_, ?_, ?_, ?_, ?_⟩ <;> rw [mC_al]
  · rw [if_pos rfl, c1]
  · rw [if_neg (by omega)]; exact c2
  · rw [if_neg (by omega)]; exact c3
  · rw [if_neg (by omega)]; exact c4
  · rw [if_neg (by omega)]; exact c5
  · rw [if_neg (by omega)]; exact c6
  · rw [if_neg (by omega)]; exact c7
theorem CY.ne {M : Mem} {n k a b : Nat} (h : CY M n n) (hk : (k ≠ 9 ∧ k ≠ 18 ∧ k ≠ 17 ∧ k ≠ 3 ∧ k ≠ 8 ∧ k ≠ 1 ∧ k ≠ 0) := by omega) : CY (al M k a b) n n := by
  obtain ⟨c1, c2, c3, c4, c5, c6, c7⟩ := h
  refine ⟨?_, ?_, ?_, ?_, ?_, ?_, ?_⟩ <;> rw [mC_al, if_neg (by omega)]
  · exact c1
  · exact c2
  · exact c3
  · exact c4
  · exact c5
  · exact c6
  · exact c7
def inY3 (k i : Nat) : Prop := ∃ j, inY (3 + j) k i
set_option maxHeartbeats 1000000 in
set_option maxRecDepth 4000 in
theorem s_hInit {d : Nat} {M : Mem} {Q : Out → Mem → Prop} (hc : CY M 3 3) (h20 : mC M 20 = 0) (hz : ∀ f, mI M 2 0 f = 0) (hq : ∀ M', HLay M' → mI M' 2 0 1 = 0 → mI M' 2 0 2 = 0 → (∀ j, j < 8 → ∃ Y, Yv M' (3 + j) Y) → CY M' 11 11 → mC M' 20 = 1 → (∀ k, (k ≠ 9 ∧ k ≠ 18 ∧ k ≠ 17 ∧ k ≠ 3 ∧ k ≠ 8 ∧ k ≠ 1 ∧ k ≠ 0 ∧ k ≠ 20) → mC M' k = mC M k) → FC (fun k i => inY3 k i ∨ (k = 2 ∧ i = 0) ∨ (k = 20 ∧ i = 0)) M M' → mK M' = mK M + (1 + 27 * 8) → mS M' = mS M + (8 + 286 * 8) → Q (.inl none) M') : WPc (d + 4) mX3_init [.ref (rf 2 0)] M Q := by
  refine WPc.of (by decide +kernel) (Nat.le_of_ble_eq_true rfl) rfl ?_
  have key : ∀ (f i : Nat) (M1 : Mem), i + f = 8 → (∀ j, j < i → mR M1 20 0 j = some (rf 9 (3 + j)) ∧ Yv M1 (3 + j) blY) → CY M1 (3 + i) (3 + i) → mR M1 2 0 0 = some (rf 20 0) → mI M1 2 0 1 = 0 → mI M1 2 0 2 = 0 → mN M1 20 0 = 8 → mC M1 20 = 1 → (∀ k, (k ≠ 9 ∧ k ≠ 18 ∧ k ≠ 17 ∧ k ≠ 3 ∧ k ≠ 8 ∧ k ≠ 1 ∧ k ≠ 0 ∧ k ≠ 20) → mC M1 k = mC M k) → FC (fun k i => inY3 k i ∨ (k = 2 ∧ i = 0) ∨ (k = 20 ∧ i = 0)) M M1 → mK M1 = mK M + (1 + 27 * i) → mS M1 = mS M + (8 + 286 * i) → WP mX3_init (d + 4) 15 [.ref (rf 2 0), .int (nI i)] [] M1 Q := by
    intro f
    induction f with
    | zero =>
      intro i M1 hf g0 gc g1 g2 g3 g4 g5 g6 g7 gk gs
      have ei : i = 8 := by omega
      subst ei
      refine R.iload_n dX3_init_15 rfl ?_
      refine R.bipush (v := 8) dX3_init_16 (by decide) ?_
      refine R.geT (tgt := 40) (Int32.le_refl _) dX3_init_18 (by decide) ?_
      refine WP.ret (ov := none) dX3_init_40 ⟨rfl, rfl⟩ ?_
      exact hq M1 ⟨g1, g4, fun j hj => (g0 j hj).1⟩ g2 g3 (fun j hj => ⟨_, (g0 j hj).2⟩) gc g5 g6 g7 gk gs
    | succ f ih =>
      intro i M1 hf g0 gc g1 g2 g3 g4 g5 g6 g7 gk gs
      refine R.iload_n dX3_init_15 rfl ?_
      refine R.bipush (v := 8) dX3_init_16 (by decide) ?_
      refine R.geF (tgt := 40) (nI_ge (show i < 8 by omega) (by decide)) dX3_init_18 (by decide) ?_
      refine R.aload_n dX3_init_21 rfl (by first | rfl | exact rfv_rf _) ?_
      refine R.getS (g1) dX3_init_22 fl_X3_11 (by decide) rfl ?_
      refine R.iload_n dX3_init_25 rfl ?_
      refine R.new (k := 9) rfl cw_X3_9 mk_9 iz_9 dX3_init_26 ?_
      rw [gc.1]
      refine R.dup dX3_init_29 (by first | rfl | exact rf_cat _) ?_
      refine cl_X3_17 rfl rfl (by first | exact Nat.le_of_ble_eq_true rfl | simp [rf_cat, Value.category]) dX3_init_30 ?_
      refine s_yInit (y := 3 + i) (cy_al gc) (fun f => by rw [mI_al, if_pos ⟨rfl, gc.1.symm⟩]) (fun M2 y2 c2 F2 k2 b2 b3 => ?_)
      have e20 := F2 20 0 (by unfold inY; omega)
      have e2 := F2 2 0 (by unfold inY; omega)
      have fn : FN M1 M2 := FN.of ((((FC.rf (inY (3 + i)) M1).al (by rw [gc.1]; unfold inY; omega))).tr F2) (gc.le c2 (by omega) (fun k hk => by rw [k2 k hk, mC_al, if_neg (by omega)])) (fun k j z => Or.inl (inY_new gc z))
      refine R.aast (k := 20) (ko := 9) (by decide) (by decide) rfl rfl dX3_init_33 (nI_pos (by omega)) (by rw [nI_clamp (by omega)]; show i < mN M2 20 0; rw [e20.2.2.2.2]; show i < mN (al M1 9 0 9) 20 0; rw [mN_al, if_neg (by omega), g4]; omega) ?_
      rw [nI_clamp (by omega)]
      refine R.iinc dX3_init_34 (Nat.le_of_ble_eq_true rfl) (by decide) (by first | rfl | simp [lft, rf_cat]) rfl (inc_nI _) rfl ?_
      refine R.goto (tgt := 15) dX3_init_37 (by decide) ?_
      refine ih (i + 1) _ (by omega) (fun j hj => ?_) c2 ?_ ?_ ?_ ?_ ?_ (fun k hk => ?_) ?_ ?_ ?_
      · by_cases z : j = i
        · subst z
          exact ⟨by rw [mR_sR, if_pos ⟨rfl, rfl, rfl⟩], y2.fc ((FC.rf (fun k i => k = 20) M2).sR rfl) (fun k i z w => by unfold inY at z; omega)⟩
        · obtain ⟨q1, q2⟩ := g0 j (by omega)
          refine ⟨?_, ?_⟩
          · rw [mR_sR, if_neg (by omega), e20.2.2.1, mR_al, if_neg (by omega)]; exact q1
          · exact (q2.fn gc (by omega) fn).fc ((FC.rf (fun k i => k = 20) M2).sR rfl) (fun k i z w => by unfold inY at z; omega)
      · rw [mR_sR, if_neg (by omega), e2.2.2.1, mR_al, if_neg (by omega)]; exact g1
      · rw [mI_sR, e2.1, mI_al, if_neg (by omega)]; exact g2
      · rw [mI_sR, e2.1, mI_al, if_neg (by omega)]; exact g3
      · rw [mN_sR, e20.2.2.2.2, mN_al, if_neg (by omega)]; exact g4
      · rw [mC_sR, k2 20 (by omega), mC_al, if_neg (by omega)]; exact g5
      · rw [mC_sR, k2 k (by omega), mC_al, if_neg (by omega)]; exact g6 k hk
      · exact (g7.tr (((FC.rf _ M1).al (by rw [gc.1]; exact Or.inl ⟨i, by unfold inY; omega⟩)).tr (F2.mo fun k j z => Or.inl ⟨i, z⟩))).sR (Or.inr (Or.inr ⟨rfl, rfl⟩))
      · rw [mK_sR, b2, mK_al, gk]; omega
      · rw [mS_sR, b3, mS_al, gs]; show mS M + (8 + 286 * i) + 9 + 277 = _; omega
  refine R.aload_n dX3_init_0 rfl (by first | rfl | exact rfv_rf _) ?_
  refine R.objInit (by decide) oi_X3_3 oi_in oi_co (by omega) (by first | exact Nat.le_of_ble_eq_true rfl | simp [rf_cat, Value.category]) dX3_init_1 ?_
  refine R.aload_n dX3_init_4 rfl (by first | rfl | exact rfv_rf _) ?_
  refine R.bipush (v := 8) dX3_init_5 (by decide) ?_
  refine R.anewarr (k := 20) (N := 8) (by decide) (by decide) rfl cw_X3_9 (by decide) (by decide) (by decide) (by decide) dX3_init_7 ?_
  rw [h20]
  refine R.putA dX3_init_10 fl_X3_11 (fun q hq => by cases hq; exact Or.inr ⟨rfl, rfl⟩) rfl ?_
  refine R.iconst (v := 0) dX3_init_13 rfl ?_
  refine R.istore_n dX3_init_14 (Nat.le_of_ble_eq_true rfl) (by decide) (by first | rfl | simp [lft, rf_cat]) rfl ?_
  refine key 8 0 (sR (al M 20 8 8) 2 0 0 (some (rf 20 0))) rfl (fun j hj => absurd hj (Nat.not_lt_zero j)) ?_ ?_ ?_ ?_ ?_ ?_ (fun k hk => ?_) ?_ ?_ ?_
  · obtain ⟨c1, c2, c3, c4, c5, c6, c7⟩ := hc
    refine ⟨?_, ?_, ?_, ?_, ?_, ?_, ?_⟩ <;> rw [mC_sR, mC_al, if_neg (by omega)]
    · exact c1
    · exact c2
    · exact c3
    · exact c4
    · exact c5
    · exact c6
    · exact c7
  · rw [mR_sR, if_pos ⟨rfl, rfl, rfl⟩]
  · rw [mI_sR, mI_al, if_neg (by omega)]; exact hz 1
  · rw [mI_sR, mI_al, if_neg (by omega)]; exact hz 2
  · rw [mN_sR, mN_al, if_pos ⟨rfl, h20.symm⟩]
  · rw [mC_sR, mC_al, if_pos rfl, h20]
  · rw [mC_sR, mC_al, if_neg (by omega)]
  · exact ((FC.rf _ M).al (by rw [h20]; exact Or.inr (Or.inr ⟨rfl, rfl⟩))).sR (Or.inr (Or.inl ⟨rfl, rfl⟩))
  · rw [mK_sR, mK_al]
  · rw [mS_sR, mS_al]
set_option maxHeartbeats 1000000 in
set_option maxRecDepth 4000 in
theorem s_xInit {d : Nat} {M : Mem} {Q : Out → Mem → Prop} (h13 : mC M 13 = 0) (hq : Q (.inl none) (sI (sI (sR (al M 13 600 600) 7 0 0 (some (rf 13 0))) 7 0 2 0) 7 0 3 (-1))) : WPc (d + 2) mX8_init [.ref (rf 7 0)] M Q := by
  refine WPc.of (by decide +kernel) (Nat.le_of_ble_eq_true rfl) rfl ?_
  refine R.aload_n dX8_init_0 rfl (by first | rfl | exact rfv_rf _) ?_
  refine R.objInit (by decide) oi_X8_3 oi_in oi_co (by omega) (by first | exact Nat.le_of_ble_eq_true rfl | simp [rf_cat, Value.category]) dX8_init_1 ?_
  refine R.aload_n dX8_init_4 rfl (by first | rfl | exact rfv_rf _) ?_
  refine R.sipush (v := 600) dX8_init_5 (by decide) ?_
  refine R.newarr (k := 13) (N := 600) (by decide) (by decide) rfl (by decide +kernel) (by decide) (by decide) (by decide) dX8_init_8 ?_
  rw [h13]
  refine R.putA dX8_init_10 fl_X8_9 (fun q hq => by cases hq; exact Or.inr ⟨rfl, rfl⟩) rfl ?_
  refine R.aload_n dX8_init_13 rfl (by first | rfl | exact rfv_rf _) ?_
  refine R.iconst (v := 0) dX8_init_14 rfl ?_
  refine R.putI dX8_init_15 fl_X8_15 (fun q hq => by cases hq; exact Or.inl rfl) (by decide) rfl rfl rfl ?_
  refine R.aload_n dX8_init_18 rfl (by first | rfl | exact rfv_rf _) ?_
  refine R.iconst (v := (-1)) dX8_init_19 rfl ?_
  refine R.putI dX8_init_20 fl_X8_19 (fun q hq => by cases hq; exact Or.inl rfl) (by decide) rfl rfl rfl ?_
  refine WP.ret (ov := none) dX8_init_23 ⟨rfl, rfl⟩ ?_
  exact hq
set_option maxHeartbeats 1000000 in
set_option maxRecDepth 4000 in
theorem s_uInit {d : Nat} {M : Mem} {Q : Out → Mem → Prop} (hq : Q (.inl none) (sR (sR M 5 0 0 (some (rf 7 0))) 5 0 1 (some (rf 9 2)))) : WPc (d + 2) mX6_init [.ref (rf 5 0), .ref (rf 7 0), .ref (rf 9 2)] M Q := by
  refine WPc.of (by decide +kernel) (Nat.le_of_ble_eq_true rfl) rfl ?_
  refine R.aload_n dX6_init_0 rfl (by first | rfl | exact rfv_rf _) ?_
  refine R.objInit (by decide) oi_X6_3 oi_in oi_co (by omega) (by first | exact Nat.le_of_ble_eq_true rfl | simp [rf_cat, Value.category]) dX6_init_1 ?_
  refine R.aload_n dX6_init_4 rfl (by first | rfl | exact rfv_rf _) ?_
  refine R.aload_n dX6_init_5 rfl (by first | rfl | exact rfv_rf _) ?_
  refine R.putA dX6_init_6 fl_X6_9 (fun q hq => by cases hq; exact Or.inr ⟨rfl, rfl⟩) rfl ?_
  refine R.aload_n dX6_init_9 rfl (by first | rfl | exact rfv_rf _) ?_
  refine R.aload_n dX6_init_10 rfl (by first | rfl | exact rfv_rf _) ?_
  refine R.putA dX6_init_11 fl_X6_15 (fun q hq => by cases hq; exact Or.inr ⟨rfl, rfl⟩) rfl ?_
  refine WP.ret (ov := none) dX6_init_14 ⟨rfl, rfl⟩ ?_
  exact hq
set_option maxHeartbeats 1000000 in
set_option maxRecDepth 4000 in
theorem s_stInit {d : Nat} {j : Nat} {M : Mem} {Q : Out → Mem → Prop} (hq : Q (.inl none) (sI (sI (sI (sR M 6 j 0 (some (rf 22 5))) 6 j 1 (-1)) 6 j 2 (-1)) 6 j 3 (-1))) : WPc (d + 2) mX7_init [.ref (rf 6 j)] M Q := by
  refine WPc.of (by decide +kernel) (Nat.le_of_ble_eq_true rfl) rfl ?_
  refine R.aload_n dX7_init_0 rfl (by first | rfl | exact rfv_rf _) ?_
  refine R.objInit (by decide) oi_X7_3 oi_in oi_co (by omega) (by first | exact Nat.le_of_ble_eq_true rfl | simp [rf_cat, Value.category]) dX7_init_1 ?_
  refine R.aload_n dX7_init_4 rfl (by first | rfl | exact rfv_rf _) ?_
  refine R.gsSpring (gt_i 353 (by decide +kernel) rfl) dX7_init_5 ?_
  refine R.putA dX7_init_8 fl_X7_15 (fun q hq => by cases hq; exact Or.inr ⟨rfl, rfl⟩) rfl ?_
  refine R.aload_n dX7_init_11 rfl (by first | rfl | exact rfv_rf _) ?_
  refine R.iconst (v := (-1)) dX7_init_12 rfl ?_
  refine R.putI dX7_init_13 fl_X7_20 (fun q hq => by cases hq; exact Or.inl rfl) (by decide) rfl rfl rfl ?_
  refine R.aload_n dX7_init_16 rfl (by first | rfl | exact rfv_rf _) ?_
  refine R.iconst (v := (-1)) dX7_init_17 rfl ?_
  refine R.putI dX7_init_18 fl_X7_24 (fun q hq => by cases hq; exact Or.inl rfl) (by decide) rfl rfl rfl ?_
  refine R.aload_n dX7_init_21 rfl (by first | rfl | exact rfv_rf _) ?_
  refine R.iconst (v := (-1)) dX7_init_22 rfl ?_
  refine R.putI dX7_init_23 fl_X7_27 (fun q hq => by cases hq; exact Or.inl rfl) (by decide) rfl rfl rfl ?_
  refine WP.ret (ov := none) dX7_init_26 ⟨rfl, rfl⟩ ?_
  exact hq
set_option maxHeartbeats 1000000 in
set_option maxRecDepth 4000 in
theorem s_siInit {d : Nat} {M : Mem} {Q : Out → Mem → Prop} (h19 : mC M 19 = 0) (h6 : mC M 6 = 0) (hq : ∀ M', SLay M' → mC M' 19 = 1 → (∀ k, (k ≠ 19 ∧ k ≠ 6) → mC M' k = mC M k) → FC (fun k i => (k = 4 ∧ i = 0) ∨ (k = 19 ∧ i = 0) ∨ k = 6) M M' → mK M' = mK M + (1 + 30) → mS M' = mS M + (30 + 5 * 30) → Q (.inl none) M') : WPc (d + 3) mX5_init [.ref (rf 4 0), .ref (rf 7 0), .ref (rf 9 0)] M Q := by
  refine WPc.of (by decide +kernel) (Nat.le_of_ble_eq_true rfl) rfl ?_
  have key : ∀ (f i : Nat) (M1 : Mem), i + f = 30 → (∀ j, j < i → mR M1 19 0 j = some (rf 6 j)) → mR M1 4 0 0 = some (rf 7 0) → mR M1 4 0 1 = some (rf 9 0) → mR M1 4 0 2 = some (rf 19 0) → mN M1 19 0 = 30 → mC M1 19 = 1 → mC M1 6 = i → (∀ k, (k ≠ 19 ∧ k ≠ 6) → mC M1 k = mC M k) → FC (fun k i => (k = 4 ∧ i = 0) ∨ (k = 19 ∧ i = 0) ∨ k = 6) M M1 → mK M1 = mK M + (1 + i) → mS M1 = mS M + (30 + 5 * i) → WP mX5_init (d + 3) 25 [.ref (rf 4 0), .ref (rf 7 0), .ref (rf 9 0), .int (nI i)] [] M1 Q := by
    intro f
    induction f with
    | zero =>
      intro i M1 hf g0 g1 g2 g3 g4 g5 g5b g6 g7 gk gs
      have ei : i = 30 := by omega
      subst ei
      refine R.iload_n dX5_init_25 rfl ?_
      refine R.bipush (v := 30) dX5_init_26 (by decide) ?_
      refine R.geT (tgt := 50) (Int32.le_refl _) dX5_init_28 (by decide) ?_
      refine WP.ret (ov := none) dX5_init_50 ⟨rfl, rfl⟩ ?_
      exact hq M1 ⟨g1, g2, g3, g4, g0⟩ g5 g6 g7 gk gs
    | succ f ih =>
      intro i M1 hf g0 g1 g2 g3 g4 g5 g5b g6 g7 gk gs
      refine R.iload_n dX5_init_25 rfl ?_
      refine R.bipush (v := 30) dX5_init_26 (by decide) ?_
      refine R.geF (tgt := 50) (nI_ge (show i < 30 by omega) (by decide)) dX5_init_28 (by decide) ?_
      refine R.aload_n dX5_init_31 rfl (by first | rfl | exact rfv_rf _) ?_
      refine R.getS (g3) dX5_init_32 fl_X5_11 (by decide) rfl ?_
      refine R.iload_n dX5_init_35 rfl ?_
      refine R.new (k := 6) rfl cw_X5_9 mk_6 iz_6 dX5_init_36 ?_
      rw [g5b]
      refine R.dup dX5_init_39 (by first | rfl | exact rf_cat _) ?_
      refine cl_X5_25 rfl rfl (by first | exact Nat.le_of_ble_eq_true rfl | simp [rf_cat, Value.category]) dX5_init_40 ?_
      refine s_stInit ?_
      refine R.aast (k := 19) (ko := 6) (by decide) (by decide) rfl rfl dX5_init_43 (nI_pos (by omega)) (by rw [nI_clamp (by omega)]; simp only [mN_sI, mN_sR]; rw [mN_al, if_neg (by omega), g4]; omega) ?_
      rw [nI_clamp (by omega)]
      refine R.iinc dX5_init_44 (Nat.le_of_ble_eq_true rfl) (by decide) (by first | rfl | simp [lft, rf_cat]) rfl (inc_nI _) rfl ?_
      refine R.goto (tgt := 25) dX5_init_47 (by decide) ?_
      refine ih (i + 1) _ (by omega) (fun j hj => ?_) ?_ ?_ ?_ ?_ ?_ ?_ (fun k hk => ?_) ?_ ?_ ?_
      · by_cases z : j = i
        · subst z
          rw [mR_sR, if_pos ⟨rfl, rfl, rfl⟩]
        · simp only [mR_sR, mR_sI]
          rw [if_neg (by omega), if_neg (by omega), mR_al, if_neg (by omega)]; exact g0 j (by omega)
      · simp only [mR_sR, mR_sI]
        rw [if_neg (by omega), if_neg (by omega), mR_al, if_neg (by omega)]; exact g1
      · simp only [mR_sR, mR_sI]
        rw [if_neg (by omega), if_neg (by omega), mR_al, if_neg (by omega)]; exact g2
      · simp only [mR_sR, mR_sI]
        rw [if_neg (by omega), if_neg (by omega), mR_al, if_neg (by omega)]; exact g3
      · simp only [mN_sR, mN_sI]
        rw [mN_al, if_neg (by omega)]; exact g4
      · simp only [mC_sR, mC_sI]
        rw [mC_al, if_neg (by omega)]; exact g5
      · simp only [mC_sR, mC_sI]
        rw [mC_al, if_pos rfl, g5b]
      · simp only [mC_sR, mC_sI]
        rw [mC_al, if_neg (by omega)]; exact g6 k hk
      · exact ((((((g7.al (Or.inr (Or.inr rfl))).sR (Or.inr (Or.inr rfl))).sI (Or.inr (Or.inr rfl))).sI (Or.inr (Or.inr rfl))).sI (Or.inr (Or.inr rfl)))).sR (Or.inr (Or.inl ⟨rfl, rfl⟩))
      · simp only [mK_sR, mK_sI, mK_al]
        omega
      · simp only [mS_sR, mS_sI, mS_al]
        omega
  refine R.aload_n dX5_init_0 rfl (by first | rfl | exact rfv_rf _) ?_
  refine R.objInit (by decide) oi_X5_3 oi_in oi_co (by omega) (by first | exact Nat.le_of_ble_eq_true rfl | simp [rf_cat, Value.category]) dX5_init_1 ?_
  refine R.aload_n dX5_init_4 rfl (by first | rfl | exact rfv_rf _) ?_
  refine R.bipush (v := 30) dX5_init_5 (by decide) ?_
  refine R.anewarr (k := 19) (N := 30) (by decide) (by decide) rfl cw_X5_9 (by decide) (by decide) (by decide) (by decide) dX5_init_7 ?_
  rw [h19]
  refine R.putA dX5_init_10 fl_X5_11 (fun q hq => by cases hq; exact Or.inr ⟨rfl, rfl⟩) rfl ?_
  refine R.aload_n dX5_init_13 rfl (by first | rfl | exact rfv_rf _) ?_
  refine R.aload_n dX5_init_14 rfl (by first | rfl | exact rfv_rf _) ?_
  refine R.putA dX5_init_15 fl_X5_17 (fun q hq => by cases hq; exact Or.inr ⟨rfl, rfl⟩) rfl ?_
  refine R.aload_n dX5_init_18 rfl (by first | rfl | exact rfv_rf _) ?_
  refine R.aload_n dX5_init_19 rfl (by first | rfl | exact rfv_rf _) ?_
  refine R.putA dX5_init_20 fl_X5_21 (fun q hq => by cases hq; exact Or.inr ⟨rfl, rfl⟩) rfl ?_
  refine R.iconst (v := 0) dX5_init_23 rfl ?_
  refine R.istore_n dX5_init_24 (Nat.le_of_ble_eq_true rfl) (by decide) (by first | rfl | simp [lft, rf_cat]) rfl ?_
  refine key 30 0 (sR (sR (sR (al M 19 30 30) 4 0 2 (some (rf 19 0))) 4 0 0 (some (rf 7 0))) 4 0 1 (some (rf 9 0))) rfl (fun j hj => absurd hj (Nat.not_lt_zero j)) ?_ ?_ ?_ ?_ ?_ ?_ (fun k hk => ?_) ?_ ?_ ?_
  · rw [mR_sR, if_neg (by omega), mR_sR, if_pos ⟨rfl, rfl, rfl⟩]
  · rw [mR_sR, if_pos ⟨rfl, rfl, rfl⟩]
  · rw [mR_sR, if_neg (by omega), mR_sR, if_neg (by omega), mR_sR, if_pos ⟨rfl, rfl, rfl⟩]
  · simp only [mN_sR]
    rw [mN_al, if_pos ⟨rfl, h19.symm⟩]
  · simp only [mC_sR]
    rw [mC_al, if_pos rfl, h19]
  · simp only [mC_sR]
    rw [mC_al, if_neg (by omega)]; exact h6
  · simp only [mC_sR]
    rw [mC_al, if_neg (by omega)]
  · exact ((((FC.rf (fun k i => (k = 4 ∧ i = 0) ∨ (k = 19 ∧ i = 0) ∨ k = 6) M).al (by rw [h19]; exact Or.inr (Or.inl ⟨rfl, rfl⟩))).sR (Or.inl ⟨rfl, rfl⟩)).sR (Or.inl ⟨rfl, rfl⟩)).sR (Or.inl ⟨rfl, rfl⟩)
  · simp only [mK_sR, mK_al]
  · simp only [mS_sR, mS_al]
set_option maxHeartbeats 1000000 in
set_option maxRecDepth 4000 in
theorem s_sbInit5 {d : Nat} {M : Mem} {Q : Out → Mem → Prop} (h13 : mC M 13 = 1) (hq : Q (.inl none) (sI (sR (al M 13 16 16) 12 0 0 (some (rf 13 1))) 12 0 1 0)) : WPc (d + 2) mJ5_init_d00df [.ref (rf 12 0), .int 16] M Q := by
  refine WPc.of (by decide +kernel) (Nat.le_of_ble_eq_true rfl) rfl ?_
  refine R.aload_n dJ5_init_d00df_0 rfl (by first | rfl | exact rfv_rf _) ?_
  refine R.objInit (by decide) oi_J5_3 oi_in oi_co (by omega) (by first | exact Nat.le_of_ble_eq_true rfl | simp [rf_cat, Value.category]) dJ5_init_d00df_1 ?_
  refine R.gsCompact (gt_i 391 (by decide +kernel) rfl) dJ5_init_d00df_4 ?_
  refine R.if_eq (tgt := 25) dJ5_init_d00df_7 (by decide) (fun c => absurd c (by decide)) (fun _ => ?_)
  refine R.aload_n dJ5_init_d00df_10 rfl (by first | rfl | exact rfv_rf _) ?_
  refine R.iload_n dJ5_init_d00df_11 rfl ?_
  refine R.newarr (k := 13) (N := 16) (by decide) (by decide) rfl (by decide +kernel) (by decide) (by decide) (by decide) dJ5_init_d00df_12 ?_
  rw [h13]
  refine R.putA dJ5_init_d00df_14 fl_J5_15 (fun q hq => by cases hq; exact Or.inl rfl) rfl ?_
  refine R.aload_n dJ5_init_d00df_17 rfl (by first | rfl | exact rfv_rf _) ?_
  refine R.iconst (v := 0) dJ5_init_d00df_18 rfl ?_
  refine R.putI dJ5_init_d00df_19 fl_J5_22 (fun q hq => by cases hq; exact Or.inl rfl) (by decide) rfl (by first | rfl | assumption) (by first | rfl | assumption) ?_
  refine R.goto (tgt := 38) dJ5_init_d00df_22 (by decide) ?_
  refine WP.ret (ov := none) dJ5_init_d00df_38 ⟨rfl, rfl⟩ ?_
  exact hq
set_option maxHeartbeats 1000000 in
set_option maxRecDepth 4000 in
theorem s_sbInit {d : Nat} {M : Mem} {Q : Out → Mem → Prop} (h13 : mC M 13 = 1) (hq : Q (.inl none) (sI (sR (al M 13 16 16) 12 0 0 (some (rf 13 1))) 12 0 1 0)) : WPc (d + 3) mJ4_init_da8c8 [.ref (rf 12 0)] M Q := by
  refine WPc.of (by decide +kernel) (Nat.le_of_ble_eq_true rfl) rfl ?_
  refine R.aload_n dJ4_init_da8c8_0 rfl (by first | rfl | exact rfv_rf _) ?_
  refine R.bipush (v := 16) dJ4_init_da8c8_1 (by decide) ?_
  refine cl_J4_1 rfl rfl (by first | exact Nat.le_of_ble_eq_true rfl | simp [rf_cat, Value.category]) dJ4_init_da8c8_3 ?_
  refine s_sbInit5 h13 ?_
  refine WP.ret (ov := none) dJ4_init_da8c8_6 ⟨rfl, rfl⟩ ?_
  exact hq
/-- a part of the class's object is laid -/
def SF (n r : Nat) (M M' : Mem) : Prop := FN M M' ∧ (∀ f, mR M' 10 0 f = if f = n then some r else mR M 10 0 f) ∧ ∀ f, mI M' 10 0 f = mI M 10 0 f
theorem SF.mk {n r : Nat} {M M' : Mem} (F : FN M M') (hR : mR M' 10 0 = mR M 10 0) (hI : mI M' 10 0 = mI M 10 0) : SF n r M (sR M' 10 0 n (some r)) := ⟨F.tr (FN.sR M' n _), fun f => by
  rw [mR_sR]
  by_cases z : f = n
  · rw [if_pos ⟨rfl, rfl, z⟩, if_pos z]
  · rw [if_neg (fun w => z w.2.2), if_neg z, hR], fun f => by rw [mI_sR, hI]⟩
set_option maxHeartbeats 1000000 in
set_option maxRecDepth 4000 in
theorem c_y0 {d : Nat}  {M : Mem} {Q : Out → Mem → Prop} (hc : CY M 0 0) (kq : ∀ M', SF 0 (rf 9 0) M M' → Yv M' 0 blY → CY M' 1 1 → CK M M' → mK M' = mK M + 27 → mS M' = mS M + 286 → WP mX12_init (d + 13) 15 [.ref (rf 10 0)] [] M' Q) : WP mX12_init (d + 13) 4 [.ref (rf 10 0)] [] M Q := by
  refine R.aload_n dX12_init_4 rfl (by first | rfl | exact rfv_rf _) ?_
  refine R.new (k := 9) rfl cw_X12_7 mk_9 iz_9 dX12_init_5 ?_
  rw [hc.1]
  refine R.dup dX12_init_8 (by first | rfl | exact rf_cat _) ?_
  refine cl_X12_9 rfl rfl (by first | exact Nat.le_of_ble_eq_true rfl | simp [rf_cat, Value.category]) dX12_init_9 ?_
  refine s_yInit (y := 0) (cy_al hc) (fun f => by rw [mI_al, if_pos ⟨rfl, hc.1.symm⟩]) (fun M2 y2 c2 F2 k2 b2 b3 => ?_)
  have e10 := F2 10 0 (by unfold inY; omega)
  have fn : FN M M2 := FN.of ((((FC.rf (inY 0) M).al (by rw [hc.1]; unfold inY; omega))).tr F2) (hc.le c2 (by omega) (fun k hk => by rw [k2 k hk, mC_al, if_neg (by omega)])) (fun k j z => Or.inl (inY_new hc z))
  refine R.putA dX12_init_12 fl_X12_10 (fun q hq => by cases hq; exact Or.inr ⟨rfl, rfl⟩) rfl ?_
  refine kq _ (SF.mk fn (by rw [e10.2.2.1]; funext f; rw [mR_al, if_neg (by omega)]) (by rw [e10.1]; funext f; rw [mI_al, if_neg (by omega)])) (y2.fc ((FC.rf (fun k i => k = 10) M2).sR rfl) (fun k i z w => by unfold inY at z; omega)) c2 (fun k hk => ?_) ?_ ?_
  · rw [mC_sR, k2 k hk, mC_al, if_neg (by omega)]
  · rw [mK_sR, b2, mK_al]
  · rw [mS_sR, b3, mS_al]
set_option maxHeartbeats 1000000 in
set_option maxRecDepth 4000 in
theorem c_y1 {d : Nat}  {M : Mem} {Q : Out → Mem → Prop} (hc : CY M 1 1) (kq : ∀ M', SF 1 (rf 9 1) M M' → Yv M' 1 blY → CY M' 2 2 → CK M M' → mK M' = mK M + 27 → mS M' = mS M + 286 → WP mX12_init (d + 13) 26 [.ref (rf 10 0)] [] M' Q) : WP mX12_init (d + 13) 15 [.ref (rf 10 0)] [] M Q := by
  refine R.aload_n dX12_init_15 rfl (by first | rfl | exact rfv_rf _) ?_
  refine R.new (k := 9) rfl cw_X12_7 mk_9 iz_9 dX12_init_16 ?_
  rw [hc.1]
  refine R.dup dX12_init_19 (by first | rfl | exact rf_cat _) ?_
  refine cl_X12_9 rfl rfl (by first | exact Nat.le_of_ble_eq_true rfl | simp [rf_cat, Value.category]) dX12_init_20 ?_
  refine s_yInit (y := 1) (cy_al hc) (fun f => by rw [mI_al, if_pos ⟨rfl, hc.1.symm⟩]) (fun M2 y2 c2 F2 k2 b2 b3 => ?_)
  have e10 := F2 10 0 (by unfold inY; omega)
  have fn : FN M M2 := FN.of ((((FC.rf (inY 1) M).al (by rw [hc.1]; unfold inY; omega))).tr F2) (hc.le c2 (by omega) (fun k hk => by rw [k2 k hk, mC_al, if_neg (by omega)])) (fun k j z => Or.inl (inY_new hc z))
  refine R.putA dX12_init_23 fl_X12_16 (fun q hq => by cases hq; exact Or.inr ⟨rfl, rfl⟩) rfl ?_
  refine kq _ (SF.mk fn (by rw [e10.2.2.1]; funext f; rw [mR_al, if_neg (by omega)]) (by rw [e10.1]; funext f; rw [mI_al, if_neg (by omega)])) (y2.fc ((FC.rf (fun k i => k = 10) M2).sR rfl) (fun k i z w => by unfold inY at z; omega)) c2 (fun k hk => ?_) ?_ ?_
  · rw [mC_sR, k2 k hk, mC_al, if_neg (by omega)]
  · rw [mK_sR, b2, mK_al]
  · rw [mS_sR, b3, mS_al]
set_option maxHeartbeats 1000000 in
set_option maxRecDepth 4000 in
theorem c_y2 {d : Nat}  {M : Mem} {Q : Out → Mem → Prop} (hc : CY M 2 2) (kq : ∀ M', SF 2 (rf 9 2) M M' → Yv M' 2 blY → CY M' 3 3 → CK M M' → mK M' = mK M + 27 → mS M' = mS M + 286 → WP mX12_init (d + 13) 37 [.ref (rf 10 0)] [] M' Q) : WP mX12_init (d + 13) 26 [.ref (rf 10 0)] [] M Q := by
  refine R.aload_n dX12_init_26 rfl (by first | rfl | exact rfv_rf _) ?_
  refine R.new (k := 9) rfl cw_X12_7 mk_9 iz_9 dX12_init_27 ?_
  rw [hc.1]
  refine R.dup dX12_init_30 (by first | rfl | exact rf_cat _) ?_
  refine cl_X12_9 rfl rfl (by first | exact Nat.le_of_ble_eq_true rfl | simp [rf_cat, Value.category]) dX12_init_31 ?_
  refine s_yInit (y := 2) (cy_al hc) (fun f => by rw [mI_al, if_pos ⟨rfl, hc.1.symm⟩]) (fun M2 y2 c2 F2 k2 b2 b3 => ?_)
  have e10 := F2 10 0 (by unfold inY; omega)
  have fn : FN M M2 := FN.of ((((FC.rf (inY 2) M).al (by rw [hc.1]; unfold inY; omega))).tr F2) (hc.le c2 (by omega) (fun k hk => by rw [k2 k hk, mC_al, if_neg (by omega)])) (fun k j z => Or.inl (inY_new hc z))
  refine R.putA dX12_init_34 fl_X12_19 (fun q hq => by cases hq; exact Or.inr ⟨rfl, rfl⟩) rfl ?_
  refine kq _ (SF.mk fn (by rw [e10.2.2.1]; funext f; rw [mR_al, if_neg (by omega)]) (by rw [e10.1]; funext f; rw [mI_al, if_neg (by omega)])) (y2.fc ((FC.rf (fun k i => k = 10) M2).sR rfl) (fun k i z w => by unfold inY at z; omega)) c2 (fun k hk => ?_) ?_ ?_
  · rw [mC_sR, k2 k hk, mC_al, if_neg (by omega)]
  · rw [mK_sR, b2, mK_al]
  · rw [mS_sR, b3, mS_al]
set_option maxHeartbeats 1000000 in
set_option maxRecDepth 4000 in
theorem c_h {d : Nat}  {M : Mem} {Q : Out → Mem → Prop} (hc : CY M 3 3) (h2 : mC M 2 = 0) (h20 : mC M 20 = 0) (kq : ∀ M', SF 3 (rf 2 0) M M' → HLay M' → mI M' 2 0 1 = 0 → mI M' 2 0 2 = 0 → (∀ j, j < 8 → ∃ Y, Yv M' (3 + j) Y) → CY M' 11 11 → (∀ k, (k ≠ 9 ∧ k ≠ 18 ∧ k ≠ 17 ∧ k ≠ 3 ∧ k ≠ 8 ∧ k ≠ 1 ∧ k ≠ 0 ∧ k ≠ 20 ∧ k ≠ 2) → mC M' k = mC M k) → mC M' 2 = 1 → mC M' 20 = 1 → mK M' = mK M + 218 → mS M' = mS M + 2299 → WP mX12_init (d + 13) 48 [.ref (rf 10 0)] [] M' Q) : WP mX12_init (d + 13) 37 [.ref (rf 10 0)] [] M Q := by
  refine R.aload_n dX12_init_37 rfl (by first | rfl | exact rfv_rf _) ?_
  refine R.new (k := 2) rfl cw_X12_22 mk_2 iz_2 dX12_init_38 ?_
  rw [h2]
  refine R.dup dX12_init_41 (by first | rfl | exact rf_cat _) ?_
  refine cl_X12_24 rfl rfl (by first | exact Nat.le_of_ble_eq_true rfl | simp [rf_cat, Value.category]) dX12_init_42 ?_
  refine s_hInit (CY.ne hc) (by rw [mC_al, if_neg (by omega)]; exact h20) (fun f => by rw [mI_al, if_pos ⟨rfl, h2.symm⟩]) (fun M2 l2 i1 i2 y2 c2 c20 k2 F2 b2 b3 => ?_)
  have e10 := F2 10 0 (by rintro (⟨j, z⟩ | z | z); · unfold inY at z; omega
                          · omega
                          · omega)
  have fn : FN M M2 := by
    refine FN.of (((FC.rf (fun k i => inY3 k i ∨ (k = 2 ∧ i = 0) ∨ (k = 20 ∧ i = 0)) M).al (by rw [h2]; exact Or.inr (Or.inl ⟨rfl, rfl⟩))).tr F2) (fun k => ?_) (fun k j z => Or.inl ?_)
    · by_cases z : k ≠ 9 ∧ k ≠ 18 ∧ k ≠ 17 ∧ k ≠ 3 ∧ k ≠ 8 ∧ k ≠ 1 ∧ k ≠ 0
      · by_cases z2 : k = 20
        · subst z2; rw [h20]; exact Nat.zero_le _
        · rw [k2 k (by omega)]; exact (FN.al M 2 0 3).2 k
      · obtain ⟨a1, a2, a3, a4, a5, a6, a7⟩ := hc
        obtain ⟨q1, q2, q3, q4, q5, q6, q7⟩ := c2
        have z' : k = 9 ∨ k = 18 ∨ k = 17 ∨ k = 3 ∨ k = 8 ∨ k = 1 ∨ k = 0 := by omega
        rcases z' with rfl | rfl | rfl | rfl | rfl | rfl | rfl <;> omega
    · rcases z with ⟨j', z⟩ | ⟨rfl, rfl⟩ | ⟨rfl, rfl⟩
      · obtain ⟨a1, a2, a3, a4, a5, a6, a7⟩ := hc
        unfold inY at z
        rcases z with z | z | z | z | z | z | z <;> (first | (obtain ⟨rfl, z⟩ := z; omega) | omega)
      · rw [h2]; exact Nat.le_refl _
      · rw [h20]; exact Nat.le_refl _
  refine R.putA dX12_init_45 fl_X12_25 (fun q hq => by cases hq; exact Or.inr ⟨rfl, rfl⟩) rfl ?_
  refine kq _ (SF.mk fn (by rw [e10.2.2.1]; funext f; rw [mR_al, if_neg (by omega)]) (by rw [e10.1]; funext f; rw [mI_al, if_neg (by omega)])) ?_ i1 i2 (fun j hj => ?_) c2 (fun k hk => ?_) ?_ ?_ ?_ ?_
  · obtain ⟨l1, l3, l4⟩ := l2
    refine ⟨by rw [mR_sR, if_neg (by omega)]; exact l1, l3, fun j hj => by rw [mR_sR, if_neg (by omega)]; exact l4 j hj⟩
  · obtain ⟨Y, hY⟩ := y2 j hj
    exact ⟨Y, hY.fc ((FC.rf (fun k i => k = 10) M2).sR rfl) (fun k i z w => by unfold inY at z; omega)⟩
  · rw [mC_sR, k2 k (by omega), mC_al, if_neg (by omega)]
  · rw [mC_sR, k2 2 (by omega), mC_al, if_pos rfl, h2]
  · rw [mC_sR]; exact c20
  · rw [mK_sR, b2, mK_al]
  · rw [mS_sR, b3, mS_al]
set_option maxHeartbeats 1000000 in
set_option maxRecDepth 4000 in
theorem c_t {d : Nat}  {M : Mem} {Q : Out → Mem → Prop} (h7 : mC M 7 = 0) (h13 : mC M 13 = 0) (kq : ∀ M', SF 4 (rf 7 0) M M' → Tz M' (fun _ => 0) 0 0 (-1) → (∀ k, mC M' k = if k = 7 ∨ k = 13 then 1 else mC M k) → mK M' = mK M + 2 → mS M' = mS M + 607 → WP mX12_init (d + 13) 59 [.ref (rf 10 0)] [] M' Q) : WP mX12_init (d + 13) 48 [.ref (rf 10 0)] [] M Q := by
  refine R.aload_n dX12_init_48 rfl (by first | rfl | exact rfv_rf _) ?_
  refine R.new (k := 7) rfl cw_X12_29 mk_7 iz_7 dX12_init_49 ?_
  rw [h7]
  refine R.dup dX12_init_52 (by first | rfl | exact rf_cat _) ?_
  refine cl_X12_31 rfl rfl (by first | exact Nat.le_of_ble_eq_true rfl | simp [rf_cat, Value.category]) dX12_init_53 ?_
  refine s_xInit (by rw [mC_al, if_neg (by omega)]; exact h13) ?_
  refine R.putA dX12_init_56 fl_X12_32 (fun q hq => by cases hq; exact Or.inr ⟨rfl, rfl⟩) rfl ?_
  refine kq _ (SF.mk ?_ ?_ ?_) ?_ (fun k => ?_) ?_ ?_
  · exact FN.of ((((((FC.rf (fun k i => (k = 7 ∧ i = 0) ∨ (k = 13 ∧ i = 0)) M).al (by rw [h7]; exact Or.inl ⟨rfl, rfl⟩)).al (by rw [mC_al, if_neg (by omega), h13]; exact Or.inr ⟨rfl, rfl⟩)).sR (Or.inl ⟨rfl, rfl⟩)).sI (Or.inl ⟨rfl, rfl⟩)).sI (Or.inl ⟨rfl, rfl⟩)) (fun k => Nat.le_trans ((FN.al M _ _ _).2 k) ((FN.al _ _ _ _).2 k)) (fun k i z => Or.inl (by rcases z with ⟨rfl, rfl⟩ | ⟨rfl, rfl⟩ <;> omega))
  · funext f; simp only [mR_sI, mR_sR, mR_al]; rw [if_neg (by omega), if_neg (by omega), if_neg (by omega)]
  · funext f; simp only [mI_sI, mI_sR, mI_al]; rw [if_neg (by omega), if_neg (by omega), if_neg (by omega), if_neg (by omega)]
  · refine ⟨?_, ?_, fun i hi => ?_, ?_, by omega, ⟨0, by omega, ?_⟩, ?_, ?_⟩
    · simp [mR_sI, mR_sR]
    · simp [mN_sI, mN_sR, mN_al, mC_al, h7, h13]
    · first | (simp [mI_sI, mI_sR, mI_al, mC_al, h7, h13]; done) | (simp [mI_sI, mI_sR, mI_al, mC_al, h7, h13]; rfl)
    · first | (simp [mI_sI, mI_sR, mI_al, mC_al, h7, h13]; done) | (simp [mI_sI, mI_sR, mI_al, mC_al, h7, h13]; rfl)
    · first | (simp [mI_sI, mI_sR, mI_al, mC_al, h7, h13]; done) | (simp [mI_sI, mI_sR, mI_al, mC_al, h7, h13]; rfl)
    · simp [mI_sI, mI_sR, h7, h13]
    · simp [mI_sI, mI_sR, h7, h13]
  · simp only [mC_sI, mC_sR, mC_al]
    by_cases z : k = 7
    · subst z; rw [if_neg (by omega), if_pos rfl, if_pos (Or.inl rfl), h7]
    · by_cases z2 : k = 13
      · subst z2; rw [if_pos rfl, if_neg (by omega), if_pos (Or.inr rfl), h13]
      · rw [if_neg z2, if_neg z, if_neg (by omega)]
  · simp only [mK_sI, mK_sR, mK_al]
  · simp only [mS_sI, mS_sR, mS_al]
set_option maxHeartbeats 1000000 in
set_option maxRecDepth 4000 in
theorem c_u {d : Nat}  {M : Mem} {Q : Out → Mem → Prop} (h5 : mC M 5 = 0) (g4 : mR M 10 0 4 = some (rf 7 0)) (g2 : mR M 10 0 2 = some (rf 9 2)) (kq : ∀ M', SF 5 (rf 5 0) M M' → LSe M' → (∀ k, mC M' k = if k = 5 then 1 else mC M k) → mK M' = mK M + 1 → mS M' = mS M + 2 → WP mX12_init (d + 13) 78 [.ref (rf 10 0)] [] M' Q) : WP mX12_init (d + 13) 59 [.ref (rf 10 0)] [] M Q := by
  refine R.aload_n dX12_init_59 rfl (by first | rfl | exact rfv_rf _) ?_
  refine R.new (k := 5) rfl cw_X12_36 mk_5 iz_5 dX12_init_60 ?_
  rw [h5]
  refine R.dup dX12_init_63 (by first | rfl | exact rf_cat _) ?_
  refine R.aload_n dX12_init_64 rfl (by first | rfl | exact rfv_rf _) ?_
  refine R.getS ((show mR (al M 5 0 2) 10 0 4 = some (rf 7 0) from by rw [mR_al, if_neg (by omega)]; exact g4)) dX12_init_65 fl_X12_32 (by decide) rfl ?_
  refine R.aload_n dX12_init_68 rfl (by first | rfl | exact rfv_rf _) ?_
  refine R.getS ((show mR (al M 5 0 2) 10 0 2 = some (rf 9 2) from by rw [mR_al, if_neg (by omega)]; exact g2)) dX12_init_69 fl_X12_19 (by decide) rfl ?_
  refine cl_X12_38 rfl rfl (by first | exact Nat.le_of_ble_eq_true rfl | simp [rf_cat, Value.category]) dX12_init_72 ?_
  refine s_uInit ?_
  refine R.putA dX12_init_75 fl_X12_41 (fun q hq => by cases hq; exact Or.inr ⟨rfl, rfl⟩) rfl ?_
  refine kq _ (SF.mk ?_ ?_ ?_) ?_ (fun k => ?_) ?_ ?_
  · exact FN.of ((((FC.rf (fun k i => k = 5 ∧ i = 0) M).al ⟨rfl, h5⟩).sR ⟨rfl, rfl⟩).sR ⟨rfl, rfl⟩) (fun k => (FN.al M _ _ _).2 k) (fun k i z => Or.inl (by obtain ⟨rfl, rfl⟩ := z; omega))
  · funext f; simp only [mR_sR, mR_al]; rw [if_neg (by omega), if_neg (by omega), if_neg (by omega)]
  · funext f; simp only [mI_sR, mI_al]; rw [if_neg (by omega)]
  · refine ⟨?_, ?_⟩ <;> simp [mR_sR]
  · simp only [mC_sR, mC_al]
    split
    · omega
    · rfl
  · simp only [mK_sR, mK_al]
  · simp only [mS_sR, mS_al]
set_option maxHeartbeats 1000000 in
set_option maxRecDepth 4000 in
theorem c_s {d : Nat}  {M : Mem} {Q : Out → Mem → Prop} (h4 : mC M 4 = 0) (h19 : mC M 19 = 0) (h6 : mC M 6 = 0) (g4 : mR M 10 0 4 = some (rf 7 0)) (g2 : mR M 10 0 0 = some (rf 9 0)) (kq : ∀ M', SF 6 (rf 4 0) M M' → SLay M' → mC M' 4 = 1 → mC M' 19 = 1 → (∀ k, (k ≠ 4 ∧ k ≠ 19 ∧ k ≠ 6) → mC M' k = mC M k) → mK M' = mK M + 32 → mS M' = mS M + 184 → WP mX12_init (d + 13) 97 [.ref (rf 10 0)] [] M' Q) : WP mX12_init (d + 13) 78 [.ref (rf 10 0)] [] M Q := by
  refine R.aload_n dX12_init_78 rfl (by first | rfl | exact rfv_rf _) ?_
  refine R.new (k := 4) rfl cw_X12_45 mk_4 iz_4 dX12_init_79 ?_
  rw [h4]
  refine R.dup dX12_init_82 (by first | rfl | exact rf_cat _) ?_
  refine R.aload_n dX12_init_83 rfl (by first | rfl | exact rfv_rf _) ?_
  refine R.getS ((show mR (al M 4 0 4) 10 0 4 = some (rf 7 0) from by rw [mR_al, if_neg (by omega)]; exact g4)) dX12_init_84 fl_X12_32 (by decide) rfl ?_
  refine R.aload_n dX12_init_87 rfl (by first | rfl | exact rfv_rf _) ?_
  refine R.getS ((show mR (al M 4 0 4) 10 0 0 = some (rf 9 0) from by rw [mR_al, if_neg (by omega)]; exact g2)) dX12_init_88 fl_X12_10 (by decide) rfl ?_
  refine cl_X12_47 rfl rfl (by first | exact Nat.le_of_ble_eq_true rfl | simp [rf_cat, Value.category]) dX12_init_91 ?_
  refine s_siInit (by rw [mC_al, if_neg (by omega)]; exact h19) (by rw [mC_al, if_neg (by omega)]; exact h6) (fun M2 l2 c19 k2 F2 b2 b3 => ?_)
  have e10 := F2 10 0 (by omega)
  refine R.putA dX12_init_94 fl_X12_48 (fun q hq => by cases hq; exact Or.inr ⟨rfl, rfl⟩) rfl ?_
  refine kq _ (SF.mk ?_ ?_ ?_) ?_ ?_ ?_ (fun k hk => ?_) ?_ ?_
  · refine FN.of (((FC.rf (fun k i => (k = 4 ∧ i = 0) ∨ (k = 19 ∧ i = 0) ∨ k = 6) M).al (by rw [h4]; exact Or.inl ⟨rfl, rfl⟩)).tr F2) (fun k => ?_) (fun k i z => Or.inl (by rcases z with ⟨rfl, rfl⟩ | ⟨rfl, rfl⟩ | rfl <;> omega))
    by_cases z : k ≠ 19 ∧ k ≠ 6
    · rw [k2 k z]; exact (FN.al M 4 0 4).2 k
    · have z' : k = 19 ∨ k = 6 := by omega
      rcases z' with rfl | rfl <;> omega
  · rw [e10.2.2.1]; funext f; rw [mR_al, if_neg (by omega)]
  · rw [e10.1]; funext f; rw [mI_al, if_neg (by omega)]
  · obtain ⟨l1, l3, l4, l5, l6⟩ := l2
    exact ⟨by rw [mR_sR, if_neg (by omega)]; exact l1, by rw [mR_sR, if_neg (by omega)]; exact l3, by rw [mR_sR, if_neg (by omega)]; exact l4, l5, fun j hj => by rw [mR_sR, if_neg (by omega)]; exact l6 j hj⟩
  · rw [mC_sR, k2 4 (by omega), mC_al, if_pos rfl, h4]
  · rw [mC_sR]; exact c19
  · rw [mC_sR, k2 k (by omega), mC_al, if_neg (by omega)]
  · rw [mK_sR, b2, mK_al]
  · rw [mS_sR, b3, mS_al]
set_option maxHeartbeats 1000000 in
set_option maxRecDepth 4000 in
theorem c_o {d : Nat}  {M : Mem} {Q : Out → Mem → Prop} (h12 : mC M 12 = 0) (h13 : mC M 13 = 1) (kq : ∀ M', SF 7 (rf 12 0) M M' → Sb M' 16 [] → (∀ k, mC M' k = if k = 12 then 1 else if k = 13 then 2 else mC M k) → mK M' = mK M + 2 → mS M' = mS M + 20 → WP mX12_init (d + 13) 108 [.ref (rf 10 0)] [] M' Q) : WP mX12_init (d + 13) 97 [.ref (rf 10 0)] [] M Q := by
  refine R.aload_n dX12_init_97 rfl (by first | rfl | exact rfv_rf _) ?_
  refine R.new (k := 12) rfl cw_X12_52 mk_12 iz_12 dX12_init_98 ?_
  rw [h12]
  refine R.dup dX12_init_101 (by first | rfl | exact rf_cat _) ?_
  refine cl_X12_54 rfl rfl (by first | exact Nat.le_of_ble_eq_true rfl | simp [rf_cat, Value.category]) dX12_init_102 ?_
  refine s_sbInit (by rw [mC_al, if_neg (by omega)]; exact h13) ?_
  refine R.putA dX12_init_105 fl_X12_55 (fun q hq => by cases hq; exact Or.inr ⟨rfl, rfl⟩) rfl ?_
  refine kq _ (SF.mk ?_ ?_ ?_) ?_ (fun k => ?_) ?_ ?_
  · exact FN.of (((((FC.rf (fun k i => (k = 12 ∧ i = 0) ∨ (k = 13 ∧ i = 1)) M).al (by rw [h12]; exact Or.inl ⟨rfl, rfl⟩)).al (by rw [mC_al, if_neg (by omega), h13]; exact Or.inr ⟨rfl, rfl⟩)).sR (Or.inl ⟨rfl, rfl⟩)).sI (Or.inl ⟨rfl, rfl⟩)) (fun k => Nat.le_trans ((FN.al M _ _ _).2 k) ((FN.al _ _ _ _).2 k)) (fun k i z => Or.inl (by rcases z with ⟨rfl, rfl⟩ | ⟨rfl, rfl⟩ <;> omega))
  · funext f; simp only [mR_sI, mR_sR, mR_al]; rw [if_neg (by omega), if_neg (by omega), if_neg (by omega)]
  · funext f; simp only [mI_sI, mI_sR, mI_al]; rw [if_neg (by omega), if_neg (by omega), if_neg (by omega)]
  · refine ⟨⟨1, ?_, by omega, ?_, ?_, fun i x hx => ?_, fun j hj => ?_⟩, ?_, ?_, Nat.zero_le _, by omega⟩
    · simp [mR_sI, mR_sR]
    · simp [mC_sI, mC_sR, mC_al, h12, h13]
    · simp [mN_sI, mN_sR, mN_al, mC_al, h12, h13]
    · cases hx
    · first | (simp [mI_sI, mI_sR, mI_al, mC_al, h12, h13]; done) | (simp [mI_sI, mI_sR, mI_al, mC_al, h12, h13]; rfl) | (simp [mI_sI, mI_sR, mI_al, mC_al, h12, h13]; decide)
    · simp [mI_sI, mI_sR, h12, h13]
    · first | (simp [mI_sI, mI_sR, mI_al, mC_al, h12, h13]; done) | (simp [mI_sI, mI_sR, mI_al, mC_al, h12, h13]; rfl) | (simp [mI_sI, mI_sR, mI_al, mC_al, h12, h13]; decide)
  · simp only [mC_sI, mC_sR, mC_al]
    by_cases z : k = 12
    · subst z; rw [if_neg (by omega), if_pos rfl, if_pos rfl, h12]
    · by_cases z2 : k = 13
      · subst z2; rw [if_pos rfl, if_neg (by omega), if_neg (by omega), if_pos rfl, h13]
      · rw [if_neg z2, if_neg z, if_neg z, if_neg z2]
  · simp only [mK_sI, mK_sR, mK_al]
  · simp only [mS_sI, mS_sR, mS_al]
set_option maxHeartbeats 1000000 in
set_option maxRecDepth 4000 in
theorem c_c {d : Nat}  {M : Mem} {Q : Out → Mem → Prop} (h1 : mC M 1 = 176) (kq : ∀ M', SF 8 (rf 1 176) M M' → (∀ k, mC M' k = if k = 1 then 177 else mC M k) → mK M' = mK M + 1 → mS M' = mS M + 13 → WP mX12_init (d + 13) 120 [.ref (rf 10 0)] [] M' Q) : WP mX12_init (d + 13) 108 [.ref (rf 10 0)] [] M Q := by
  refine R.aload_n dX12_init_108 rfl (by first | rfl | exact rfv_rf _) ?_
  refine R.new (k := 1) rfl cw_X12_59 mk_1 iz_1 dX12_init_109 ?_
  rw [h1]
  refine R.dup dX12_init_112 (by first | rfl | exact rf_cat _) ?_
  refine R.iconst (v := 0) dX12_init_113 rfl ?_
  refine cl_X12_61 rfl rfl (by first | exact Nat.le_of_ble_eq_true rfl | simp [rf_cat, Value.category]) dX12_init_114 ?_
  refine s_cInit (by omega) ?_
  refine R.putA dX12_init_117 fl_X12_64 (fun q hq => by cases hq; exact Or.inr ⟨rfl, rfl⟩) rfl ?_
  refine kq _ (SF.mk ?_ ?_ ?_) (fun k => ?_) ?_ ?_
  · exact FN.of (((FC.rf (fun k i => k = 1 ∧ i = 176) M).al ⟨rfl, h1⟩).sI ⟨rfl, rfl⟩) (fun k => (FN.al M _ _ _).2 k) (fun k i z => Or.inl (by obtain ⟨rfl, rfl⟩ := z; omega))
  · funext f; simp only [mR_sI, mR_al]; rw [if_neg (by omega)]
  · funext f; simp only [mI_sI, mI_al]; rw [if_neg (by omega), if_neg (by omega)]
  · simp only [mC_sR, mC_sI, mC_al]
    split
    · omega
    · rfl
  · simp only [mK_sR, mK_sI, mK_al]
  · simp only [mS_sR, mS_sI, mS_al]
set_option maxHeartbeats 1000000 in
set_option maxRecDepth 4000 in
theorem c_z {d : Nat}  {M : Mem} {Q : Out → Mem → Prop} (h3 : mC M 3 = 11) (kq : ∀ M', SF 9 (rf 3 11) M M' → (∀ k, mC M' k = if k = 3 then 12 else mC M k) → mK M' = mK M + 1 → mS M' = mS M + 4 → WP mX12_init (d + 13) 131 [.ref (rf 10 0)] [] M' Q) : WP mX12_init (d + 13) 120 [.ref (rf 10 0)] [] M Q := by
  refine R.aload_n dX12_init_120 rfl (by first | rfl | exact rfv_rf _) ?_
  refine R.new (k := 3) rfl cw_X12_68 mk_3 iz_3 dX12_init_121 ?_
  rw [h3]
  refine R.dup dX12_init_124 (by first | rfl | exact rf_cat _) ?_
  refine cl_X12_70 rfl rfl (by first | exact Nat.le_of_ble_eq_true rfl | simp [rf_cat, Value.category]) dX12_init_125 ?_
  refine s_sInit (by omega) ?_
  refine R.putA dX12_init_128 fl_X12_71 (fun q hq => by cases hq; exact Or.inr ⟨rfl, rfl⟩) rfl ?_
  refine kq _ (SF.mk (FN.al M 3 0 4) ?_ ?_) (fun k => ?_) rfl rfl
  · funext f; rw [mR_al, if_neg (by omega)]
  · funext f; rw [mI_al, if_neg (by omega)]
  · rw [mC_sR, mC_al]
    split
    · omega
    · rfl
theorem FN.at {M M' : Mem} (F : FN M M') {k i : Nat} (h : i < mC M k) (hk : k ≠ 10) : mI M' k i = mI M k i ∧ mL M' k i = mL M k i ∧ mR M' k i = mR M k i ∧ mD M' k i = mD M k i ∧ mN M' k i = mN M k i := F.1 k i (by omega)
theorem HLay.fn {M M' : Mem} (h : HLay M) (F : FN M M') (h2 : mC M 2 = 1) (h20 : mC M 20 = 1) : HLay M' := by
  have e2 := F.at (k := 2) (i := 0) (by omega) (by omega)
  have e20 := F.at (k := 20) (i := 0) (by omega) (by omega)
  obtain ⟨l1, l3, l4⟩ := h
  exact ⟨by rw [e2.2.2.1]; exact l1, by rw [e20.2.2.2.2]; exact l3, fun j hj => by rw [e20.2.2.1]; exact l4 j hj⟩
theorem LSe.fn {M M' : Mem} (h : LSe M) (F : FN M M') (h5 : mC M 5 = 1) : LSe M' := by
  have e := F.at (k := 5) (i := 0) (by omega) (by omega)
  exact ⟨by rw [e.2.2.1]; exact h.1, by rw [e.2.2.1]; exact h.2⟩
theorem SLay.fn {M M' : Mem} (h : SLay M) (F : FN M M') (h4 : mC M 4 = 1) (h19 : mC M 19 = 1) : SLay M' := by
  have e4 := F.at (k := 4) (i := 0) (by omega) (by omega)
  have e19 := F.at (k := 19) (i := 0) (by omega) (by omega)
  obtain ⟨l1, l2, l3, l4, l5⟩ := h
  exact ⟨by rw [e4.2.2.1]; exact l1, by rw [e4.2.2.1]; exact l2, by rw [e4.2.2.1]; exact l3, by rw [e19.2.2.2.2]; exact l4, fun j hj => by rw [e19.2.2.1]; exact l5 j hj⟩
theorem Tz.fn {M M' : Mem} {b : Nat → Int32} {n : Nat} {c q : Int32} (h : Tz M b n c q) (F : FN M M') (h7 : mC M 7 = 1) (h13 : mC M 13 = 1) : Tz M' b n c q := by
  have e7 := F.at (k := 7) (i := 0) (by omega) (by omega)
  have e13 := F.at (k := 13) (i := 0) (by omega) (by omega)
  obtain ⟨l1, l2, l3, l4, l5, ⟨s, l6, l7⟩, l8, l9⟩ := h
  exact ⟨by rw [e7.2.2.1]; exact l1, by rw [e13.2.2.2.2]; exact l2, fun i hi => by rw [e13.1]; exact l3 i hi, by rw [e7.1]; exact l4, l5, ⟨s, l6, by rw [e7.1]; exact l7⟩, by rw [e7.1]; exact l8, by rw [e7.1]; exact l9⟩
theorem Sb.fn {M M' : Mem} {cap : Nat} {O : List Int32} (h : Sb M cap O) (F : FN M M') (h12 : mC M 12 = 1) : Sb M' cap O := by
  have e := F.at (k := 12) (i := 0) (by omega) (by omega)
  obtain ⟨⟨v, a1, a2, a3, a4, a5, a6⟩, b1, b2, b3⟩ := h
  have e2 := F.at (k := 13) (i := v) a3 (by omega)
  exact ⟨⟨v, by rw [e.2.2.1]; exact a1, a2, Nat.lt_of_lt_of_le a3 (F.2 13), by rw [e2.2.2.2.2]; exact a4, fun i x hx => by rw [e2.1]; exact a5 i x hx, fun j hj => by rw [e2.1]; exact a6 j hj⟩, by rw [e.1]; exact b1, by rw [e.1]; exact b2, b3⟩
theorem FrK.fro {T : Nat → Nat → Prop} {M M' M'' : Mem} (hF : Fr T M M') (hn : ∀ k i, inK k → ¬ T k i) (h : FrK M' M'') : FrK M M'' := by
  obtain ⟨f1, f2, f3, f4, f5⟩ := hF
  obtain ⟨g1, g2, g3, g4⟩ := h
  refine ⟨fun k i hk => ?_, fun k hk => (g2 k hk).trans (by rw [f1]), by omega, by omega⟩
  have a := f5 k i (hn k i hk)
  have b := g1 k i hk
  exact ⟨b.1.trans a.1, b.2.1.trans a.2.1, b.2.2.1.trans a.2.2.1, b.2.2.2.1.trans a.2.2.2, b.2.2.2.2.trans (by rw [f2])⟩
/-- the first setup's text -/
def tx0 : Nat → Int32 := apS 2 (sLn 2) 0 (apS 1 (sLn 1) 0 (apS 0 (sLn 0) 0 (fun _ => 0) 0) (0 + sLn 0)) (0 + sLn 0 + sLn 1)
def nx0 : Nat := 0 + sLn 0 + sLn 1 + sLn 2
def S00 : KS := (blY, none, [], tx0, nx0, 0, -1, [])
set_option maxHeartbeats 1000000 in
set_option maxRecDepth 4000 in
theorem c_i9 {d : Nat} {M : Mem} {Q : Out → Mem → Prop} {Y0 : Yd} (h0 : CSt M (blY, none, [], (fun _ => 0), 0, 0, -1, []) 0) (e0 : rLi S00 0 = .inr (1, (Y0, none, [], tx0, 0, 0, -1, []), 0)) (hq : ∀ M', CSt M' (Y0, none, [], tx0, 0, 0, -1, []) 0 → FrK M M' → Q (.inl none) M') : WP mX12_init (d + 13) 131 [.ref (rf 10 0)] [] M Q := by
  refine R.aload_n dX12_init_131 rfl (by first | rfl | exact rfv_rf _) ?_
  refine R.getS (h0.l.2.2.2.2.1) dX12_init_132 fl_X12_32 (by decide) rfl ?_
  refine R.ldcS (i := 0) rfl dX12_init_135 ?_
  refine cl_X12_77 rfl rfl (by first | exact Nat.le_of_ble_eq_true rfl | simp [rf_cat, Value.category]) dX12_init_137 ?_
  refine s_tAppS h0.t (by decide) (by decide) (fun M1 t1 F1 => ?_)
  have h1 := h0.tx t1 F1
  refine R.aload_n dX12_init_140 rfl (by first | rfl | exact rfv_rf _) ?_
  refine R.getS (h1.l.2.2.2.2.1) dX12_init_141 fl_X12_32 (by decide) rfl ?_
  refine R.ldcS (i := 1) rfl dX12_init_144 ?_
  refine cl_X12_77 rfl rfl (by first | exact Nat.le_of_ble_eq_true rfl | simp [rf_cat, Value.category]) dX12_init_146 ?_
  refine s_tAppS h1.t (by decide) (by decide) (fun M2 t2 F2 => ?_)
  have h2 := h1.tx t2 F2
  refine R.aload_n dX12_init_149 rfl (by first | rfl | exact rfv_rf _) ?_
  refine R.getS (h2.l.2.2.2.2.1) dX12_init_150 fl_X12_32 (by decide) rfl ?_
  refine R.ldcS (i := 2) rfl dX12_init_153 ?_
  refine cl_X12_77 rfl rfl (by first | exact Nat.le_of_ble_eq_true rfl | simp [rf_cat, Value.category]) dX12_init_155 ?_
  refine s_tAppS h2.t (by decide) (by decide) (fun M3 t3 F3 => ?_)
  have h3 := h2.tx t3 F3
  refine R.aload_n dX12_init_158 rfl (by first | rfl | exact rfv_rf _) ?_
  refine cl_X12_85 rfl rfl (by first | exact Nat.le_of_ble_eq_true rfl | simp [rf_cat, Value.category]) dX12_init_159 ?_
  refine s_load (S := S00) (d := d + 2) h3 ?_
  rw [e0]
  intro M4 h4 F4
  refine R.pop dX12_init_162 (by first | rfl | exact rf_cat _) ?_
  refine WP.ret (ov := none) dX12_init_163 ⟨rfl, rfl⟩ ?_
  exact hq M4 h4 (FrK.fro ((F1.tr F2).tr F3) nKT F4)
set_option maxHeartbeats 1000000 in
theorem c_init {d : Nat} {M : Mem} {Q : Out → Mem → Prop} {Y0 : Yd} (hc : CY M 0 0) (h2 : mC M 2 = 0) (h4 : mC M 4 = 0) (h5 : mC M 5 = 0) (h6 : mC M 6 = 0) (h7 : mC M 7 = 0) (h12 : mC M 12 = 0) (h13 : mC M 13 = 0) (h19 : mC M 19 = 0) (h20 : mC M 20 = 0) (hI : mI M 10 0 10 = 0) (e0 : rLi S00 0 = .inr (1, (Y0, none, [], tx0, 0, 0, -1, []), 0)) (hq : ∀ M', CSt M' (Y0, none, [], tx0, 0, 0, -1, []) 0 → (∀ k, inK k → mC M' k = mC M k) → mK M' ≤ mK M + 1000 → mS M' ≤ mS M + 6000 → Q (.inl none) M') : WPc (d + 13) mX12_init [.ref (rf 10 0)] M Q := by
  refine WPc.of (by decide +kernel) (Nat.le_of_ble_eq_true rfl) rfl ?_
  refine R.aload_n dX12_init_0 rfl (by first | rfl | exact rfv_rf _) ?_
  refine R.objInit (by decide) oi_X12_1 oi_in oi_co (by omega) (by first | exact Nat.le_of_ble_eq_true rfl | simp [rf_cat, Value.category]) dX12_init_1 ?_
  refine c_y0 hc (fun M1 s1 y1 c1 k1 b1 z1 => ?_)
  refine c_y1 c1 (fun M2 s2 y2 c2 k2 b2 z2 => ?_)
  refine c_y2 c2 (fun M3 s3 y3 c3 k3 b3 z3 => ?_)
  refine c_h c3 (by rw [k3 2 (by omega), k2 2 (by omega), k1 2 (by omega)]; exact h2) (by rw [k3 20 (by omega), k2 20 (by omega), k1 20 (by omega)]; exact h20) (fun M4 s4 l4 i4 j4 y4 c4 k4 n4 n20 b4 z4 => ?_)
  have u4 : ∀ k, (k ≠ 9 ∧ k ≠ 18 ∧ k ≠ 17 ∧ k ≠ 3 ∧ k ≠ 8 ∧ k ≠ 1 ∧ k ≠ 0 ∧ k ≠ 20 ∧ k ≠ 2) → mC M4 k = mC M k := fun k hk => by rw [k4 k (by omega), k3 k (by omega), k2 k (by omega), k1 k (by omega)]
  refine c_t (by rw [u4 7 (by omega)]; exact h7) (by rw [u4 13 (by omega)]; exact h13) (fun M5 s5 t5 k5 b5 z5 => ?_)
  have u5 : ∀ k, (k ≠ 9 ∧ k ≠ 18 ∧ k ≠ 17 ∧ k ≠ 3 ∧ k ≠ 8 ∧ k ≠ 1 ∧ k ≠ 0 ∧ k ≠ 20 ∧ k ≠ 2 ∧ k ≠ 7 ∧ k ≠ 13) → mC M5 k = mC M k := fun k hk => by rw [k5 k, if_neg (by omega), u4 k (by omega)]
  refine c_u (by rw [u5 5 (by omega)]; exact h5) (by rw [s5.2.1, if_pos rfl]) (by rw [s5.2.1, if_neg (by omega), s4.2.1, if_neg (by omega), s3.2.1, if_pos rfl]) (fun M6 s6 l6 k6 b6 z6 => ?_)
  have u6 : ∀ k, (k ≠ 9 ∧ k ≠ 18 ∧ k ≠ 17 ∧ k ≠ 3 ∧ k ≠ 8 ∧ k ≠ 1 ∧ k ≠ 0 ∧ k ≠ 20 ∧ k ≠ 2 ∧ k ≠ 7 ∧ k ≠ 13 ∧ k ≠ 5) → mC M6 k = mC M k := fun k hk => by rw [k6 k, if_neg (by omega), u5 k (by omega)]
  refine c_s (by rw [u6 4 (by omega)]; exact h4) (by rw [u6 19 (by omega)]; exact h19) (by rw [u6 6 (by omega)]; exact h6) (by rw [s6.2.1, if_neg (by omega), s5.2.1, if_pos rfl]) (by rw [s6.2.1, if_neg (by omega), s5.2.1, if_neg (by omega), s4.2.1, if_neg (by omega), s3.2.1, if_neg (by omega), s2.2.1, if_neg (by omega), s1.2.1, if_pos rfl]) (fun M7 s7 l7 n7 n19 k7 b7 z7 => ?_)
  refine c_o (by rw [k7 12 (by omega), u6 12 (by omega)]; exact h12) (by rw [k7 13 (by omega), k6 13, if_neg (by omega), k5 13, if_pos (Or.inr rfl)]) (fun M8 s8 o8 k8 b8 z8 => ?_)
  refine c_c (by rw [k8 1, if_neg (by omega), if_neg (by omega), k7 1 (by omega), k6 1, if_neg (by omega), k5 1, if_neg (by omega)]; exact c4.2.2.2.2.2.1) (fun M9 s9 k9 b9 z9 => ?_)
  refine c_z (by rw [k9 3, if_neg (by omega), k8 3, if_neg (by omega), if_neg (by omega), k7 3 (by omega), k6 3, if_neg (by omega), k5 3, if_neg (by omega)]; exact c4.2.2.2.1) (fun Ma sa ka ba za => ?_)
  have F9 := sa.1
  have F8 := s9.1.tr F9
  have F7 := s8.1.tr F8
  have F6 := s7.1.tr F7
  have F5 := s6.1.tr F6
  have F4 := s5.1.tr F5
  have F3 := s4.1.tr F4
  have F2 := s3.1.tr F3
  have F1 := s2.1.tr F2
  have n5 : mC M5 7 = 1 ∧ mC M5 13 = 1 := ⟨by rw [k5, if_pos (Or.inl rfl)], by rw [k5, if_pos (Or.inr rfl)]⟩
  have h0 : CSt Ma (blY, none, [], (fun _ => 0), 0, 0, -1, []) 0 := by
    refine ⟨?_, y1.fn c1 (by omega) F1, ⟨blY, y2.fn c2 (by omega) F2, ?_⟩, ⟨blY, y3.fn c3 (by omega) F3⟩, ⟨l4.fn F4 n4 n20, ?_, ?_, Nat.zero_le _, Nat.le_refl _, fun j hj => ?_, fun i Z hi => by cases hi⟩, l6.fn F6 (by rw [k6, if_pos rfl]), l7.fn F7 n7 n19, t5.fn F5 n5.1 n5.2, 16, o8.fn F8 (by rw [k8, if_pos rfl])⟩
    · unfold CLay
      simp [sa.2.1, s9.2.1, s8.2.1, s7.2.1, s6.2.1, s5.2.1, s4.2.1, s3.2.1, s2.2.1, s1.2.1]
    · show mI Ma 10 0 10 = 0
      rw [sa.2.2, s9.2.2, s8.2.2, s7.2.2, s6.2.2, s5.2.2, s4.2.2, s3.2.2, s2.2.2, s1.2.2]
      exact hI
    · rw [(F4.at (k := 2) (i := 0) (by omega) (by omega)).1]; exact i4
    · rw [(F4.at (k := 2) (i := 0) (by omega) (by omega)).1]; exact j4
    · obtain ⟨Y, hY⟩ := y4 j hj
      exact ⟨Y, hY.fn c4 (by omega) F4⟩
  refine c_i9 h0 e0 (fun Mb hb Fb => hq Mb hb (fun k hk => ?_) ?_ ?_)
  · rw [Fb.2.1 k hk]
    unfold inK at hk
    rw [ka k, if_neg (by omega), k9 k, if_neg (by omega), k8 k, if_neg (by omega), if_neg (by omega), k7 k (by omega), u6 k (by omega)]
  · have := Fb.2.2.1; omega
  · have := Fb.2.2.2; omega
