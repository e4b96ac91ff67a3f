/-! the constructors -/
def FC (T : Nat → Nat → Prop) (M M' : Mem) : Prop := ∀ k i, ¬ T k i → mI M' k i = mI M k i ∧ mL M' k i = mL M k i ∧ mR M' k i = mR M k i ∧ mD M' k i = mD M k i ∧ mN M' k i = mN M k i
theorem FC.rf (T : Nat → Nat → Prop) (M : Mem) : FC T M M := fun _ _ _ => ⟨rfl, rfl, rfl, rfl, rfl⟩
theorem FC.tr {T : Nat → Nat → Prop} {M M' M'' : Mem} (h : FC T M M') (g : FC T M' M'') : FC T M M'' := fun k i hn => by
  have a := h k i hn
  have b := g k i hn
  exact ⟨b.1.trans a.1, b.2.1.trans a.2.1, b.2.2.1.trans a.2.2.1, b.2.2.2.1.trans a.2.2.2.1, b.2.2.2.2.trans a.2.2.2.2⟩
theorem FC.mo {T T' : Nat → Nat → Prop} {M M' : Mem} (h : FC T M M') (hs : ∀ k i, T k i → T' k i) : FC T' M M' := fun k i hn => h k i fun z => hn (hs k i z)
theorem FC.fr {T : Nat → Nat → Prop} {M M' : Mem} (h : Fr T M M') : FC T M M' := fun k i hn => by
  have e := h.2.2.2.2 k i hn
  exact ⟨e.1, e.2.1, e.2.2.1, e.2.2.2, by rw [h.2.1]⟩
theorem FC.sI {T : Nat → Nat → Prop} {M M' : Mem} {k i f : Nat} {v : Int32} (h : FC T M M') (hs : T k i) : FC T M (sI M' k i f v) :=
  h.tr fun k' i' hn => ⟨up3_ne fun z => hn (by rw [z.1, z.2]; exact hs), rfl, rfl, rfl, rfl⟩
theorem FC.sR {T : Nat → Nat → Prop} {M M' : Mem} {k i f : Nat} {v : Option Nat} (h : FC T M M') (hs : T k i) : FC T M (sR M' k i f v) :=
  h.tr fun k' i' hn => ⟨rfl, rfl, up3_ne fun z => hn (by rw [z.1, z.2]; exact hs), rfl, rfl⟩
theorem up2_ne {α : Type} {F : Nat → Nat → Nat → α} {k i : Nat} {v : α} {k' i' : Nat} (h : ¬ (k' = k ∧ i' = i)) : up2 F k i v k' i' = F k' i' := by
  funext f'
  unfold up2
  exact if_neg h
theorem FC.al {T : Nat → Nat → Prop} {M M' : Mem} {k n sl : Nat} (h : FC T M M') (hs : T k (mC M' k)) : FC T M (al M' k n sl) :=
  h.tr fun k' i' hn => by
    have hne : ¬ (k' = k ∧ i' = mC M' k) := fun z => hn (by rw [z.1, z.2]; exact hs)
    exact ⟨up2_ne hne, up2_ne hne, up2_ne hne, up2_ne hne, if_neg hne⟩
theorem mC_al (M : Mem) (k n sl k' : Nat) : mC (al M k n sl) k' = if k' = k then mC M k + 1 else mC M k' := rfl
theorem mN_al (M : Mem) (k n sl k' i' : Nat) : mN (al M k n sl) k' i' = if k' = k ∧ i' = mC M k then n else mN M k' i' := rfl
theorem mI_al (M : Mem) (k n sl k' i' f : Nat) : mI (al M k n sl) k' i' f = if k' = k ∧ i' = mC M k then 0 else mI M k' i' f := rfl
theorem mL_al (M : Mem) (k n sl k' i' f : Nat) : mL (al M k n sl) k' i' f = if k' = k ∧ i' = mC M k then 0 else mL M k' i' f := rfl
theorem mR_al (M : Mem) (k n sl k' i' f : Nat) : mR (al M k n sl) k' i' f = if k' = k ∧ i' = mC M k then none else mR M k' i' f := rfl
theorem mK_al (M : Mem) (k n sl : Nat) : mK (al M k n sl) = mK M + 1 := rfl
theorem mS_al (M : Mem) (k n sl : Nat) : mS (al M k n sl) = mS M + sl := rfl
theorem Lay.fc {T : Nat → Nat → Prop} {M M' : Mem} {y : Nat} (h : Lay M y) (F : FC T M M') (hn : ∀ k i, inY y k i → ¬ T k i) : Lay M' y := by
  have e9 := F 9 y (hn _ _ (by unfold inY; omega))
  have e18 := F 18 y (hn _ _ (by unfold inY; omega))
  have e17 := F 17 y (hn _ _ (by unfold inY; omega))
  obtain ⟨a1, a2, a3, a4, a5, a6, a7, a8⟩ := h
  exact ⟨by rw [e9.2.2.1]; exact a1, by rw [e9.2.2.1]; exact a2, by rw [e9.2.2.1]; exact a3, by rw [e9.2.2.1]; exact a4, by rw [e18.2.2.2.2]; exact a5, by rw [e17.2.2.2.2]; exact a6, fun i hi => by rw [e18.2.2.1]; exact a7 i hi, fun i hi => by rw [e17.2.2.1]; exact a8 i hi⟩
theorem Yv.fc {T : Nat → Nat → Prop} {M M' : Mem} {y : Nat} {Y : Yd} (h : Yv M y Y) (F : FC T M M') (hn : ∀ k i, inY y k i → ¬ T k i) : Yv M' y Y := by
  obtain ⟨h1, h2, h3, h4, h5, h6, h7, h8, h9, h10, h11, h12⟩ := h
  refine ⟨h1.fc F hn, fun i hi f => ?_, fun i hi f => ?_, fun i hi => ?_, h5, fun j hj f => ?_, fun f => ?_, fun f => ?_, fun f => ?_, h10, h11, h12⟩
  · rw [(F 1 _ (hn _ _ (by unfold inY; omega))).1]; exact h2 i hi f
  · rw [(F 1 _ (hn _ _ (by unfold inY; omega))).2.1]; exact h3 i hi f
  · rw [(F 1 _ (hn _ _ (by unfold inY; omega))).2.2.1]; exact h4 i hi
  · rw [(F 0 _ (hn _ _ (by unfold inY; omega))).1]; exact h6 j hj f
  · rw [(F 3 _ (hn _ _ (by unfold inY; omega))).1]; exact h7 f
  · rw [(F 8 _ (hn _ _ (by unfold inY; omega))).1]; exact h8 f
  · rw [(F 9 _ (hn _ _ (by unfold inY; omega))).1]; exact h9 f
/-- how many yards there are -/
def CY (M : Mem) (n y : Nat) : Prop := mC M 9 = n ∧ mC M 18 = y ∧ mC M 17 = y ∧ mC M 3 = y ∧ mC M 8 = y ∧ mC M 1 = 16 * y ∧ mC M 0 = 6 * y
/-- a yard half made: a crates, c buyers -/
def YP (M : Mem) (y a c : Nat) : Prop := (mR M 9 y 0 = some (rf 18 y) ∧ mR M 9 y 1 = some (rf 17 y) ∧ mR M 9 y 2 = some (rf 3 y) ∧ mR M 9 y 3 = some (rf 8 y) ∧ mN M 18 y = 16 ∧ mN M 17 y = 6) ∧ (∀ i, i < a → mR M 18 y i = some (rf 1 (16 * y + i)) ∧ (∀ f, mI M 1 (16 * y + i) f = if f = 0 then nI i else 0) ∧ (∀ f, mL M 1 (16 * y + i) f = 0) ∧ mR M 1 (16 * y + i) 5 = none) ∧ (∀ j, j < c → mR M 17 y j = some (rf 0 (6 * y + j)) ∧ ∀ f, mI M 0 (6 * y + j) f = if f = 0 then nI j else 0) ∧ (∀ f, mI M 3 y f = 0) ∧ (∀ f, mI M 8 y f = 0) ∧ (∀ f, mI M 9 y f = 0)
/-- what is counted: the class's own kinds alone -/
def CK (M M' : Mem) : Prop := ∀ k, (k = 2 ∨ k = 4 ∨ k = 5 ∨ k = 6 ∨ k = 7 ∨ k = 10 ∨ k = 11 ∨ k = 12 ∨ k = 13 ∨ k = 14 ∨ k = 15 ∨ k = 16 ∨ k = 19 ∨ k = 20) → mC M' k = mC M k
def zeY : Yd := (fun i f => if f = 0 then nI i else 0, fun _ _ => 0, fun _ => none, fun j f => if f = 0 then nI j else 0, fun _ => 0, fun _ => 0, fun _ => 0)
theorem nf_ze : Nf zeY := ⟨fun i _ f hf => if_neg (fun z => tf_n (by rw [z]; rfl) hf), fun _ _ _ _ => rfl, fun j _ f hf => if_neg (fun z => tf_n (by rw [z]; rfl) hf), fun _ _ => rfl, fun _ _ => rfl, fun _ _ => rfl⟩
theorem YP.yv {M : Mem} {y : Nat} (h : YP M y 16 6) : Yv M y zeY := by
  obtain ⟨⟨a1, a2, a3, a4, a5, a6⟩, b1, b2, b3, b4, b5⟩ := h
  exact ⟨⟨a1, a2, a3, a4, a5, a6, fun i hi => (b1 i hi).1, fun j hj => (b2 j hj).1⟩, fun i hi f => (b1 i hi).2.1 f, fun i hi f => (b1 i hi).2.2.1 f, fun i hi => (b1 i hi).2.2.2, fun i hi j hj => (nomatch hj), fun j hj f => (b2 j hj).2 f, b3, b4, b5, fun i _ => rfl, fun j _ => rfl, nf_ze⟩
theorem YP.crate {M : Mem} {y a c : Nat} (h : YP M y a c) (hc : mC M 1 = 16 * y + a) : YP (sR (sI (al M 1 0 13) 1 (16 * y + a) 0 (nI a)) 18 y a (some (rf 1 (16 * y + a)))) y (a + 1) c := by
  obtain ⟨a1, b1, b2, b3, b4, b5⟩ := h
  refine ⟨?_, fun i hi => ?_, fun j hj => ?_, fun f => ?_, fun f => ?_, fun f => ?_⟩
  · obtain ⟨a1, a2, a3, a4, a5, a6⟩ := a1
    refine ⟨?_, ?_, ?_, ?_, ?_, ?_⟩
    · rw [mR_sR, if_neg (by omega), mR_sI, mR_al, if_neg (by omega)]; exact a1
    · rw [mR_sR, if_neg (by omega), mR_sI, mR_al, if_neg (by omega)]; exact a2
    · rw [mR_sR, if_neg (by omega), mR_sI, mR_al, if_neg (by omega)]; exact a3
    · rw [mR_sR, if_neg (by omega), mR_sI, mR_al, if_neg (by omega)]; exact a4
    · rw [mN_sR, mN_sI, mN_al, if_neg (by omega)]; exact a5
    · rw [mN_sR, mN_sI, mN_al, if_neg (by omega)]; exact a6
  · by_cases z : i = a
    · subst z
      refine ⟨?_, fun f => ?_, fun f => ?_, ?_⟩
      · rw [mR_sR, if_pos ⟨rfl, rfl, rfl⟩]
      · rw [mI_sR, mI_sI, mI_al, if_pos ⟨rfl, hc.symm⟩]
        by_cases w : f = 0
        · rw [if_pos ⟨rfl, rfl, w⟩, if_pos w]
        · rw [if_neg (fun q => w q.2.2), if_neg w]
      · rw [mL_sR, mL_sI, mL_al, if_pos ⟨rfl, hc.symm⟩]
      · rw [mR_sR, if_neg (by omega), mR_sI, mR_al, if_pos ⟨rfl, hc.symm⟩]
    · obtain ⟨c1, c2, c3, c4⟩ := b1 i (by omega)
      refine ⟨?_, fun f => ?_, fun f => ?_, ?_⟩
      · rw [mR_sR, if_neg (by omega), mR_sI, mR_al, if_neg (by omega)]; exact c1
      · rw [mI_sR, mI_sI, if_neg (by omega), mI_al, if_neg (by omega)]; exact c2 f
      · rw [mL_sR, mL_sI, mL_al, if_neg (by omega)]; exact c3 f
      · rw [mR_sR, if_neg (by omega), mR_sI, mR_al, if_neg (by omega)]; exact c4
  · obtain ⟨c1, c2⟩ := b2 j hj
    refine ⟨?_, fun f => ?_⟩
    · rw [mR_sR, if_neg (by omega), mR_sI, mR_al, if_neg (by omega)]; exact c1
    · rw [mI_sR, mI_sI, if_neg (by omega), mI_al, if_neg (by omega)]; exact c2 f
  · rw [mI_sR, mI_sI, if_neg (by omega), mI_al, if_neg (by omega)]; exact b3 f
  · rw [mI_sR, mI_sI, if_neg (by omega), mI_al, if_neg (by omega)]; exact b4 f
  · rw [mI_sR, mI_sI, if_neg (by omega), mI_al, if_neg (by omega)]; exact b5 f
theorem YP.buyer {M : Mem} {y a c : Nat} (h : YP M y a c) (hc : mC M 0 = 6 * y + c) : YP (sR (sI (al M 0 0 6) 0 (6 * y + c) 0 (nI c)) 17 y c (some (rf 0 (6 * y + c)))) y a (c + 1) := by
  obtain ⟨a1, b1, b2, b3, b4, b5⟩ := h
  refine ⟨?_, fun i hi => ?_, fun j hj => ?_, fun f => ?_, fun f => ?_, fun f => ?_⟩
  · obtain ⟨a1, a2, a3, a4, a5, a6⟩ := a1
    refine ⟨?_, ?_, ?_, ?_, ?_, ?_⟩
    · rw [mR_sR, if_neg (by omega), mR_sI, mR_al, if_neg (by omega)]; exact a1
    · rw [mR_sR, if_neg (by omega), mR_sI, mR_al, if_neg (by omega)]; exact a2
    · rw [mR_sR, if_neg (by omega), mR_sI, mR_al, if_neg (by omega)]; exact a3
    · rw [mR_sR, if_neg (by omega), mR_sI, mR_al, if_neg (by omega)]; exact a4
    · rw [mN_sR, mN_sI, mN_al, if_neg (by omega)]; exact a5
    · rw [mN_sR, mN_sI, mN_al, if_neg (by omega)]; exact a6
  · obtain ⟨c1, c2, c3, c4⟩ := b1 i hi
    refine ⟨?_, fun f => ?_, fun f => ?_, ?_⟩
    · rw [mR_sR, if_neg (by omega), mR_sI, mR_al, if_neg (by omega)]; exact c1
    · rw [mI_sR, mI_sI, if_neg (by omega), mI_al, if_neg (by omega)]; exact c2 f
    · rw [mL_sR, mL_sI, mL_al, if_neg (by omega)]; exact c3 f
    · rw [mR_sR, if_neg (by omega), mR_sI, mR_al, if_neg (by omega)]; exact c4
  · by_cases z : j = c
    · subst z
      refine ⟨?_, fun f => ?_⟩
      · rw [mR_sR, if_pos ⟨rfl, rfl, rfl⟩]
      · rw [mI_sR, mI_sI, mI_al, if_pos ⟨rfl, hc.symm⟩]
        by_cases w : f = 0
        · rw [if_pos ⟨rfl, rfl, w⟩, if_pos w]
        · rw [if_neg (fun q => w q.2.2), if_neg w]
    · obtain ⟨c1, c2⟩ := b2 j (by omega)
      refine ⟨?_, fun f => ?_⟩
      · rw [mR_sR, if_neg (by omega), mR_sI, mR_al, if_neg (by omega)]; exact c1
      · rw [mI_sR, mI_sI, if_neg (by omega), mI_al, if_neg (by omega)]; exact c2 f
  · rw [mI_sR, mI_sI, if_neg (by omega), mI_al, if_neg (by omega)]; exact b3 f
  · rw [mI_sR, mI_sI, if_neg (by omega), mI_al, if_neg (by omega)]; exact b4 f
  · rw [mI_sR, mI_sI, if_neg (by omega), mI_al, if_neg (by omega)]; exact b5 f
set_option maxHeartbeats 1000000 in
set_option maxRecDepth 4000 in
theorem s_yInit {d : Nat} {y : Nat} {M : Mem} {Q : Out → Mem → Prop} (hc : CY M (y + 1) y) (hz : ∀ f, mI M 9 y f = 0) (hq : ∀ M', Yv M' y blY → CY M' (y + 1) (y + 1) → FC (inY y) M M' → CK M M' → mK M' = mK M + (4 + 16 + 6) → mS M' = mS M + (33 + 13 * 16 + 6 * 6) → Q (.inl none) M') : WPc (d + 3) mX11_init [.ref (rf 9 y)] M Q := by
  refine WPc.of (by decide +kernel) (Nat.le_of_ble_eq_true rfl) rfl ?_
  obtain ⟨c1, c2, c3, c4, c5, c6, c7⟩ := hc
  have key2 : ∀ (f c : Nat) (M1 : Mem), c + f = 6 → YP M1 y 16 c → (mC M1 9 = y + 1 ∧ mC M1 18 = y + 1 ∧ mC M1 17 = y + 1 ∧ mC M1 3 = y + 1 ∧ mC M1 8 = y + 1 ∧ mC M1 1 = 16 * y + 16 ∧ mC M1 0 = 6 * y + c) → FC (inY y) M M1 → CK M M1 → mK M1 = mK M + (4 + 16 + c) → mS M1 = mS M + (33 + 13 * 16 + 6 * c) → WP mX11_init (d + 3) 74 [.ref (rf 9 y), .int (nI c)] [] M1 Q := by
    intro f
    induction f with
    | zero =>
      intro c M1 hf h1 ⟨d1, d2, d3, d4, d5, d6, d7⟩ F1 K1 b1 b2
      have ec : c = 6 := by omega
      subst ec
      refine R.iload_n dX11_init_74 rfl ?_
      refine R.bipush (v := 6) dX11_init_75 (by decide) ?_
      refine R.geT (tgt := 100) (Int32.le_refl _) dX11_init_77 (by decide) ?_
      refine R.aload_n dX11_init_100 rfl (by first | rfl | exact rfv_rf _) ?_
      refine cl_X11_41 rfl rfl (by first | exact Nat.le_of_ble_eq_true rfl | simp [rf_cat, Value.category]) dX11_init_101 ?_
      refine s_yReset h1.yv (fun M5 h5 F5 => ?_)
      refine WP.ret (ov := none) dX11_init_104 ⟨rfl, rfl⟩ ?_
      obtain ⟨f1, f2, f3, f4, f5⟩ := F5
      refine hq M5 h5 ⟨by rw [f1]; exact d1, by rw [f1]; exact d2, by rw [f1]; exact d3, by rw [f1]; exact d4, by rw [f1]; exact d5, by rw [f1, d6]; omega, by rw [f1, d7]; omega⟩ (F1.tr (FC.fr ⟨f1, f2, f3, f4, f5⟩)) (fun k hk => by rw [f1]; exact K1 k hk) (by rw [f3, b1]) (by rw [f4, b2])
    | succ f ih =>
      intro c M1 hf h1 ⟨d1, d2, d3, d4, d5, d6, d7⟩ F1 K1 b1 b2
      refine R.iload_n dX11_init_74 rfl ?_
      refine R.bipush (v := 6) dX11_init_75 (by decide) ?_
      refine R.geF (tgt := 100) (nI_ge (show c < 6 by omega) (by decide)) dX11_init_77 (by decide) ?_
      refine R.aload_n dX11_init_80 rfl (by first | rfl | exact rfv_rf _) ?_
      refine R.getS (h1.1.2.1) dX11_init_81 fl_X11_19 (by decide) rfl ?_
      refine R.iload_n dX11_init_84 rfl ?_
      refine R.new (k := 0) rfl cw_X11_17 mk_0 iz_0 dX11_init_85 ?_
      rw [d7]
      refine R.dup dX11_init_88 (by first | rfl | exact rf_cat _) ?_
      refine R.iload_n dX11_init_89 rfl ?_
      refine cl_X11_40 rfl rfl (by first | exact Nat.le_of_ble_eq_true rfl | simp [rf_cat, Value.category]) dX11_init_90 ?_
      refine s_bInit (by omega) ?_
      refine R.aast (k := 17) (ko := 0) (by decide) (by decide) rfl rfl dX11_init_93 (nI_pos (by omega)) (by rw [nI_clamp (by omega)]; show c < mN (al M1 0 0 6) 17 y; rw [mN_al, if_neg (by omega), h1.1.2.2.2.2.2]; omega) ?_
      rw [nI_clamp (by omega)]
      refine R.iinc dX11_init_94 (Nat.le_of_ble_eq_true rfl) (by decide) (by first | rfl | simp [lft, rf_cat]) rfl (inc_nI _) rfl ?_
      refine R.goto (tgt := 74) dX11_init_97 (by decide) ?_
      refine ih (c + 1) _ (by omega) (h1.buyer d7) ⟨d1, d2, d3, d4, d5, d6, ?_⟩ (((F1.al (by rw [d7]; exact inY_B (by omega))).sI (inY_B (by omega))).sR (by unfold inY; omega)) (fun k hk => ?_) ?_ ?_
      · show (if 0 = 0 then mC M1 0 + 1 else mC M1 0) = _
        rw [if_pos rfl, d7]; omega
      · show (if k = 0 then mC M1 0 + 1 else mC M1 k) = _
        rw [if_neg (by omega)]; exact K1 k hk
      · show mK M1 + 1 = _
        rw [b1]; omega
      · show mS M1 + 6 = _
        rw [b2]; omega
  have key1 : ∀ (f a : Nat) (M1 : Mem), a + f = 16 → YP M1 y a 0 → (mC M1 9 = y + 1 ∧ mC M1 18 = y + 1 ∧ mC M1 17 = y + 1 ∧ mC M1 3 = y + 1 ∧ mC M1 8 = y + 1 ∧ mC M1 1 = 16 * y + a ∧ mC M1 0 = 6 * y + 0) → FC (inY y) M M1 → CK M M1 → mK M1 = mK M + (4 + a + 0) → mS M1 = mS M + (33 + 13 * a + 6 * 0) → (∀ M1, YP M1 y 16 0 → (mC M1 9 = y + 1 ∧ mC M1 18 = y + 1 ∧ mC M1 17 = y + 1 ∧ mC M1 3 = y + 1 ∧ mC M1 8 = y + 1 ∧ mC M1 1 = 16 * y + 16 ∧ mC M1 0 = 6 * y + 0) → FC (inY y) M M1 → CK M M1 → mK M1 = mK M + (4 + 16 + 0) → mS M1 = mS M + (33 + 13 * 16 + 6 * 0) → WP mX11_init (d + 3) 72 [.ref (rf 9 y), .int (nI 16)] [] M1 Q) → WP mX11_init (d + 3) 46 [.ref (rf 9 y), .int (nI a)] [] M1 Q := by
    intro f
    induction f with
    | zero =>
      intro a M1 hf h1 ⟨d1, d2, d3, d4, d5, d6, d7⟩ F1 K1 b1 b2 kq
      have ea : a = 16 := by omega
      subst ea
      refine R.iload_n dX11_init_46 rfl ?_
      refine R.bipush (v := 16) dX11_init_47 (by decide) ?_
      refine R.geT (tgt := 72) (Int32.le_refl _) dX11_init_49 (by decide) ?_
      exact kq M1 h1 ⟨d1, d2, d3, d4, d5, d6, d7⟩ F1 K1 b1 b2
    | succ f ih =>
      intro a M1 hf h1 ⟨d1, d2, d3, d4, d5, d6, d7⟩ F1 K1 b1 b2 kq
      refine R.iload_n dX11_init_46 rfl ?_
      refine R.bipush (v := 16) dX11_init_47 (by decide) ?_
      refine R.geF (tgt := 72) (nI_ge (show a < 16 by omega) (by decide)) dX11_init_49 (by decide) ?_
      refine R.aload_n dX11_init_52 rfl (by first | rfl | exact rfv_rf _) ?_
      refine R.getS (h1.1.1) dX11_init_53 fl_X11_11 (by decide) rfl ?_
      refine R.iload_n dX11_init_56 rfl ?_
      refine R.new (k := 1) rfl cw_X11_9 mk_1 iz_1 dX11_init_57 ?_
      rw [d6]
      refine R.dup dX11_init_60 (by first | rfl | exact rf_cat _) ?_
      refine R.iload_n dX11_init_61 rfl ?_
      refine cl_X11_37 rfl rfl (by first | exact Nat.le_of_ble_eq_true rfl | simp [rf_cat, Value.category]) dX11_init_62 ?_
      refine s_cInit (by omega) ?_
      refine R.aast (k := 18) (ko := 1) (by decide) (by decide) rfl rfl dX11_init_65 (nI_pos (by omega)) (by rw [nI_clamp (by omega)]; show a < mN (al M1 1 0 13) 18 y; rw [mN_al, if_neg (by omega), h1.1.2.2.2.2.1]; omega) ?_
      rw [nI_clamp (by omega)]
      refine R.iinc dX11_init_66 (Nat.le_of_ble_eq_true rfl) (by decide) (by first | rfl | simp [lft, rf_cat]) rfl (inc_nI _) rfl ?_
      refine R.goto (tgt := 46) dX11_init_69 (by decide) ?_
      refine ih (a + 1) _ (by omega) (h1.crate d6) ⟨d1, d2, d3, d4, d5, ?_, d7⟩ (((F1.al (by rw [d6]; exact inY_C (by omega))).sI (inY_C (by omega))).sR (by unfold inY; omega)) (fun k hk => ?_) ?_ ?_ kq
      · show (if 1 = 1 then mC M1 1 + 1 else mC M1 1) = _
        rw [if_pos rfl, d6]; omega
      · show (if k = 1 then mC M1 1 + 1 else mC M1 k) = _
        rw [if_neg (by omega)]; exact K1 k hk
      · show mK M1 + 1 = _
        rw [b1]; omega
      · show mS M1 + 13 = _
        rw [b2]; omega
  refine R.aload_n dX11_init_0 rfl (by first | rfl | exact rfv_rf _) ?_
  refine R.objInit (by decide) oi_X11_3 oi_in oi_co (by omega) (by first | exact Nat.le_of_ble_eq_true rfl | simp [rf_cat, Value.category]) dX11_init_1 ?_
  refine R.aload_n dX11_init_4 rfl (by first | rfl | exact rfv_rf _) ?_
  refine R.bipush (v := 16) dX11_init_5 (by decide) ?_
  refine R.anewarr (k := 18) (N := 16) (by decide) (by decide) rfl cw_X11_9 (by decide) (by decide) (by decide) (by decide) dX11_init_7 ?_
  rw [c2]
  refine R.putA dX11_init_10 fl_X11_11 (fun q hq => by cases hq; exact Or.inr ⟨rfl, rfl⟩) rfl ?_
  refine R.aload_n dX11_init_13 rfl (by first | rfl | exact rfv_rf _) ?_
  refine R.bipush (v := 6) dX11_init_14 (by decide) ?_
  refine R.anewarr (k := 17) (N := 6) (by decide) (by decide) rfl cw_X11_17 (by decide) (by decide) (by decide) (by decide) dX11_init_16 ?_
  rw [show mC (sR (al M 18 16 16) 9 y 0 (some (rf 18 y))) 17 = y from c3]
  refine R.putA dX11_init_19 fl_X11_19 (fun q hq => by cases hq; exact Or.inr ⟨rfl, rfl⟩) rfl ?_
  refine R.aload_n dX11_init_22 rfl (by first | rfl | exact rfv_rf _) ?_
  refine R.new (k := 3) rfl cw_X11_23 mk_3 iz_3 dX11_init_23 ?_
  rw [show mC (sR (al (sR (al M 18 16 16) 9 y 0 (some (rf 18 y))) 17 6 6) 9 y 1 (some (rf 17 y))) 3 = y from c4]
  refine R.dup dX11_init_26 (by first | rfl | exact rf_cat _) ?_
  refine cl_X11_25 rfl rfl (by first | exact Nat.le_of_ble_eq_true rfl | simp [rf_cat, Value.category]) dX11_init_27 ?_
  refine s_sInit (by omega) ?_
  refine R.putA dX11_init_30 fl_X11_26 (fun q hq => by cases hq; exact Or.inr ⟨rfl, rfl⟩) rfl ?_
  refine R.aload_n dX11_init_33 rfl (by first | rfl | exact rfv_rf _) ?_
  refine R.new (k := 8) rfl cw_X11_30 mk_8 iz_8 dX11_init_34 ?_
  rw [show mC (sR (al (sR (al (sR (al M 18 16 16) 9 y 0 (some (rf 18 y))) 17 6 6) 9 y 1 (some (rf 17 y))) 3 0 4) 9 y 2 (some (rf 3 y))) 8 = y from c5]
  refine R.dup dX11_init_37 (by first | rfl | exact rf_cat _) ?_
  refine cl_X11_32 rfl rfl (by first | exact Nat.le_of_ble_eq_true rfl | simp [rf_cat, Value.category]) dX11_init_38 ?_
  refine s_tInit (by omega) ?_
  refine R.putA dX11_init_41 fl_X11_33 (fun q hq => by cases hq; exact Or.inr ⟨rfl, rfl⟩) rfl ?_
  refine R.iconst (v := 0) dX11_init_44 rfl ?_
  refine R.istore_n dX11_init_45 (Nat.le_of_ble_eq_true rfl) (by decide) (by first | rfl | simp [lft, rf_cat]) rfl ?_
  refine key1 16 0 (sR (al (sR (al (sR (al (sR (al M 18 16 16) 9 y 0 (some (rf 18 y))) 17 6 6) 9 y 1 (some (rf 17 y))) 3 0 4) 9 y 2 (some (rf 3 y))) 8 0 7) 9 y 3 (some (rf 8 y))) rfl ?_ ?_ ?_ ?_ ?_ ?_ (fun M1 h1 hd F1 K1 b1 b2 => ?_)
  · refine ⟨⟨?_, ?_, ?_, ?_, ?_, ?_⟩, fun i hi => absurd hi (Nat.not_lt_zero i), fun j hj => absurd hj (Nat.not_lt_zero j), fun f => ?_, fun f => ?_, fun f => ?_⟩
    · simp [mR_sR, mR_al]
    · simp [mR_sR, mR_al]
    · simp [mR_sR, mR_al]
    · simp [mR_sR, mR_al]
    · simp [mN_sR, mN_al, mC_sR, mC_al, c2]
    · simp [mN_sR, mN_al, mC_sR, mC_al, c3]
    · simp [mI_sR, mI_al, mC_sR, mC_al, c4]
    · simp [mI_sR, mI_al, mC_sR, mC_al, c5]
    · simp [mI_sR, mI_al, mC_sR, mC_al, hz]
  · refine ⟨?_, ?_, ?_, ?_, ?_, ?_, ?_⟩ <;> simp [mC_sR, mC_al, c1, c2, c3, c4, c5, c6, c7]
  · exact (((((((FC.rf _ M).al (by rw [c2]; unfold inY; omega)).sR (by unfold inY; omega)).al (by rw [show mC _ 17 = y from c3]; unfold inY; omega)).sR (by unfold inY; omega)).al (by rw [show mC _ 3 = y from c4]; unfold inY; omega)).sR (by unfold inY; omega)).al (by rw [show mC _ 8 = y from c5]; unfold inY; omega) |>.sR (by unfold inY; omega)
  · intro k hk
    simp only [mC_sR, mC_al]
    rw [if_neg (by omega), if_neg (by omega), if_neg (by omega), if_neg (by omega)]
  · simp only [mK_sR, mK_al]
  · simp only [mS_sR, mS_al]
  refine R.iconst (v := 0) dX11_init_72 rfl ?_
  refine R.istore_n dX11_init_73 (Nat.le_of_ble_eq_true rfl) (by decide) (by first | rfl | simp [lft, rf_cat]) rfl ?_
  exact key2 6 0 M1 rfl h1 hd F1 K1 b1 b2
