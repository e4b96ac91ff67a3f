/-! the law's yard while a crate is being made -/
def inL (k : Nat) : Prop := k = 11 ∨ k = 16 ∨ k = 32 ∨ k = 33 ∨ k = 35
/-- the cells in use are as they were -/
def Gu (g9 : Nat) (M M' : Mem) : Prop := (∀ k i, inL k → (k = 11 → i < g9) → (k = 33 → i < 1 + 2 * g9) → Sm M M' k i) ∧ ∀ k, inL k → mC M k ≤ mC M' k
section GRS
variable {M M' : Mem} {W : LW} {g9 a : Nat}
theorem Ls.gr {i : Nat} {xs : List Nat} {E : Option Nat} (h : Ls M i xs E) (F : Gu g9 M M') (hi : i < 1 + 2 * g9) : Ls M' i xs E := by
  obtain ⟨h0, h1, h2⟩ := h
  have k33 : inL 33 := by unfold inL; omega
  have k16 : inL 16 := by unfold inL; omega
  have e33 := F.1 33 i k33 (by omega) (fun _ => hi)
  refine ⟨Nat.lt_of_lt_of_le h0 (F.2 33 k33), by rw [e33.1]; exact h1, ?_⟩
  cases E with
  | none => exact ⟨h2.1, by rw [e33.2.2.1]; exact h2.2⟩
  | some e =>
    obtain ⟨a, b, c, c2, d, f⟩ := h2
    have e16 := F.1 16 e k16 (by omega) (by omega)
    refine ⟨by rw [e33.2.2.1]; exact a, Nat.lt_of_lt_of_le b (F.2 16 k16), by rw [e16.2.2.2.2]; exact c, by rw [e16.2.2.2.2]; exact c2, by rw [e16.2.2.2.2]; exact d, fun j x hx => ?_⟩
    rw [e16.2.2.1]
    exact f j x hx
theorem IvA.gr {a : Nat} {v : Int32} (h : IvA M a v) (F : Gu g9 M M') : IvA M' a v := by
  have k35 : inL 35 := by unfold inL; omega
  rcases h with h | ⟨j, h1, h2, h3⟩
  · exact Or.inl h
  · exact Or.inr ⟨j, Nat.lt_of_lt_of_le h1 (F.2 35 k35), h2, by rw [(F.1 35 j k35 (by omega) (by omega)).1]; exact h3⟩
theorem LC.gr {k : Nat} (c : LC M W k) (F : Gu g9 M M') (hk : k < g9) : LC M' W k := by
  have e11 := F.1 11 k (by unfold inL; omega) (fun _ => hk) (by omega)
  exact ⟨fun f => by rw [e11.1]; exact c.i, by rw [e11.2.2.1]; exact c.p, by rw [e11.2.2.1]; exact c.r7, by rw [e11.2.2.1]; exact c.r8, c.ch.gr F (by omega), c.rd.gr F (by omega), fun q hq => (c.iv q hq).gr F, c.cn, c.pn⟩
theorem LM.gr (h : LM M W) (F : Gu (wN W) M M') : LM M' W := by
  obtain ⟨h1, h2, h3, h4, h5, h6⟩ := h
  have e32 := F.1 32 0 (by unfold inL; omega) (by omega) (by omega)
  exact ⟨h1, by rw [e32.2.2.1]; exact h2, fun f hf => by rw [e32.1]; exact h3 f hf, h4.gr F (by omega), fun k hk => (h5 k hk).gr F hk, h6⟩
/-- the yard's list holds a of the crates -/
def LB (a : Nat) (M : Mem) (W : LW) : Prop := wN W ≤ 9 ∧ mR M 32 0 0 = some (rf 33 0) ∧ (∀ f, 1 ≤ f → mI M 32 0 f = wYs W f) ∧ Ls M 0 ((List.range a).map (rf 11)) (wE W 0) ∧ (∀ k, k < wN W → LC M W k) ∧ ∀ i j e, i < 1 + 2 * wN W → j < 1 + 2 * wN W → wE W i = some e → wE W j = some e → i = j
theorem LB.gr (h : LB a M W) (F : Gu (wN W) M M') : LB a M' W := by
  obtain ⟨h1, h2, h3, h4, h5, h6⟩ := h
  have e32 := F.1 32 0 (by unfold inL; omega) (by omega) (by omega)
  exact ⟨h1, by rw [e32.2.2.1]; exact h2, fun f hf => by rw [e32.1]; exact h3 f hf, h4.gr F (by omega), fun k hk => (h5 k hk).gr F hk, h6⟩
theorem LB.n (h : LB a M W) : wN W ≤ 9 := h.1
theorem LB.y (h : LB a M W) : mR M 32 0 0 = some (rf 33 0) := h.2.1
theorem LB.yi (h : LB a M W) {f : Nat} (hf : 1 ≤ f) : mI M 32 0 f = wYs W f := h.2.2.1 f hf
theorem LB.all (h : LB a M W) : Ls M 0 ((List.range a).map (rf 11)) (wE W 0) := h.2.2.2.1
theorem LB.c (h : LB a M W) {k : Nat} (hk : k < wN W) : LC M W k := h.2.2.2.2.1 k hk
theorem LB.inj (h : LB a M W) {i j e : Nat} (hi : i < 1 + 2 * wN W) (hj : j < 1 + 2 * wN W) (h1 : wE W i = some e) (h2 : wE W j = some e) : i = j := h.2.2.2.2.2 i j e hi hj h1 h2
theorem LB.ls (h : LB a M W) {i : Nat} (hi : i < 1 + 2 * wN W) : ∃ xs, Ls M i xs (wE W i) := by
  by_cases h0 : i = 0
  · subst h0; exact ⟨_, h.all⟩
  · by_cases h1 : i % 2 = 1
    · have e : i = 1 + 2 * ((i - 1) / 2) := by omega
      rw [e]
      exact ⟨_, (h.c (k := (i - 1) / 2) (by omega)).ch⟩
    · have e : i = 2 + 2 * ((i - 2) / 2) := by omega
      rw [e]
      exact ⟨_, (h.c (k := (i - 2) / 2) (by omega)).rd⟩
theorem LB.lt (h : LB a M W) {i e : Nat} (hi : i < 1 + 2 * wN W) (he : wE W i = some e) : e < mC M 16 := by
  obtain ⟨xs, -, -, hx⟩ := h.ls hi
  rw [he] at hx
  exact hx.2.1
theorem LB.sP {k : Nat} {o : Option Nat} (h : LB a M W) (ho : ∀ j, o = some j → j < wN W) : LB a (sR M 11 k 6 (o.map (rf 11))) (vP W k o) := by
  have F : Fx (fun k' i' => k' = 11 ∧ i' = k) 0 0 M (sR M 11 k 6 (o.map (rf 11))) := (Fx.rf _ 0 0 M).sR (Or.inl ⟨rfl, rfl⟩)
  obtain ⟨h1, h2, h3, h4, h5, h6⟩ := h
  refine ⟨h1, by rw [mR_sR, if_neg (by omega)]; exact h2, h3, h4.fx F (by omega) (fun _ _ => by omega), fun k' hk => ?_, h6⟩
  have c := h5 k' hk
  have e : wP (vP W k o) k' = if k' = k then o else wP W k' := rfl
  refine ⟨c.1, ?_, by rw [mR_sR, if_neg (by omega)]; exact c.r7, by rw [mR_sR, if_neg (by omega)]; exact c.r8, c.ch.fx F (by omega) (fun _ _ => by omega), c.rd.fx F (by omega) (fun _ _ => by omega), fun q hq => (c.iv q hq).fx F (fun _ => by omega), c.cn, ?_⟩
  · rw [mR_sR, e]
    by_cases z : k' = k
    · rw [if_pos ⟨rfl, z, rfl⟩, if_pos z]
    · rw [if_neg (fun q => z q.2.1), if_neg z]; exact c.p
  · rw [e]
    by_cases z : k' = k
    · rw [if_pos z]; exact ho
    · rw [if_neg z]; exact c.pn
theorem LB.oth {i n s : Nat} (h : LB a M W) (F : Fx (SL i (wE W i)) n s M M') (hi : i < 1 + 2 * wN W) {j : Nat} {xs : List Nat} (hj : j < 1 + 2 * wN W) (hne : j ≠ i) (hx : Ls M j xs (wE W j)) : Ls M' j xs (wE W j) := by
  refine hx.fx F ?_ (fun e he z => ?_)
  · intro z; unfold SL at z; omega
  · unfold SL at z
    rcases z with z | z
    · omega
    · exact hne (h.inj hj hi he z.2)
theorem LB.inj9 {i : Nat} {e9 : Option Nat} (h : LB a M W) (hE : e9 = wE W i ∨ e9 = some (mC M 16)) (hi : i < 1 + 2 * wN W) : ∀ a b e, a < 1 + 2 * wN W → b < 1 + 2 * wN W → up1 (wE W) i e9 a = some e → up1 (wE W) i e9 b = some e → a = b := by
  intro a b e ha hb h1 h2
  unfold up1 at h1 h2
  by_cases za : a = i <;> by_cases zb : b = i
  · rw [za, zb]
  · rw [if_pos za] at h1
    rw [if_neg zb] at h2
    rcases hE with z | z
    · rw [za]; exact h.inj hi hb (z.symm.trans h1) h2
    · rw [z] at h1; cases h1
      exact absurd (h.lt hb h2) (by omega)
  · rw [if_neg za] at h1
    rw [if_pos zb] at h2
    rcases hE with z | z
    · rw [zb]; exact h.inj ha hi h1 (z.symm.trans h2)
    · rw [z] at h2; cases h2
      exact absurd (h.lt ha h1) (by omega)
  · rw [if_neg za] at h1
    rw [if_neg zb] at h2
    exact h.inj ha hb h1 h2
theorem LB.sC {k n s : Nat} {l : List Nat} {e9 : Option Nat} (h : LB a M W) (hk : k < wN W) (F : Fx (SL (1 + 2 * k) (wE W (1 + 2 * k))) n s M M') (hL : Ls M' (1 + 2 * k) (l.map (rf 11)) e9) (hE : e9 = wE W (1 + 2 * k) ∨ e9 = some (mC M 16)) (hl : ∀ c, c ∈ l → c < wN W) : LB a M' (vCh W k l e9) := by
  have hi : 1 + 2 * k < 1 + 2 * wN W := by omega
  have e32 := F.1 32 0 (by unfold SL; omega) (fun q => by unfold inG at q; omega)
  have eE : ∀ j, j ≠ 1 + 2 * k → wE (vCh W k l e9) j = wE W j := fun j hj => if_neg hj
  refine ⟨h.n, by rw [e32.2.2.1]; exact h.y, fun f hf => by rw [e32.1]; exact h.yi hf, ?_, fun k' hk' => ?_, h.inj9 hE hi⟩
  · rw [eE 0 (by omega)]; exact h.oth F hi (by omega) (by omega) h.all
  · have hk2 : k' < wN W := hk'
    have c := h.c hk2
    have e11 := F.1 11 k' (by unfold SL; omega) (fun q => by unfold inG at q; omega)
    refine ⟨fun f => by rw [e11.1]; exact c.i, by rw [e11.2.2.1]; exact c.p, by rw [e11.2.2.1]; exact c.r7, by rw [e11.2.2.1]; exact c.r8, ?_, ?_, fun q hq => (c.iv q hq).fx F (fun _ => by unfold SL; omega), ?_, c.pn⟩
    · by_cases z : k' = k
      · subst z
        rw [show wC (vCh W k' l e9) k' = l from if_pos rfl, show wE (vCh W k' l e9) (1 + 2 * k') = e9 from if_pos rfl]
        exact hL
      · rw [show wC (vCh W k l e9) k' = wC W k' from if_neg z, eE _ (by omega)]
        exact h.oth F hi (by omega) (by omega) c.ch
    · rw [eE _ (by omega)]
      exact h.oth F hi (by omega) (by omega) c.rd
    · intro c9
      by_cases z : k' = k
      · rw [show wC (vCh W k l e9) k' = l from if_pos z]; exact hl c9
      · rw [show wC (vCh W k l e9) k' = wC W k' from if_neg z]; exact c.cn c9
def vA (W : LW) (e : Option Nat) : LW := (W.1, W.2.1, W.2.2.1, W.2.2.2.1, W.2.2.2.2.1, up1 W.2.2.2.2.2.1 0 e, W.2.2.2.2.2.2)
/-- the crate goes into the yard's list -/
theorem LB.add {n s : Nat} {e9 : Option Nat} (h : LB a M W) (ha : wN W = a + 1) (F : Fx (SL 0 (wE W 0)) n s M M') (hL : Ls M' 0 ((List.range a).map (rf 11) ++ [rf 11 a]) e9) (hE : e9 = wE W 0 ∨ e9 = some (mC M 16)) : LM M' (vA W e9) := by
  have hi : 0 < 1 + 2 * wN W := by omega
  have e32 := F.1 32 0 (by unfold SL; omega) (fun q => by unfold inG at q; omega)
  have eE : ∀ j, j ≠ 0 → wE (vA W e9) j = wE W j := fun j hj => if_neg hj
  refine ⟨h.n, by rw [e32.2.2.1]; exact h.y, fun f hf => by rw [e32.1]; exact h.yi hf, ?_, fun k' hk' => ?_, h.inj9 hE hi⟩
  · show Ls M' 0 ((List.range (wN W)).map (rf 11)) (wE (vA W e9) 0)
    rw [ha, List.range_succ, List.map_append, show wE (vA W e9) 0 = e9 from up1_s (wE W) 0 e9]
    exact hL
  · have hk2 : k' < wN W := hk'
    have c := h.c hk2
    have e11 := F.1 11 k' (by unfold SL; omega) (fun q => by unfold inG at q; omega)
    refine ⟨fun f => by rw [e11.1]; exact c.i, by rw [e11.2.2.1]; exact c.p, by rw [e11.2.2.1]; exact c.r7, by rw [e11.2.2.1]; exact c.r8, ?_, ?_, fun q hq => (c.iv q hq).fx F (fun _ => by unfold SL; omega), c.cn, c.pn⟩
    · rw [eE _ (by omega)]; exact h.oth F hi (by omega) (by omega) c.ch
    · rw [eE _ (by omega)]; exact h.oth F hi (by omega) (by omega) c.rd
/-- a crate was made; the list hasn't it yet -/
theorem LB.mk0 {ta go : Int32} (h : LM M W) (hn : wN W < 9) (f0 : ∀ f, mI M 11 (wN W) f = if f = 0 then nI (wN W) else if f = 1 then ta else if f = 2 then go else 0) (f6 : mR M 11 (wN W) 6 = none) (f7 : mR M 11 (wN W) 7 = some (rf 33 (1 + 2 * wN W))) (f8 : mR M 11 (wN W) 8 = some (rf 33 (2 + 2 * wN W))) (l1 : Ls M (1 + 2 * wN W) [] none) (l2 : Ls M (2 + 2 * wN W) [] none) : LB (wN W) M (newW W ta go) := by
  obtain ⟨h1, h2, h3, h4, h5, h6⟩ := h
  have eE : ∀ j, j ≠ 1 + 2 * wN W → j ≠ 2 + 2 * wN W → wE (newW W ta go) j = wE W j := fun j hj hj2 => by
    show up1 (up1 (wE W) (1 + 2 * wN W) none) (2 + 2 * wN W) none j = _
    rw [up1_n hj2, up1_n hj]
  have eN : ∀ j, j = 1 + 2 * wN W ∨ j = 2 + 2 * wN W → wE (newW W ta go) j = none := fun j hj => by
    show up1 (up1 (wE W) (1 + 2 * wN W) none) (2 + 2 * wN W) none j = _
    by_cases z : j = 2 + 2 * wN W
    · rw [z, up1_s]
    · rw [up1_n z, show j = 1 + 2 * wN W by omega, up1_s]
  refine ⟨by rw [nw_N]; omega, h2, h3, by rw [eE 0 (by omega) (by omega)]; exact h4, fun k hk => ?_, fun i j e hi hj hei hej => ?_⟩
  · rw [nw_N] at hk
    by_cases z : k = wN W
    · rw [z]
      refine ⟨fun f => by rw [f0]; exact (if_pos rfl).symm, ?_, f7, f8, ?_, ?_, ?_, ?_, ?_⟩
      · rw [f6, nw_P, if_pos rfl]; rfl
      · rw [nw_C, if_pos rfl, eN _ (Or.inl rfl)]; exact l1
      · rw [nw_R, if_pos rfl, eN _ (Or.inr rfl)]; exact l2
      · intro q hq; rw [nw_R, if_pos rfl] at hq; cases hq
      · intro c hc; rw [nw_C, if_pos rfl] at hc; cases hc
      · intro j hj; rw [nw_P, if_pos rfl] at hj; cases hj
    · have hk2 : k < wN W := by omega
      have c := h5 k hk2
      refine ⟨fun f => by rw [nw_I z]; exact c.i, ?_, c.r7, c.r8, ?_, ?_, ?_, ?_, ?_⟩
      · rw [nw_P, if_neg z]; exact c.p
      · rw [nw_C, if_neg z, eE _ (by omega) (by omega)]; exact c.ch
      · rw [nw_R, if_neg z, eE _ (by omega) (by omega)]; exact c.rd
      · rw [nw_R, if_neg z]; exact c.iv
      · rw [nw_C, if_neg z]; exact fun c9 h9 => Nat.lt_succ_of_lt (c.cn c9 h9)
      · rw [nw_P, if_neg z]; exact fun j hj => Nat.lt_succ_of_lt (c.pn j hj)
  · rw [nw_N] at hi hj
    have g : ∀ x, x < 1 + 2 * (wN W + 1) → wE (newW W ta go) x = some e → x < 1 + 2 * wN W ∧ wE W x = some e := by
      intro x hx he
      by_cases z : x = 1 + 2 * wN W ∨ x = 2 + 2 * wN W
      · rw [eN x z] at he; cases he
      · rw [eE x (fun q => z (Or.inl q)) (fun q => z (Or.inr q))] at he
        exact ⟨by omega, he⟩
    exact h6 i j e (g i hi hei).1 (g j hj hej).1 (g i hi hei).2 (g j hj hej).2
/-! what the steps leave -/
theorem FrT.gr {c0 : Nat} (h : FrT c0 M M') : Gu g9 M M' := ⟨fun k i hk _ _ => h.1 k i (by unfold inL at hk; omega) (by unfold inL at hk; omega), fun k hk => by rw [h.2.1 k (by unfold inL at hk; omega)]; exact Nat.le_refl _⟩
theorem FrT.fc {c0 : Nat} (h : FrT c0 M M') : FC (inQ c0) M M' := fun k i hn => h.1 k i (by unfold inQ at hn; omega) (by unfold inQ at hn; omega)
theorem Fx.fc {S : Nat → Nat → Prop} {n s c : Nat} (F : Fx S n s M M') (hS : ∀ k i, S k i → inK k) : FC (inQ c) M M' := fun k i hk => by
  have nk : ¬ inK k := fun z => hk (Or.inl z)
  exact F.1 k i (fun z => nk (hS k i z)) (fun z => absurd z (fun z => nk (by unfold inG at z; unfold inK; omega)))
theorem SL_K {i : Nat} {E : Option Nat} (k j : Nat) (h : SL i E k j) : inK k := by unfold SL at h; unfold inK; omega
theorem Sc.sm {c0 cap : Nat} {O : List Int32} (h : Sc c0 M cap O) (h1 : Sm M M' 12 1) (h2 : ∀ v, Sm M M' 13 v) (h3 : mC M' 13 = mC M 13) : Sc c0 M' cap O := by
  obtain ⟨⟨v, a1, a2, a3, a4, a5, a6⟩, b1, b2, b3, b4⟩ := h
  exact ⟨⟨v, by rw [h1.2.2.1]; exact a1, a2, by rw [h3]; exact a3, by rw [(h2 v).2.2.2.2]; exact a4, fun i x hx => by rw [(h2 v).1]; exact a5 i x hx, fun j hj => by rw [(h2 v).1]; exact a6 j hj⟩, by rw [h1.1]; exact b1, by rw [h1.1]; exact b2, b3, b4⟩
theorem Sc.fx {S : Nat → Nat → Prop} {n s c0 cap : Nat} {O : List Int32} (h : Sc c0 M cap O) (F : Fx S n s M M') (hS : ∀ k i, S k i → inK k) : Sc c0 M' cap O := by
  have e : ∀ k i, ¬ inK k → Sm M M' k i := fun k i hk => F.1 k i (fun z => hk (hS k i z)) (fun z => absurd z (fun z => hk (by unfold inG at z; unfold inK; omega)))
  exact h.sm (e 12 1 (by unfold inK; omega)) (fun v => e 13 v (by unfold inK; omega)) (F.2.1 13 (by unfold inG; omega))
/-! the crate that is made -/
abbrev ncM (M : Mem) (a b c : Int32) : Mem := crM (al M 11 0 9) (mC M 11) a b c
theorem nc_I (a b c : Int32) (k i f : Nat) : mI (ncM M a b c) k i f = if k = 11 ∧ i = mC M 11 then (if f = 0 then a else if f = 1 then b else if f = 2 then c else 0) else if k = 33 ∧ (i = mC M 33 ∨ i = mC M 33 + 1) then 0 else mI M k i f := by
  unfold ncM crM
  simp only [mI_sI, mI_sR, mkL_I, mkL_C, mC_sR, mI_al, mC_al]
  grind
theorem nc_R (a b c : Int32) (k i f : Nat) : mR (ncM M a b c) k i f = if k = 11 ∧ i = mC M 11 then (if f = 7 then some (rf 33 (mC M 33)) else if f = 8 then some (rf 33 (mC M 33 + 1)) else none) else if k = 33 ∧ (i = mC M 33 ∨ i = mC M 33 + 1) then (if f = 1 then some (rf 31 0) else none) else mR M k i f := by
  unfold ncM crM
  simp only [mR_sI, mR_sR, mkL_R, mkL_C, mC_sR, mR_al, mC_al]
  grind
theorem nc_C (a b c : Int32) (k : Nat) : mC (ncM M a b c) k = if k = 11 then mC M 11 + 1 else if k = 33 then mC M 33 + 2 else mC M k := by
  unfold ncM crM
  simp only [mC_sI, mC_sR, mkL_C, mC_al]
  grind
theorem nc_Sm {a b c : Int32} {k i : Nat} (h1 : ¬ (k = 11 ∧ i = mC M 11)) (h2 : ¬ (k = 33 ∧ (i = mC M 33 ∨ i = mC M 33 + 1))) : Sm M (ncM M a b c) k i := by
  refine ⟨?_, ?_, ?_, ?_, ?_⟩
  · funext f; rw [nc_I, if_neg h1, if_neg h2]
  · funext f
    show (if k = 33 ∧ i = mC M 33 + 1 then (0 : Int64) else if k = 33 ∧ i = mC M 33 then 0 else if k = 11 ∧ i = mC M 11 then 0 else mL M k i f) = _
    rw [if_neg (fun z => h2 ⟨z.1, Or.inr z.2⟩), if_neg (fun z => h2 ⟨z.1, Or.inl z.2⟩), if_neg h1]
  · funext f; rw [nc_R, if_neg h1, if_neg h2]
  · funext f
    show (if k = 33 ∧ i = mC M 33 + 1 then (0 : UInt64) else if k = 33 ∧ i = mC M 33 then 0 else if k = 11 ∧ i = mC M 11 then 0 else mD M k i f) = _
    rw [if_neg (fun z => h2 ⟨z.1, Or.inr z.2⟩), if_neg (fun z => h2 ⟨z.1, Or.inl z.2⟩), if_neg h1]
  · show (if k = 33 ∧ i = mC M 33 + 1 then 0 else if k = 33 ∧ i = mC M 33 then 0 else if k = 11 ∧ i = mC M 11 then 0 else mN M k i) = _
    rw [if_neg (fun z => h2 ⟨z.1, Or.inr z.2⟩), if_neg (fun z => h2 ⟨z.1, Or.inl z.2⟩), if_neg h1]
theorem nc_K (a b c : Int32) : mK (ncM M a b c) = mK M + 3 := rfl
theorem nc_S (a b c : Int32) : mS (ncM M a b c) = mS M + 15 := rfl
theorem nc_gr {a b c : Int32} (h11 : mC M 11 = g9) (h33 : mC M 33 = 1 + 2 * g9) : Gu g9 M (ncM M a b c) := ⟨fun k i _ h1 h2 => nc_Sm (by omega) (by omega), fun k _ => by
  rw [nc_C]
  by_cases z : k = 11
  · rw [if_pos z, z]; exact Nat.le_succ _
  · rw [if_neg z]
    by_cases y : k = 33
    · rw [if_pos y, y]; exact Nat.le_add_right _ _
    · rw [if_neg y]; exact Nat.le_refl _⟩
theorem nc_fc {a b c : Int32} {c0 : Nat} : FC (inQ c0) M (ncM M a b c) := fun k i hn => nc_Sm (fun z => hn (Or.inl (by unfold inK; omega))) (fun z => hn (Or.inl (by unfold inK; omega)))
theorem nc_LB {ta go : Int32} (h : LM M W) (hn : wN W < 9) (h11 : mC M 11 = wN W) (h33 : mC M 33 = 1 + 2 * wN W) : LM (ncM M (nI (wN W)) ta go) W ∧ LB (wN W) (ncM M (nI (wN W)) ta go) (newW W ta go) := by
  have g := h.gr (nc_gr (a := nI (wN W)) (b := ta) (c := go) h11 h33)
  refine ⟨g, LB.mk0 g hn (fun f => by rw [nc_I, if_pos ⟨rfl, h11.symm⟩]) ?_ ?_ ?_ ?_ ?_⟩
  · rw [nc_R, if_pos ⟨rfl, h11.symm⟩]; rfl
  · rw [nc_R, if_pos ⟨rfl, h11.symm⟩, h33]; rfl
  · rw [nc_R, if_pos ⟨rfl, h11.symm⟩, h33, show 1 + 2 * wN W + 1 = 2 + 2 * wN W by omega]; rfl
  · refine Ls.nw (by rw [nc_C, if_neg (by decide), if_pos rfl]; omega) ?_ ?_
    · rw [nc_I, if_neg (by omega), if_pos ⟨rfl, Or.inl h33.symm⟩]
    · rw [nc_R, if_neg (by omega), if_pos ⟨rfl, Or.inl h33.symm⟩]; rfl
  · refine Ls.nw (by rw [nc_C, if_neg (by decide), if_pos rfl]; omega) ?_ ?_
    · rw [nc_I, if_neg (by omega), if_pos ⟨rfl, Or.inr (by omega)⟩]
    · rw [nc_R, if_neg (by omega), if_pos ⟨rfl, Or.inr (by omega)⟩]; rfl
end GRS
