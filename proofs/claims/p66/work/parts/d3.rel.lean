/-! the two yards side by side -/
def laR (l : List (Nat × Int32)) : Int32 := match l.getLast? with
  | none => 0
  | some q => q.2
theorem vY_s (W : LW) (f : Nat) (v : Int32) : wYs (vY W f v) f = v := up1_s (wYs W) f v
theorem vY_n {W : LW} {f g : Nat} {v : Int32} (h : g ≠ f) : wYs (vY W f v) g = wYs W g := up1_n h
/-- crate k -/
def RC (Y : Yd) (W : LW) (k : Nat) : Prop := wI W k 0 = nI k ∧ yC Y k 2 = wI W k 1 ∧ yC Y k 3 = wI W k 2 ∧ wI W k 4 = 1 - yC Y k 7 ∧ ChR Y k (wC W k) ∧ yC Y k 8 = nI (wR W k).length ∧ yL Y k 9 = sL9 (wR W k) ∧ yC Y k 11 = laR (wR W k) ∧ wI W k 5 = (if (wR W k).length % 2 = 1 then 1 else 0) ∧ ((wR W k).length % 2 = 1 → wI W k 3 = yC Y k 12) ∧ bdR (wR W k)
def RS9 (Y : Yd) (W : LW) : Prop := yS Y 0 = wYs W 1 ∧ yS Y 1 = wYs W 2 ∧ yS Y 2 = wYs W 3 ∧ yS Y 3 = wYs W 4
def RT9 (Y : Yd) (W : LW) : Prop := yT Y 0 = wYs W 5 ∧ yB Y 0 2 = wYs W 7 ∧ yB Y 0 3 = wYs W 8 ∧ yB Y 0 4 = wYs W 9 ∧ yT Y 4 = wYs W 10 ∧ yT Y 5 = wYs W 11 ∧ yF Y 6 = 2 ∧ yF Y 7 = 20
def RY0 (Y : Yd) (W : LW) : Prop := yF Y 4 = nI (wN W) ∧ wN W ≤ 9 ∧ yP Y = wP W ∧ (∀ k, k < wN W → RC Y W k) ∧ RS9 Y W ∧ RT9 Y W
def RY (Y : Yd) (W : LW) : Prop := RY0 Y W ∧ yT Y 1 = wYs W 6
section RR
variable {Y Z : Yd} {W V : LW}
theorem RC.ch {k : Nat} (h : RC Y W k) : ChR Y k (wC W k) := h.2.2.2.2.1
theorem RC.eq {k : Nat} (h : RC Y W k) (hc : ∀ f, f = 2 ∨ f = 3 ∨ f = 7 ∨ f = 8 ∨ f = 11 ∨ f = 12 → yC Z k f = yC Y k f) (hl : yL Z k 9 = yL Y k 9) (hch : ChR Z k (wC V k)) (hi : ∀ f, f < 6 → wI V k f = wI W k f) (hr : wR V k = wR W k) : RC Z V k := by
  obtain ⟨h1, h2, h3, h4, h5, h6, h7, h8, h9, h10, h11⟩ := h
  refine ⟨by rw [hi 0 (by omega)]; exact h1, by rw [hc 2 (by omega), hi 1 (by omega)]; exact h2, by rw [hc 3 (by omega), hi 2 (by omega)]; exact h3, by rw [hc 7 (by omega), hi 4 (by omega)]; exact h4, hch, by rw [hc 8 (by omega), hr]; exact h6, by rw [hl, hr]; exact h7, by rw [hc 11 (by omega), hr]; exact h8, by rw [hi 5 (by omega), hr]; exact h9, by rw [hi 3 (by omega), hc 12 (by omega), hr]; exact h10, by rw [hr]; exact h11⟩
theorem RY0.tr (h : RY0 Y W) (hA : Acy Y) (hp : ∀ i j, i < 16 → yP Y i = some j → i < wN W ∧ j < wN W) : TR9 Y W := ⟨by have := h.2.1; omega, h.2.2.1, fun k hk => (h.2.2.2.1 k hk).ch, hp, hA⟩
/-- readings of crate j forgotten -/
def fg1 (W : LW) (j : Nat) : LW := vI (vR W j [] (wE W (2 + 2 * j))) j 5 0
theorem fg1_I (W : LW) (j k f : Nat) : wI (fg1 W j) k f = if k = j ∧ f = 5 then 0 else wI W k f := rfl
theorem fg1_R (W : LW) (j k : Nat) : wR (fg1 W j) k = if k = j then [] else wR W k := rfl
theorem RY0.fgo {j : Nat} {w : Int32} (h : RY0 Y W) (hj : j < wN W) : RY0 (awC Y j w) (fg1 W j) := by
  obtain ⟨h1, h2, h3, h4, h5, h6⟩ := h
  refine ⟨h1, h2, h3, fun k hk => ?_, h5, h6⟩
  have c := h4 k hk
  have hch : ChR (awC Y j w) k (wC W k) := c.ch.eq rfl (fun c => by rw [awC_C, if_neg (by omega), if_neg (by omega), if_neg (by omega), if_neg (by omega)])
  by_cases e : k = j
  · subst e
    obtain ⟨c1, c2, c3, c4, c5, c6, c7, c8, c9, c10, c11⟩ := c
    have eC : ∀ f, f ≠ 12 → f ≠ 11 → f ≠ 8 → f ≠ 4 → yC (awC Y k w) k f = yC Y k f := fun f g1 g2 g3 g4 => by
      rw [awC_C, if_neg (by omega), if_neg (by omega), if_neg (by omega), if_neg (by omega)]
    have eI : ∀ f, f ≠ 5 → wI (fg1 W k) k f = wI W k f := fun f g => by rw [fg1_I, if_neg (by omega)]
    have eR : wR (fg1 W k) k = [] := by rw [fg1_R, if_pos rfl]
    refine ⟨by rw [eI 0 (by omega)]; exact c1, by rw [eC 2 (by omega) (by omega) (by omega) (by omega), eI 1 (by omega)]; exact c2, by rw [eC 3 (by omega) (by omega) (by omega) (by omega), eI 2 (by omega)]; exact c3, by rw [eC 7 (by omega) (by omega) (by omega) (by omega), eI 4 (by omega)]; exact c4, hch, ?_, ?_, ?_, ?_, ?_, ?_⟩
    · rw [eR, awC_C, if_neg (by omega), if_neg (by omega), if_pos ⟨rfl, rfl⟩]; rfl
    · rw [eR, awC_L, if_neg (by omega), if_pos ⟨rfl, rfl⟩]; rfl
    · rw [eR, awC_C, if_neg (by omega), if_pos ⟨rfl, rfl⟩]; rfl
    · rw [eR, fg1_I, if_pos ⟨rfl, rfl⟩]; rfl
    · rw [eR]; intro z; cases z
    · rw [eR]; intro q hq; cases hq
  · refine c.eq (fun f _ => ?_) ?_ hch (fun f _ => ?_) ?_
    · rw [awC_C, if_neg (by omega), if_neg (by omega), if_neg (by omega), if_neg (by omega)]
    · rw [awC_L, if_neg (by omega), if_neg (by omega)]
    · rw [fg1_I, if_neg (by omega)]
    · rw [fg1_R, if_neg e]
/-- what forgetting leaves alone -/
def Ff (W V : LW) : Prop := wN V = wN W ∧ wP V = wP W ∧ wC V = wC W ∧ wE V = wE W ∧ wYs V = wYs W ∧ ∀ k f, f ≠ 5 → wI V k f = wI W k f
theorem Ff.rf (W : LW) : Ff W W := ⟨rfl, rfl, rfl, rfl, rfl, fun _ _ _ => rfl⟩
theorem Ff.tr {U : LW} (h : Ff W V) (g : Ff V U) : Ff W U := ⟨g.1.trans h.1, g.2.1.trans h.2.1, g.2.2.1.trans h.2.2.1, g.2.2.2.1.trans h.2.2.2.1, g.2.2.2.2.1.trans h.2.2.2.2.1, fun k f hf => (g.2.2.2.2.2 k f hf).trans (h.2.2.2.2.2 k f hf)⟩
theorem up1_same {α : Type} (F : Nat → α) (k : Nat) : up1 F k (F k) = F := by
  funext i
  unfold up1
  split
  · next e => rw [e]
  · rfl
theorem Ff.fgo (W : LW) (j : Nat) : Ff W (fg1 W j) := ⟨rfl, rfl, rfl, up1_same (wE W) (2 + 2 * j), rfl, fun k f hf => by rw [fg1_I, if_neg (by omega)]⟩
theorem fgF_f : ∀ n (W : LW) k, Ff W (fgF n W k).2 := by
  intro n
  induction n with
  | zero => intro W k; exact Ff.fgo W k
  | succ n ih =>
    intro W k
    simp only [fgF]
    cases wP W k with
    | none => exact Ff.fgo W k
    | some j => exact (Ff.fgo W k).tr (ih (fg1 W k) j)
theorem fg_aw : ∀ n (Y : Yd) (W : LW) k (w : Int32), RY0 Y W → k < wN W → acyO n (yP Y) (yP Y k) → (∀ i j, i < 16 → yP Y i = some j → i < wN W ∧ j < wN W) → RY0 (awO (n + 1) Y (some k) w) (fgF n W k).2 ∧ yT (awO (n + 1) Y (some k) w) 1 = yT Y 1 + (fgF n W k).1 := by
  intro n
  induction n with
  | zero =>
    intro Y W k w h hk ha hp
    have c := h.2.2.2.1 k hk
    refine ⟨h.fgo hk, ?_⟩
    show yT Y 1 + yC Y k 8 = yT Y 1 + nI (wR W k).length
    rw [c.2.2.2.2.2.1]
  | succ n ih =>
    intro Y W k w h hk ha hp
    have c := h.2.2.2.1 k hk
    have h9 := h.fgo (w := w) hk
    have e0 : awO (n + 1 + 1) Y (some k) w = awO (n + 1) (awC Y k w) (yP Y k) w := rfl
    have e8 : yT (awC Y k w) 1 = yT Y 1 + nI (wR W k).length := by
      show yT Y 1 + yC Y k 8 = _
      rw [c.2.2.2.2.2.1]
    rw [e0]
    cases e : yP Y k with
    | none =>
      have e2 : wP W k = none := by rw [← h.2.2.1]; exact e
      simp only [fgF, e2]
      exact ⟨h9, e8⟩
    | some j =>
      have e2 : wP W k = some j := by rw [← h.2.2.1]; exact e
      simp only [fgF, e2]
      rw [e] at ha
      have hj := hp k j (by have := h.2.1; omega) e
      obtain ⟨q1, q2⟩ := ih (awC Y k w) (fg1 W k) j w h9 hj.2 ha hp
      refine ⟨q1, ?_⟩
      show yT (awO (n + 1) (awC Y k w) (some j) w) 1 = yT Y 1 + (nI (wR W k).length + (fgF n (fg1 W k) j).1)
      rw [q2, e8, Int32.add_assoc]
/-- the yard's own numbers may differ in what RY0 doesn't name -/
theorem RY0.vY6 {v : Int32} (h : RY0 Y W) : RY0 Y (vY W 6 v) := by
  obtain ⟨h1, h2, h3, h4, h5, h6⟩ := h
  exact ⟨h1, h2, h3, h4, h5, h6⟩
/-- goods in or out -/
def evG (W : LW) (k : Nat) (v : Int32) : LW := vY (fgF 5 (vI W k 2 (wI W k 2 + v)) k).2 6 (wYs W 6 + (fgF 5 (vI W k 2 (wI W k 2 + v)) k).1)
theorem RY.goods {k : Nat} {v : Int32} (h : RY Y W) (hk : k < wN W) (hA : Acy Y) (hp : ∀ i j, i < 16 → yP Y i = some j → i < wN W ∧ j < wN W) : RY (cgY Y k v) (evG W k v) := by
  have hk16 : k < 16 := by have := h.1.2.1; omega
  have h0 : RY0 (uC Y k 3 (yC Y k 3 + v)) (vI W k 2 (wI W k 2 + v)) := by
    obtain ⟨⟨h1, h2, h3, h4, h5, h6⟩, -⟩ := h
    refine ⟨h1, h2, h3, fun k' hk' => ?_, h5, h6⟩
    have c := h4 k' hk'
    have hch : ChR (uC Y k 3 (yC Y k 3 + v)) k' (wC W k') := c.ch.eq rfl (fun c => by rw [yC_uC, if_neg (by omega)])
    by_cases e : k' = k
    · subst e
      obtain ⟨c1, c2, c3, c4, c5, c6, c7, c8, c9, c10, c11⟩ := c
      have eC : ∀ f, f ≠ 3 → yC (uC Y k' 3 (yC Y k' 3 + v)) k' f = yC Y k' f := fun f g => by rw [yC_uC, if_neg (by omega)]
      have eI : ∀ f, f ≠ 2 → wI (vI W k' 2 (wI W k' 2 + v)) k' f = wI W k' f := fun f g => if_neg (fun z => g z.2)
      refine ⟨by rw [eI 0 (by omega)]; exact c1, by rw [eC 2 (by omega), eI 1 (by omega)]; exact c2, ?_, by rw [eC 7 (by omega), eI 4 (by omega)]; exact c4, hch, by rw [eC 8 (by omega)]; exact c6, c7, by rw [eC 11 (by omega)]; exact c8, by rw [eI 5 (by omega)]; exact c9, by rw [eI 3 (by omega), eC 12 (by omega)]; exact c10, c11⟩
      rw [yC_uC, if_pos ⟨rfl, rfl⟩, c3]
      exact (if_pos ⟨rfl, rfl⟩).symm
    · exact c.eq (fun f _ => by rw [yC_uC, if_neg (by omega)]) rfl hch (fun f _ => if_neg (fun z => e z.1)) rfl
  obtain ⟨q1, q2⟩ := fg_aw 5 _ _ k v h0 hk (hA k hk16) hp
  refine ⟨q1.vY6, ?_⟩
  rw [show wYs (evG W k v) 6 = wYs W 6 + (fgF 5 (vI W k 2 (wI W k 2 + v)) k).1 from vY_s _ _ _]
  refine Eq.trans q2 ?_
  rw [← h.2]
  rfl
/-- a fresh spring, another amplitude -/
theorem RY.spring (h : RY Y W) : RY (spY Y) (vY W 4 0) := by
  obtain ⟨⟨h1, h2, h3, h4, ⟨s1, s2, s3, s4⟩, h6⟩, h7⟩ := h
  exact ⟨⟨h1, h2, h3, h4, ⟨s1, s2, s3, rfl⟩, h6⟩, h7⟩
theorem RY.ampl {a : Int32} (h : RY Y W) : RY (uS Y 1 a) (vY W 2 a) := by
  obtain ⟨⟨h1, h2, h3, h4, ⟨s1, s2, s3, s4⟩, h6⟩, h7⟩ := h
  exact ⟨⟨h1, h2, h3, h4, ⟨s1, rfl, s3, s4⟩, h6⟩, h7⟩
end RR
