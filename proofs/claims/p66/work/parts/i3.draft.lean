/-! the draft that the text makes, beside the law's crates -/
/-- no readings yet -/
def ZR (Y : Yd) : Prop := ∀ i, i < 16 → yC Y i 8 = 0 ∧ yL Y i 9 = 0 ∧ yL Y i 10 = 0 ∧ yC Y i 11 = 0 ∧ yC Y i 12 = 0
theorem acY_C (Y : Yd) (n : Nat) (nm ta go : Int32) (i f : Nat) : yC (acY Y n nm ta go) i f = if i = n ∧ f = 7 then 1 else if i = n ∧ f = 4 then ta + go else if i = n ∧ f = 3 then go else if i = n ∧ f = 2 then ta else if i = n ∧ f = 1 then nm else yC Y i f := rfl
theorem abY_B (Y : Yd) (n : Nat) (nm mo to tr : Int32) (j f : Nat) : yB (abY Y n nm mo to tr) j f = if j = n ∧ f = 4 then tr else if j = n ∧ f = 3 then to else if j = n ∧ f = 2 then mo else if j = n ∧ f = 1 then nm else yB Y j f := rfl
/-- without readings nothing is discarded -/
theorem aw_z {x : Int32} : ∀ (n : Nat) (Y : Yd) (o : Option Nat), ZR Y → (∀ i, i < 16 → ∀ j, yP Y i = some j → j < 16) → (∀ k, o = some k → k < 16) → (∀ i f, f ≠ 4 → yC (awO n Y o x) i f = yC Y i f) ∧ (∀ i f, yL (awO n Y o x) i f = yL Y i f) ∧ ∀ f, yT (awO n Y o x) f = yT Y f := by
  intro n
  induction n with
  | zero => intro Y o _ _ _; exact ⟨fun _ _ _ => rfl, fun _ _ => rfl, fun _ => rfl⟩
  | succ n ih =>
    intro Y o hZ hP ho
    cases o with
    | none => exact ⟨fun _ _ _ => rfl, fun _ _ => rfl, fun _ => rfl⟩
    | some k =>
      have hk := ho k rfl
      obtain ⟨z1, z2, z3, z4, z5⟩ := hZ k hk
      have c1 : ∀ i f, f ≠ 4 → yC (awC Y k x) i f = yC Y i f := fun i f hf => by
        rw [awC_C]
        by_cases e1 : i = k ∧ f = 12
        · rw [if_pos e1, e1.1, e1.2, z5]
        · rw [if_neg e1]
          by_cases e2 : i = k ∧ f = 11
          · rw [if_pos e2, e2.1, e2.2, z4]
          · rw [if_neg e2]
            by_cases e3 : i = k ∧ f = 8
            · rw [if_pos e3, e3.1, e3.2, z1]
            · rw [if_neg e3, if_neg (fun q => hf q.2)]
      have c2 : ∀ i f, yL (awC Y k x) i f = yL Y i f := fun i f => by
        rw [awC_L]
        by_cases e1 : i = k ∧ f = 10
        · rw [if_pos e1, e1.1, e1.2, z3]
        · rw [if_neg e1]
          by_cases e2 : i = k ∧ f = 9
          · rw [if_pos e2, e2.1, e2.2, z2]
          · rw [if_neg e2]
      have c3 : ∀ f, yT (awC Y k x) f = yT Y f := fun f => by
        show (if f = 1 then yT Y 1 + yC Y k 8 else yT Y f) = yT Y f
        by_cases e : f = 1
        · rw [if_pos e, z1, Int32.add_zero, e]
        · rw [if_neg e]
      have hZ2 : ZR (awC Y k x) := fun i hi => by
        rw [c1 i 8 (by omega), c1 i 11 (by omega), c1 i 12 (by omega), c2, c2]
        exact hZ i hi
      obtain ⟨q1, q2, q3⟩ := ih (awC Y k x) (yP Y k) hZ2 hP (fun i e => hP k hk i e)
      exact ⟨fun i f hf => (q1 i f hf).trans (c1 i f hf), fun i f => (q2 i f).trans (c2 i f), fun f => (q3 f).trans (c3 f)⟩
theorem PV.ac {Y : Yd} {m b T : Nat} {nm : Int32} {ta go : Nat} (h : PV Y m b T) (hZ : ZR Y) (hm : m < 16) (h1 : ta ≤ 50) (h2 : go ≤ 500) : PV (acY Y m nm (nI ta) (nI go)) (m + 1) b T := by
  have hp := fun {i j : Nat} (hi : i < 16) (e : yP Y i = some j) => h.p hi e
  obtain ⟨⟨a1, a2, a3⟩, l, s, d, e, f, z, q⟩ := h
  obtain ⟨c1, c2, c3, c4, c5, c6, c7⟩ := a3
  have eP : yP (acY Y m nm (nI ta) (nI go)) = yP Y := rfl
  have pn : yP Y m = none := by
    cases e9 : yP Y m with
    | none => rfl
    | some j => have := hp hm e9; omega
  refine ⟨⟨fun i hi => ?_, a2, by omega, c2, ?_, c4, fun i hi hm2 => ?_, c6, fun i j hi e9 => ?_⟩, fun i hi => ?_, ?_, fun i hi => ?_, fun i hi => ?_, f, ?_, q⟩
  · rw [acY_C]
    by_cases z : i = m
    · rw [if_pos ⟨z, rfl⟩]; exact Or.inr rfl
    · rw [if_neg (fun q => z q.1), if_neg (fun q => z q.1), if_neg (fun q => z q.1), if_neg (fun q => z q.1), if_neg (fun q => z q.1)]; exact a1 i hi
  · show yF Y 4 + 1 = _
    rw [c3, nI_s1]
  · rw [acY_C, if_neg (by omega), if_neg (by omega), if_neg (by omega), if_neg (by omega), if_neg (by omega)]
    exact c5 i hi (by omega)
  · have := c7 i j hi e9
    omega
  · have es : sm (fun c => if yP Y c = some i then yC (acY Y m nm (nI ta) (nI go)) c 4 else 0) 16 = sm (fun c => if yP Y c = some i then yC Y c 4 else 0) 16 := by
      refine sm_c fun c _ => ?_
      by_cases y : yP Y c = some i
      · rw [if_pos y, if_pos y, acY_C, if_neg (by omega), if_neg (fun q => by rw [q.1, pn] at y; cases y), if_neg (by omega), if_neg (by omega), if_neg (by omega)]
      · rw [if_neg y, if_neg y]
    rw [eP, es, acY_C, acY_C, acY_C]
    by_cases z : i = m
    · subst z
      rw [if_neg (by omega), if_pos ⟨rfl, rfl⟩, if_neg (by omega), if_neg (by omega), if_neg (by omega), if_pos ⟨rfl, rfl⟩, if_neg (by omega), if_neg (by omega), if_pos ⟨rfl, rfl⟩, sm_z, az]
      intro c hc
      rw [if_neg]
      intro y
      have := hp hc y
      omega
    · have n : ∀ (f g : Nat), ¬ (i = m ∧ f = g) := fun f g q => z q.1
      rw [if_neg (n _ _), if_neg (n _ _), if_neg (n _ _), if_neg (n _ _), if_neg (n _ _), if_neg (n _ _), if_neg (n _ _), if_neg (n _ _), if_neg (n _ _), if_neg (n _ _), if_neg (n _ _), if_neg (n _ _), if_neg (n _ _), if_neg (n _ _), if_neg (n _ _)]
      exact l i hi
  · obtain ⟨t, t1, t2, t3, t4⟩ := s
    refine ⟨t, t1, t2, fun i hi => ?_, fun i hi j hj => ?_⟩
    · rw [acY_C, if_neg (by omega), if_neg (by omega), if_neg (by omega), if_neg (by omega), if_neg (by omega)]
      exact t3 i hi
    · rw [acY_C, acY_C, if_neg (by omega), if_neg (by omega), if_neg (by omega), if_neg (by omega), if_neg (by omega), if_neg (by omega), if_neg (by omega), if_neg (by omega), if_neg (by omega), if_neg (by omega)]
      exact t4 i hi j hj
  · rw [acY_C, acY_C]
    by_cases z : i = m
    · subst z
      rw [if_neg (by omega), if_neg (by omega), if_neg (by omega), if_pos ⟨rfl, rfl⟩, if_neg (by omega), if_neg (by omega), if_pos ⟨rfl, rfl⟩]
      exact ⟨ta, go, rfl, h1, rfl, h2⟩
    · have n : ∀ (f g : Nat), ¬ (i = m ∧ f = g) := fun f g q => z q.1
      rw [if_neg (n _ _), if_neg (n _ _), if_neg (n _ _), if_neg (n _ _), if_neg (n _ _), if_neg (n _ _), if_neg (n _ _), if_neg (n _ _), if_neg (n _ _), if_neg (n _ _)]
      exact d i hi
  · refine (e i hi).eq ?_
    obtain ⟨z1, z2, z3, z4, z5⟩ := hZ i hi
    left
    rw [acY_C, acY_C, if_neg (by omega), if_neg (by omega), if_neg (by omega), if_neg (by omega), if_neg (by omega), if_neg (by omega), if_neg (by omega), if_neg (by omega), if_neg (by omega), if_neg (by omega)]
    exact ⟨z1, z2, z3, z5⟩
  · refine ⟨fun i hi hm2 => ?_, z.2⟩
    rw [acY_C, if_neg (by omega), if_neg (by omega), if_neg (by omega), if_neg (by omega), if_neg (by omega)]
    exact z.1 i hi (by omega)
theorem PV.ab {Y : Yd} {m b T : Nat} {nm mo to tr : Int32} (h : PV Y m b T) (hb : b < 6) : PV (abY Y b nm mo to tr) m (b + 1) T := by
  obtain ⟨⟨a1, a2, a3⟩, l, s, d, e, f, z, q⟩ := h
  obtain ⟨c1, c2, c3, c4, c5, c6, c7⟩ := a3
  refine ⟨⟨a1, a2, c1, by omega, c3, ?_, c5, fun j hj hb2 => ?_, c7⟩, l, s, d, e, f, ⟨z.1, fun j hj hb2 => ?_⟩, q⟩
  · show yF Y 5 + 1 = _
    rw [c4, nI_s1]
  · rw [abY_B, if_neg (by omega), if_neg (by omega), if_neg (by omega), if_neg (by omega)]
    exact c6 j hj (by omega)
  · rw [abY_B, abY_B, if_neg (by omega), if_neg (by omega), if_neg (by omega), if_neg (by omega), if_neg (by omega), if_neg (by omega), if_neg (by omega), if_neg (by omega)]
    exact z.2 j hj (by omega)
/-- crates alike; nothing said of the rest -/
def RK (Y : Yd) (W : LW) : Prop := yP Y = wP W ∧ ∀ k, k < wN W → RC Y W k
/-- a crate more in the law's yard -/
def newW (W : LW) (ta go : Int32) : LW := (W.1 + 1, (fun i f => if i = W.1 then (if f = 0 then nI W.1 else if f = 1 then ta else if f = 2 then go else 0) else W.2.1 i f), up1 W.2.2.1 W.1 none, up1 W.2.2.2.1 W.1 [], up1 W.2.2.2.2.1 W.1 [], up1 (up1 W.2.2.2.2.2.1 (1 + 2 * W.1) none) (2 + 2 * W.1) none, W.2.2.2.2.2.2)
section NWS
variable {Y A : Yd} {W V : LW} {T m : Nat}
theorem nw_N (W : LW) (ta go : Int32) : wN (newW W ta go) = wN W + 1 := rfl
theorem nw_I {ta go : Int32} {i f : Nat} (h : i ≠ wN W) : wI (newW W ta go) i f = wI W i f := if_neg h
theorem nw_P {ta go : Int32} (i : Nat) : wP (newW W ta go) i = if i = wN W then none else wP W i := rfl
theorem nw_C {ta go : Int32} (i : Nat) : wC (newW W ta go) i = if i = wN W then [] else wC W i := rfl
theorem nw_R {ta go : Int32} (i : Nat) : wR (newW W ta go) i = if i = wN W then [] else wR W i := rfl
/-- the draft and the law's crates -/
def PX (Y : Yd) (W : LW) : Prop := PV Y (wN W) 0 (wN W) ∧ ZR Y ∧ (∀ f, f < 7 → yT Y f = 0) ∧ (∀ i, i < 16 → yC Y i 1 = if i < wN W then nI (i + 1) else 0) ∧ RK Y W ∧ (∀ k, k < wN W → wR W k = []) ∧ wN W ≤ 9 ∧ yF Y 6 = 2 ∧ yS Y 3 = 0
theorem PV.dy {b : Nat} (h : PV Y m b T) : DY Y m b := ⟨h.m16, h.b6, h.f4, h.f5, h.c.2.2.2.2.2.2, h.acy, h.c.2.2.2.2.1⟩
theorem cn_none {nm : Int32} : ∀ k i, (∀ x, i ≤ x → x < i + k → yC Y x 1 ≠ nm) → cnF Y nm k i = none := by
  intro k
  induction k with
  | zero => intro i _; rfl
  | succ k ih =>
    intro i h
    rw [cnF, if_neg (h i (Nat.le_refl _) (by omega))]
    exact ih (i + 1) (fun x h1 h2 => h x (by omega) (by omega))
theorem cn_some {nm : Int32} {j : Nat} : ∀ k i, i ≤ j → j < i + k → yC Y j 1 = nm → (∀ x, i ≤ x → x < j → yC Y x 1 ≠ nm) → cnF Y nm k i = some j := by
  intro k
  induction k with
  | zero => intro i h1 h2; omega
  | succ k ih =>
    intro i h1 h2 h3 h4
    rw [cnF]
    by_cases z : i = j
    · subst z
      rw [if_pos h3]
    · rw [if_neg (h4 i (Nat.le_refl _) (by omega))]
      exact ih (i + 1) (by omega) (by omega) h3 (fun x q1 q2 => h4 x (by omega) q2)
theorem PX.new (h : PX Y W) : cnF Y (nI (wN W + 1)) 16 0 = none := by
  obtain ⟨-, -, -, h4, -, -, h7, -⟩ := h
  refine cn_none 16 0 (fun x _ hx => ?_)
  rw [h4 x (by omega)]
  by_cases z : x < wN W
  · rw [if_pos z]
    intro q
    have := (nI_inj (by omega) (by omega)).mp q
    omega
  · rw [if_neg z]
    intro q
    have := (nI_inj (a := 0) (by omega) (by omega)).mp q
    omega
theorem PX.old {j : Nat} (h : PX Y W) (hj : j < wN W) : cnF Y (nI (j + 1)) 16 0 = some j := by
  obtain ⟨-, -, -, h4, -, -, h7, -⟩ := h
  refine cn_some 16 0 (Nat.zero_le _) (by omega) (by rw [h4 j (by omega), if_pos hj]) (fun x _ hx => ?_)
  rw [h4 x (by omega), if_pos (by omega)]
  intro q
  have := (nI_inj (by omega) (by omega)).mp q
  omega
theorem PX.cr {ta go : Nat} (h : PX Y W) (hm : wN W < 9) (h1 : ta ≤ 50) (h2 : go ≤ 500) : PX (acY Y (wN W) (nI (wN W + 1)) (nI ta) (nI go)) (newW W (nI ta) (nI go)) := by
  obtain ⟨p1, p2, p3, p4, ⟨p5, p5'⟩, p6, p7, p8⟩ := h
  have hn : yP Y (wN W) = none := by
    cases e : yP Y (wN W) with
    | none => rfl
    | some j => have := p1.p (show wN W < 16 by omega) e; omega
  have eC : ∀ i f, f ≠ 1 → f ≠ 2 → f ≠ 3 → f ≠ 4 → f ≠ 7 → yC (acY Y (wN W) (nI (wN W + 1)) (nI ta) (nI go)) i f = yC Y i f := fun i f a1 a2 a3 a4 a7 => by
    rw [acY_C, if_neg (fun q => a7 q.2), if_neg (fun q => a4 q.2), if_neg (fun q => a3 q.2), if_neg (fun q => a2 q.2), if_neg (fun q => a1 q.2)]
  have eD : ∀ i f, i ≠ wN W → yC (acY Y (wN W) (nI (wN W + 1)) (nI ta) (nI go)) i f = yC Y i f := fun i f a => by
    rw [acY_C, if_neg (fun q => a q.1), if_neg (fun q => a q.1), if_neg (fun q => a q.1), if_neg (fun q => a q.1), if_neg (fun q => a q.1)]
  refine ⟨(p1.ac p2 (by omega) h1 h2).mono (Nat.le_succ _), fun i hi => ?_, p3, fun i hi => ?_, ⟨?_, fun k hk => ?_⟩, fun k hk => ?_, ?_, p8⟩
  · rw [eC i 8 (by decide) (by decide) (by decide) (by decide) (by decide), eC i 11 (by decide) (by decide) (by decide) (by decide) (by decide), eC i 12 (by decide) (by decide) (by decide) (by decide) (by decide)]
    exact p2 i hi
  · rw [nw_N]
    by_cases z : i = wN W
    · subst z
      rw [acY_C, if_neg (by omega), if_neg (by omega), if_neg (by omega), if_neg (by omega), if_pos ⟨rfl, rfl⟩, if_pos (by omega)]
    · rw [eD i 1 z, p4 i hi]
      by_cases y : i < wN W
      · rw [if_pos y, if_pos (by omega)]
      · rw [if_neg y, if_neg (by omega)]
  · funext i
    show yP Y i = _
    rw [nw_P, p5]
    by_cases z : i = wN W
    · rw [if_pos z, ← p5, z]; exact hn
    · rw [if_neg z]
  · rw [nw_N] at hk
    by_cases z : k = wN W
    · subst z
      obtain ⟨z1, z2, z3, z4, z5⟩ := p2 (wN W) (by omega)
      have eI : ∀ f, wI (newW W (nI ta) (nI go)) (wN W) f = if f = 0 then nI (wN W) else if f = 1 then nI ta else if f = 2 then nI go else 0 := fun f => if_pos rfl
      have eR : wR (newW W (nI ta) (nI go)) (wN W) = [] := if_pos rfl
      have eCh : wC (newW W (nI ta) (nI go)) (wN W) = [] := if_pos rfl
      refine ⟨eI 0, ?_, ?_, ?_, ?_, ?_, ?_, ?_, ?_, ?_, ?_⟩
      · rw [eI, acY_C, if_neg (by omega), if_neg (by omega), if_neg (by omega), if_pos ⟨rfl, rfl⟩]; rfl
      · rw [eI, acY_C, if_neg (by omega), if_neg (by omega), if_pos ⟨rfl, rfl⟩]; rfl
      · have e7 : yC (acY Y (wN W) (nI (wN W + 1)) (nI ta) (nI go)) (wN W) 7 = 1 := if_pos ⟨rfl, rfl⟩
        rw [eI, e7]; rfl
      · rw [eCh]
        refine ⟨fun c => ⟨fun q => (by cases q), fun q => ?_⟩, List.Pairwise.nil⟩
        have := p1.p q.1 q.2
        omega
      · rw [eR, eC _ 8 (by decide) (by decide) (by decide) (by decide) (by decide)]; exact z1
      · rw [eR]; exact z2
      · rw [eR, eC _ 11 (by decide) (by decide) (by decide) (by decide) (by decide)]; exact z4
      · rw [eI, eR]; rfl
      · rw [eR]; intro q; cases q
      · rw [eR]; intro q hq; cases hq
    · have c := p5' k (by omega)
      refine c.eq (fun f _ => eD k f z) rfl ?_ (fun f _ => nw_I z) ?_
      · rw [nw_C, if_neg z]
        exact c.ch.eq rfl (fun x => eC x 6 (by decide) (by decide) (by decide) (by decide) (by decide))
      · rw [nw_R, if_neg z]
  · rw [nw_N] at hk
    rw [nw_R]
    by_cases z : k = wN W
    · rw [if_pos z]
    · rw [if_neg z]; exact p6 k (by omega)
  · rw [nw_N]; omega
/-- a crate that was just made, put into crate j -/
theorem PX.ne {ta go j : Nat} {e : Option Nat} (h : PX Y W) (hm : wN W < 9) (hj : j < wN W) (h1 : ta ≤ 50) (h2 : go ≤ 500) (hd : dp Y j < 5) : PX (neY (acY Y (wN W) (nI (wN W + 1)) (nI ta) (nI go)) (wN W) j) (hangW (newW W (nI ta) (nI go)) (wN W) j e) := by
  have hx := h.cr hm h1 h2
  have hpv0 := h.1
  have hdy := hpv0.dy.ne (nm := nI (wN W + 1)) (ta := nI ta) (go := nI go) (by omega) hj (show nI (dp Y j) < nI 5 from nI_lt hd (by decide))
  have hac := hpv0.ac (nm := nI (wN W + 1)) h.2.1 (show wN W < 16 by omega) h1 h2
  have hne := hac.ne (i := wN W) (o := j) (by have := h.2.2.2.2.2.2.1; omega) (by omega) (by omega) hdy.2.2.2.2.2.1
  have hn : yP (acY Y (wN W) (nI (wN W + 1)) (nI ta) (nI go)) (wN W) = none := by
    cases e : yP (acY Y (wN W) (nI (wN W + 1)) (nI ta) (nI go)) (wN W) with
    | none => rfl
    | some j => have := hpv0.p (show wN W < 16 by omega) e; omega
  generalize acY Y (wN W) (nI (wN W + 1)) (nI ta) (nI go) = A at hx hne hn hac ⊢
  obtain ⟨p1, p2, p3, p4, ⟨p5, p5'⟩, p6, p7, p8⟩ := hx
  have hV0 : wN (newW W (nI ta) (nI go)) = wN W + 1 := rfl
  have hVP : wP (newW W (nI ta) (nI go)) (wN W) = none := if_pos rfl
  generalize newW W (nI ta) (nI go) = V at p1 p4 p5 p5' p6 p7 hV0 hVP ⊢
  obtain ⟨t, ht, ht8, hts, -⟩ := p1.s
  have e8 : yF A 8 + 1 = nI (t + 1) := by rw [ht8, nI_s1]
  have hs : ∀ c, c < 16 → (yC A c 6).toInt < (yF A 8 + 1).toInt := by
    intro c hc
    obtain ⟨s, h1, h2, -⟩ := hts c hc
    rw [h2, e8, nI_toInt (by omega), nI_toInt (by omega)]
    omega
  have e0 : neY0 A (wN W) j = uC (uF (uP A (wN W) (some j)) 8 (yF A 8 + 1)) (wN W) 6 (yF A 8 + 1) := by
    have q1 : neY0 A (wN W) j = uC (uF (uP (awO 5 A (yP A (wN W)) (-(yC A (wN W) 4))) (wN W) (some j)) 8 (yF (awO 5 A (yP A (wN W)) (-(yC A (wN W) 4))) 8 + 1)) (wN W) 6 (yF (awO 5 A (yP A (wN W)) (-(yC A (wN W) 4))) 8 + 1) := rfl
    rw [q1, hn]
    rfl
  have pN : ∀ c, yP (neY0 A (wN W) j) c = if c = wN W then some j else yP A c := fun c => by rw [e0]; rfl
  have cN : ∀ c f, yC (neY0 A (wN W) j) c f = if c = wN W ∧ f = 6 then yF A 8 + 1 else yC A c f := fun c f => by rw [e0]; rfl
  have lN : yL (neY0 A (wN W) j) = yL A := by rw [e0]; rfl
  have hp16 : ∀ i, i < 16 → ∀ y, yP (neY0 A (wN W) j) i = some y → y < 16 := fun i hi y q => by
    rw [pN] at q
    by_cases z : i = wN W
    · rw [if_pos z] at q; cases q; omega
    · rw [if_neg z] at q; exact p1.p16 i hi y q
  have zN : ZR (neY0 A (wN W) j) := fun i hi => by
    rw [cN, cN, cN, lN, if_neg (by omega), if_neg (by omega), if_neg (by omega)]
    exact p2 i hi
  obtain ⟨w1, w2, w3⟩ := aw_z (x := yC (neY0 A (wN W) j) (wN W) 4) 6 (neY0 A (wN W) j) (some j) zN hp16 (fun k q => by cases q; omega)
  have aw := aw_st 6 (neY0 A (wN W) j) (some j) (yC (neY0 A (wN W) j) (wN W) 4)
  have hC : ∀ c f, f ≠ 4 → f ≠ 6 → yC (neY A (wN W) j) c f = yC A c f := fun c f q4 q6 => by
    show yC (awO 6 (neY0 A (wN W) j) (some j) _) c f = _
    rw [w1 c f q4, cN, if_neg (fun z => q6 z.2)]
  have hL : ∀ c f, yL (neY A (wN W) j) c f = yL A c f := fun c f => by
    show yL (awO 6 (neY0 A (wN W) j) (some j) _) c f = _
    rw [w2, lN]
  have hP : ∀ c, yP (neY A (wN W) j) c = if c = wN W then some j else yP A c := fun c => by
    show yP (awO 6 (neY0 A (wN W) j) (some j) _) c = _
    rw [aw.2.2.2]; exact pN c
  have h6 : ∀ c, yC (neY A (wN W) j) c 6 = if c = wN W then yF A 8 + 1 else yC A c 6 := fun c => by
    show yC (awO 6 (neY0 A (wN W) j) (some j) _) c 6 = _
    rw [w1 c 6 (by decide), cN]
    by_cases z : c = wN W
    · rw [if_pos ⟨z, rfl⟩, if_pos z]
    · rw [if_neg (fun q => z q.1), if_neg z]
  have hNh : wN (hangW V (wN W) j e) = wN V := rfl
  refine ⟨by rw [hNh, hV0]; exact hne, fun i hi => ?_, fun f hf => ?_, fun i hi => ?_, ⟨?_, fun k hk => ?_⟩, fun k hk => p6 k hk, by rw [hNh]; exact p7, ?_⟩
  · rw [hC i 8 (by decide) (by decide), hC i 11 (by decide) (by decide), hC i 12 (by decide) (by decide), hL, hL]
    exact p2 i hi
  · show yT (awO 6 (neY0 A (wN W) j) (some j) _) f = 0
    rw [w3, e0]
    exact p3 f hf
  · rw [hC i 1 (by decide) (by decide), hNh]
    exact p4 i hi
  · funext c
    rw [hP, p5]
    rfl
  · have c := p5' k hk
    refine c.eq (fun f hf => hC k f (by omega) (by omega)) (hL k 9) ?_ (fun f _ => rfl) rfl
    show ChR (neY A (wN W) j) k (if k = j then wC V j ++ [wN W] else wC V k)
    have ch := c.ch
    have ni : ∀ x, x ∈ wC V k → x ≠ wN W := fun x hx z => by
      have := ((ch.1 x).mp hx).2
      rw [z, hn] at this
      cases this
    have pw : (wC V k).Pairwise (fun a b => (yC (neY A (wN W) j) a 6).toInt < (yC (neY A (wN W) j) b 6).toInt) := by
      refine List.Pairwise.imp_of_mem ?_ ch.2
      intro a b ha hb hlt
      rw [h6, h6, if_neg (ni a ha), if_neg (ni b hb)]
      exact hlt
    by_cases z : k = j
    · subst z
      rw [if_pos rfl]
      refine ⟨fun x => ?_, List.pairwise_append.mpr ⟨pw, List.pairwise_singleton _ _, fun a ha b hb => ?_⟩⟩
      · rw [List.mem_append, List.mem_singleton, ch.1 x, hP]
        constructor
        · rintro (⟨a, b⟩ | rfl)
          · exact ⟨a, by rw [if_neg (ni x ((ch.1 x).mpr ⟨a, b⟩))]; exact b⟩
          · exact ⟨by omega, if_pos rfl⟩
        · rintro ⟨a, b⟩
          by_cases w : x = wN W
          · exact Or.inr w
          · rw [if_neg w] at b; exact Or.inl ⟨a, b⟩
      · rw [List.mem_singleton.mp hb, h6, h6, if_neg (ni a ha), if_pos rfl]
        exact hs a ((ch.1 a).mp ha).1
    · rw [if_neg z]
      refine ⟨fun x => ?_, pw⟩
      rw [ch.1 x, hP]
      constructor
      · rintro ⟨a, b⟩
        exact ⟨a, by rw [if_neg (ni x ((ch.1 x).mpr ⟨a, b⟩))]; exact b⟩
      · rintro ⟨a, b⟩
        by_cases w : x = wN W
        · rw [if_pos w] at b; exact absurd (Option.some.inj b).symm z
        · rw [if_neg w] at b; exact ⟨a, b⟩
  · refine ⟨?_, ?_⟩
    · show yF (awO 6 (neY0 A (wN W) j) (some j) _) 6 = 2
      rw [aw.2.1, e0]
      exact p8.1
    · show yS (awO 6 (neY0 A (wN W) j) (some j) _) 3 = 0
      rw [aw.1, e0]
      exact p8.2
def emW : LW := (0, fun _ _ => 0, fun _ => none, fun _ => [], fun _ => [], fun _ => none, fun _ => 0)
theorem PX.bl : PX blY emW := by
  have cz : ∀ i f, f ≠ 0 → yC blY i f = 0 := fun i f hf => if_neg hf
  refine ⟨⟨⟨fun i hi => Or.inl rfl, fun i hi => trivial, by decide, by decide, rfl, rfl, fun i hi _ => rfl, fun j hj _ => rfl, fun i j hi e => by cases e⟩, fun i hi => ?_, ⟨0, Nat.le_refl _, rfl, fun i hi => ⟨0, Nat.le_refl _, rfl, Or.inl rfl⟩, fun i hi j hj => Or.inl rfl⟩, fun i hi => ⟨0, 0, rfl, by decide, rfl, by decide⟩, fun i hi => ⟨0, 0, rfl, Nat.le_refl _, rfl, Nat.le_refl _, ?_, ?_, ?_⟩, ⟨⟨1, rfl, by decide⟩, ⟨5, rfl, by decide⟩, ⟨50, rfl, by decide, by decide⟩, 0, rfl, Nat.le_refl _⟩, ⟨fun i hi _ => rfl, fun j hj _ => ⟨rfl, rfl⟩⟩, 2, rfl, by decide, by decide⟩, fun i hi => ⟨rfl, rfl, rfl, rfl, rfl⟩, fun _ _ => rfl, fun i hi => rfl, ⟨rfl, fun k hk => absurd hk (Nat.not_lt_zero _)⟩, fun k hk => absurd hk (Nat.not_lt_zero _), by decide, rfl, rfl⟩
  · rw [sm_z fun c hc => if_neg fun e => by cases e]; rfl
  · rw [cz i 12 (by decide)]; decide
  · rw [cz i 12 (by decide)]; decide
  · rw [cz i 12 (by decide)]; rfl
/-- the text read so far makes the draft Y -/
def PTX (Y : Yd) (k : Nat) (O : List Int32) : Prop := ∀ (b : Nat → Int32) (n f : Nat), bA b 0 O → O.length ≤ n → suP b n (f + k) 0 blY = suP b n f O.length Y
end NWS
