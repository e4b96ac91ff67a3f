/-! what holds of every yard is kept: trees -/
section PVT
variable {Y Z : Yd} {m b T T' : Nat}
theorem in_6 {P : Nat → Option Nat} {n i c : Nat} : inO (n + 1) P (some i) c = if i = c then true else inO n P (P i) c := rfl
theorem in_n {P : Nat → Option Nat} {n i c : Nat} (h : ¬ i = c) : inO (n + 1) P (some i) c = inO n P (P i) c := if_neg h
theorem in_y {P : Nat → Option Nat} {n i : Nat} : inO (n + 1) P (some i) i = true := if_pos rfl
theorem no_up {P : Nat → Option Nat} (hP : ∀ i, i < 16 → ∀ j, P i = some j → j < 16) (hA : ∀ i, i < 16 → itO P 6 (some i) = none) {n i : Nat} (hi : i < 16) : ¬ inO n P (P i) i = true := by
  intro q
  obtain ⟨a, _, e⟩ := (inO_i n _).mp q
  have h1 : itO P (a + 1) (some i) = some i := e
  have := it_un (P := P) (N := 16) hP hA hi h1 (show itO P 0 (some i) = some i from rfl)
  omega
theorem no_dn {P : Nat → Option Nat} (hP : ∀ i, i < 16 → ∀ j, P i = some j → j < 16) (hA : ∀ i, i < 16 → itO P 6 (some i) = none) {n i c : Nat} (hi : i < 16) (hc : P c = some i) : ¬ inO n P (some i) c = true := by
  intro q
  obtain ⟨a, _, e⟩ := (inO_i n _).mp q
  have h1 : itO P (a + 1) (some i) = some i := by
    rw [it_a, e]
    show itO P 1 (some c) = some i
    show itO P 0 (P c) = some i
    rw [hc]; rfl
  have := it_un (P := P) (N := 16) hP hA hi h1 (show itO P 0 (some i) = some i from rfl)
  omega
/-- a crate taken out: the weights of those above fall by its own -/
theorem lg_cut {P : Nat → Option Nat} (hP : ∀ i, i < 16 → ∀ j, P i = some j → j < 16) (hA : ∀ i, i < 16 → itO P 6 (some i) = none) {g own : Nat → Int32} (h : ∀ j, j < 16 → g j = own j + sm (fun c => if P c = some j then g c else 0) 16) {i : Nat} (hi : i < 16) {g1 : Nat → Int32} (e1 : ∀ j, g1 j = g j + if inO 5 P (P i) j = true then -(g i) else 0) : (∀ j, j < 16 → g1 j = own j + sm (fun c => if (if c = i then none else P c) = some j then g1 c else 0) 16) ∧ g1 i = g i := by
  have gi : g1 i = g i := by rw [e1, if_neg (no_up hP hA hi)]; exact az _
  refine ⟨fun j hj => ?_, gi⟩
  have k := sm_cg (P := P) (N := 16) hP hA h hi (-(g i)) j hj
  by_cases z : j = i
  · subst z
    rw [gi, h j hj]
    refine congrArg (HAdd.hAdd _) (sm_c fun c _ => ?_)
    by_cases w : c = j
    · subst w
      rw [if_pos rfl, if_neg (fun q : (none : Option Nat) = some c => nomatch q)]
      by_cases y : P c = some c
      · exact absurd (show inO 1 P (P c) c = true by rw [y]; simp [inO]) (no_up hP hA hj)
      · rw [if_neg y]
    · rw [if_neg w]
      by_cases y : P c = some j
      · rw [if_pos y, if_pos y, e1, if_neg (fun q => no_dn hP hA (n := 6) hj y (by rw [in_6, if_neg (fun e => w e.symm)]; exact q))]
        exact (az _).symm
      · rw [if_neg y, if_neg y]
  · rw [in_n (fun e => z e.symm), if_neg (show ¬ i = j from fun e => z e.symm), ← e1, az] at k
    rw [k]
    refine congrArg (HAdd.hAdd _) (sm_c fun c _ => ?_)
    by_cases w : c = i
    · subst w
      rw [if_neg (show ¬ (if c = c then none else P c) = some j by rw [if_pos rfl]; exact fun q => nomatch q), in_y, if_pos (rfl : true = true)]
      split
      · exact Int32.add_right_neg _
      · rfl
    · rw [if_neg w, in_n (fun e => w e.symm), ← e1]
/-- a crate put in: the weights of those above grow by its own -/
theorem lg_hang {P : Nat → Option Nat} {i o : Nat} (hP : ∀ x, x < 16 → ∀ j, (if x = i then some o else P x) = some j → j < 16) (hA : ∀ x, x < 16 → itO (fun x => if x = i then some o else P x) 6 (some x) = none) {g own : Nat → Int32} (h : ∀ j, j < 16 → g j = own j + sm (fun c => if (if c = i then none else P c) = some j then g c else 0) 16) (hi : i < 16) {g2 : Nat → Int32} (e2 : ∀ j, g2 j = g j + if inO 6 (fun x => if x = i then some o else P x) (some o) j = true then g i else 0) : ∀ j, j < 16 → g2 j = own j + sm (fun c => if (if c = i then some o else P c) = some j then g2 c else 0) 16 := by
  have hz : ∀ j, j < 16 → (if j = i then 0 else g j) = (own j + if j = i then -(g i) else 0) + sm (fun c => if (if c = i then some o else P c) = some j then (if c = i then 0 else g c) else 0) 16 := by
    intro j hj
    have es : sm (fun c => if (if c = i then some o else P c) = some j then (if c = i then 0 else g c) else 0) 16 = sm (fun c => if (if c = i then none else P c) = some j then g c else 0) 16 := by
      refine sm_c fun c _ => ?_
      by_cases w : c = i
      · rw [if_pos w, if_pos w, if_pos w, if_neg (fun q : (none : Option Nat) = some j => nomatch q)]
        split <;> rfl
      · rw [if_neg w, if_neg w, if_neg w]
    rw [es]
    by_cases z : j = i
    · subst z
      rw [if_pos rfl, if_pos rfl, aa, ac (-(g j)), ← aa, ← h j hj]
      exact (Int32.add_right_neg _).symm
    · rw [if_neg z, if_neg z, az, ← h j hj]
  have st5 : ∀ c, inO 5 (fun x => if x = i then some o else P x) (some o) c = inO 6 (fun x => if x = i then some o else P x) (some o) c := by
    intro c
    have a5 : itO (fun x => if x = i then some o else P x) 5 (some o) = none := by
      have := hA i hi
      rw [show itO (fun x => if x = i then some o else P x) 6 (some i) = itO (fun x => if x = i then some o else P x) 5 (if i = i then some o else P i) from rfl, if_pos rfl] at this
      exact this
    exact inO_st 5 6 (some o) ((acy_i 5 _).mpr a5) ((acy_i 6 _).mpr (it_le a5 (by omega)))
  have ex : ∀ j, (if j = i then 0 else g j) + (if inO 6 (fun x => if x = i then some o else P x) (some i) j = true then g i else 0) = g2 j := by
    intro j
    rw [e2]
    by_cases z : j = i
    · subst z
      rw [if_pos rfl, in_y, if_pos (rfl : true = true), za, if_neg, az]
      have := no_up (P := fun x => if x = j then some o else P x) (n := 6) hP hA hi
      rw [if_pos rfl] at this
      exact this
    · rw [if_neg z, in_n (fun e => z e.symm), show (if i = i then some o else P i) = some o from if_pos rfl, st5]
  intro j hj
  have k := sm_cg (P := fun x => if x = i then some o else P x) (N := 16) hP hA hz hi (g i) j hj
  rw [ex] at k
  rw [k]
  refine congr (congrArg HAdd.hAdd ?_) (sm_c fun c _ => ?_)
  · by_cases z : j = i
    · subst z
      rw [if_pos rfl, if_pos rfl, aa, show -(g j) + g j = 0 from Int32.add_left_neg _, az]
    · rw [if_neg z, if_neg (fun e => z e.symm), az, az]
  · rw [ex]
/-- the same yard but for weights, readings, parents, stamps -/
theorem PV.tree {t : Nat} (h : PV Y m b T) (h7 : ∀ i f, (f = 1 ∨ f = 2 ∨ f = 7) → yC Z i f = yC Y i f) (hB : yB Z = yB Y) (hS : yS Z = yS Y) (hF : ∀ f, f ≠ 8 → yF Z f = yF Y f) (hD : PD Z) (hE : ∀ j, j < 16 → eqE Y Z j) (hL : LG Z) (hA : Acy Z) (hp : ∀ i j, i < 16 → yP Z i = some j → i < m ∧ j < m) (hs : PS Z t) (ht : T ≤ t) : PV Z m b t := by
  obtain ⟨⟨a1, a2, a3⟩, l, s, d, e, f, z, q⟩ := h
  obtain ⟨c1, c2, c3, c4, c5, c6, c7⟩ := a3
  refine ⟨⟨fun i hi => by rw [h7 i 7 (by omega)]; exact a1 i hi, hA, c1, c2, by rw [hF 4 (by omega)]; exact c3, by rw [hF 5 (by omega)]; exact c4, fun i hi hm => by rw [h7 i 1 (by omega)]; exact c5 i hi hm, by rw [hB]; exact c6, hp⟩, hL, hs, hD, fun i hi => ((e i hi).eq (hE i hi)).mono ht, ?_, z.eq (fun i hi w => (hE i hi).z8 w) hB, by rw [hF 6 (by omega)]; exact q⟩
  unfold PF at f ⊢
  rw [hS]
  obtain ⟨f1, f2, f3, e9, f4, f5⟩ := f
  exact ⟨f1, f2, f3, e9, f4, by omega⟩
theorem PD.eq (h : PD Y) (e : ∀ i f, (f = 2 ∨ f = 3) → yC Z i f = yC Y i f) : PD Z := fun i hi => by
  rw [e i 2 (by omega), e i 3 (by omega)]
  exact h i hi
theorem PV.cg {i go : Nat} {w : Int32} (h : PV Y m b T) (hi : i < 16) (hw : yC Y i 3 + w = nI go) (hg : go ≤ 500) : PV (cgY Y i w) m b T := by
  have e4 : ∀ j, yC (cgY Y i w) j 4 = yC Y j 4 + if inO 6 (yP Y) (some i) j = true then w else 0 := fun j => by
    have q := aw_4 (w := w) 6 (uC Y i 3 (yC Y i 3 + w)) (some i) h.p16 h.i6 (fun k e => by cases e; exact hi) j
    rw [yC_uC, if_neg (by omega)] at q
    exact q
  have e3 : ∀ j, yC (cgY Y i w) j 3 = if j = i then yC Y i 3 + w else yC Y j 3 := fun j => by
    rw [cgY, y7_awO _ _ _ _ _ _ (by omega), yC_uC]
    by_cases z : j = i
    · rw [if_pos ⟨z, rfl⟩, if_pos z]
    · rw [if_neg (fun q => z q.1), if_neg z]
  have e7 : ∀ j f, (f = 1 ∨ f = 2 ∨ f = 6 ∨ f = 7) → yC (cgY Y i w) j f = yC Y j f := fun j f hf => by
    rw [cgY, y7_awO _ _ _ _ _ _ (by omega), yC_uC, if_neg (by omega)]
  obtain ⟨s1, s2, s3, s4⟩ := aw_st 6 (uC Y i 3 (yC Y i 3 + w)) (some i) w
  have eP : yP (cgY Y i w) = yP Y := yP_cgY Y i w
  refine h.tree (fun j f hf => e7 j f (by omega)) s3 s1 (fun f _ => congrFun s2 f) ?_ (fun j _ => ?_) ?_ (acy_eq eP h.acy) (by rw [eP]; exact fun i j hi e => h.p hi e) ?_ (Nat.le_refl T)
  · intro j hj
    obtain ⟨ta, go2, d1, d2, d3, d4⟩ := h.d j hj
    rw [e7 j 2 (by omega), e3]
    split
    · exact ⟨ta, go, d1, d2, hw, hg⟩
    · exact ⟨ta, go2, d1, d2, d3, d4⟩
  · have q : eqE Y (uC Y i 3 (yC Y i 3 + w)) j := Or.inr ⟨by rw [yC_uC, if_neg (by omega)], by rw [yC_uC, if_neg (by omega)], rfl, rfl, by rw [yC_uC, if_neg (by omega)]⟩
    exact q.tr (eqE_awO 6 _ _ _ j)
  · intro j hj
    have k := sm_cg (P := yP Y) (N := 16) h.p16 h.i6 (g := fun j => yC Y j 4) (own := fun j => yC Y j 2 + yC Y j 3) (fun j hj => h.l j hj) hi w j hj
    rw [eP, e4, e3, e7 j 2 (by omega), sm_c (g := fun c => if yP Y c = some j then yC Y c 4 + (if inO 6 (yP Y) (some i) c = true then w else 0) else 0) (fun c _ => by rw [e4]), k]
    refine congrArg (fun q => q + _) ?_
    by_cases z : j = i
    · rw [if_pos z, if_pos z.symm, aa, z]
    · rw [if_neg z, if_neg (fun e => z e.symm), az]
  · obtain ⟨t, t1, t2, t3, t4⟩ := h.s
    refine ⟨t, t1, by rw [show yF (cgY Y i w) = yF Y from s2]; exact t2, fun k hk => ?_, fun k hk j hj => ?_⟩
    · rw [e7 k 6 (by omega), eP]; exact t3 k hk
    · rw [e7 k 6 (by omega), e7 j 6 (by omega), eP]; exact t4 k hk j hj
theorem PV.uo {i : Nat} (h : PV Y m b T) (hi : i < 16) : PV (unY Y i) m b T := by
  have e4 : ∀ j, yC (unY Y i) j 4 = yC Y j 4 + if inO 5 (yP Y) (yP Y i) j = true then -(yC Y i 4) else 0 := fun j => aw_4 5 Y (yP Y i) h.p16 h.i6 (fun k e => h.p16 i hi k e) j
  have e7 : ∀ j f, (f = 1 ∨ f = 2 ∨ f = 3 ∨ f = 6 ∨ f = 7) → yC (unY Y i) j f = yC Y j f := fun j f hf => y7_awO 5 Y (yP Y i) _ j f (by omega)
  obtain ⟨s1, s2, s3, s4⟩ := aw_st 5 Y (yP Y i) (-(yC Y i 4))
  have eP : ∀ j, yP (unY Y i) j = if j = i then none else yP Y j := fun j => by
    show (if j = i then none else yP (awO 5 Y (yP Y i) (-(yC Y i 4))) j) = _
    rw [s4]
  refine h.tree (fun j f hf => e7 j f (by omega)) s3 s1 (fun f _ => congrFun s2 f) (h.d.eq fun j f hf => e7 j f (by omega)) (fun j _ => ?_) ?_ (acy_un h.acy) (fun x j hx e => ?_) ?_ (Nat.le_refl T)
  · exact eqE_awO 5 _ _ _ j
  · intro j hj
    have k := (lg_cut (P := yP Y) h.p16 h.i6 (g := fun j => yC Y j 4) (own := fun j => yC Y j 2 + yC Y j 3) (fun j hj => h.l j hj) hi (g1 := fun j => yC (unY Y i) j 4) e4).1 j hj
    rw [e7 j 2 (by omega), e7 j 3 (by omega)]
    exact k.trans (congrArg (HAdd.hAdd _) (sm_c fun c _ => by rw [eP]))
  · rw [eP] at e
    split at e
    · cases e
    · exact h.p hx e
  · obtain ⟨t, t1, t2, t3, t4⟩ := h.s
    refine ⟨t, t1, by rw [show yF (unY Y i) = yF Y from s2]; exact t2, fun k hk => ?_, fun k hk j hj => ?_⟩
    · rw [e7 k 6 (by omega), eP]
      obtain ⟨s, u1, u2, u3⟩ := t3 k hk
      refine ⟨s, u1, u2, ?_⟩
      split
      · exact Or.inl rfl
      · exact u3
    · rw [e7 k 6 (by omega), e7 j 6 (by omega), eP, eP]
      rcases t4 k hk j hj with u | u | u
      · left
        split
        · rfl
        · exact u
      · right; left
        split
        · rfl
        · exact u
      · exact Or.inr (Or.inr u)
theorem PV.ne {i o : Nat} (h : PV Y m b T) (hT : T < 2 ^ 31 - 1) (hi : i < m) (ho : o < m) (hA2 : Acy (neY Y i o)) : PV (neY Y i o) m b (T + 1) := by
  have hm := h.m16
  have hi16 : i < 16 := by omega
  obtain ⟨s1, s2, s3, s4⟩ := aw_st 5 Y (yP Y i) (-(yC Y i 4))
  obtain ⟨q1, q2, q3, q4⟩ := aw_st 6 (neY0 Y i o) (some o) (yC (neY0 Y i o) i 4)
  have eP := yP_neY Y i o
  have eP0 := yP_neY0 Y i o
  have eq : ∀ x, yP (neY Y i o) x = if x = i then some o else yP Y x := fun x => congrFun eP x
  have hP2 : ∀ x, x < 16 → ∀ j, (if x = i then some o else yP Y x) = some j → j < 16 := fun x hx j e => by
    split at e
    · cases e; omega
    · exact h.p16 x hx j e
  have hI2 : ∀ x, x < 16 → itO (fun x => if x = i then some o else yP Y x) 6 (some x) = none := fun x hx => by
    have := it_6 hA2 hx
    rw [eP] at this
    exact this
  have c0 : ∀ j f, f ≠ 6 → yC (neY0 Y i o) j f = yC (awO 5 Y (yP Y i) (-(yC Y i 4))) j f := fun j f hf => by
    show (if j = i ∧ f = 6 then _ else yC (awO 5 Y (yP Y i) (-(yC Y i 4))) j f) = _
    rw [if_neg (fun q => hf q.2)]
  have g1 : ∀ j, yC (neY0 Y i o) j 4 = yC Y j 4 + if inO 5 (yP Y) (yP Y i) j = true then -(yC Y i 4) else 0 := fun j => by
    rw [c0 j 4 (by omega)]
    exact aw_4 5 Y (yP Y i) h.p16 h.i6 (fun k e => h.p16 i hi16 k e) j
  have g2 : ∀ j, yC (neY Y i o) j 4 = yC (neY0 Y i o) j 4 + if inO 6 (fun x => if x = i then some o else yP Y x) (some o) j = true then yC (neY0 Y i o) i 4 else 0 := fun j => by
    have := aw_4 (w := yC (neY0 Y i o) i 4) 6 (neY0 Y i o) (some o) (by rw [eP0]; exact hP2) (by rw [eP0]; exact hI2) (fun k e => by cases e; omega) j
    rw [eP0] at this
    exact this
  have e7 : ∀ j f, (f = 1 ∨ f = 2 ∨ f = 3 ∨ f = 7) → yC (neY Y i o) j f = yC Y j f := fun j f hf => y7_neY Y i o j f (by omega)
  refine h.tree (fun j f hf => e7 j f (by omega)) (yB_neY Y i o) (q1.trans s1) (fun f hf => yF_neY Y i o f hf) (h.d.eq fun j f hf => e7 j f (by omega)) (fun j _ => ?_) ?_ hA2 (fun x j hx e => ?_) ?_ (Nat.le_succ T)
  · have u0 : eqE Y (neY0 Y i o) j := by
      rcases eqE_awO 5 Y (yP Y i) (-(yC Y i 4)) j with u | u
      · left
        rw [c0 j 8 (by omega), c0 j 12 (by omega)]
        exact u
      · right
        rw [c0 j 4 (by omega), c0 j 8 (by omega), c0 j 12 (by omega)]
        exact u
    exact u0.tr (eqE_awO 6 _ _ _ j)
  · have L1 := (lg_cut (P := yP Y) h.p16 h.i6 (g := fun j => yC Y j 4) (own := fun j => yC Y j 2 + yC Y j 3) (fun j hj => h.l j hj) hi16 (g1 := fun j => yC (neY0 Y i o) j 4) g1).1
    have L2 := lg_hang (P := yP Y) hP2 hI2 L1 hi16 (g2 := fun j => yC (neY Y i o) j 4) g2
    intro j hj
    rw [e7 j 2 (by omega), e7 j 3 (by omega), eP]
    exact L2 j hj
  · rw [eq] at e
    by_cases z : x = i
    · rw [if_pos z] at e
      cases e
      omega
    · rw [if_neg z] at e
      exact h.p hx e
  · obtain ⟨t, t1, t2, t3, t4⟩ := h.s
    have n8 : yF (neY Y i o) 8 = nI (t + 1) := by
      rw [show yF (neY Y i o) = yF (neY0 Y i o) from q2]
      show yF (awO 5 Y (yP Y i) (-(yC Y i 4))) 8 + 1 = _
      rw [s2, t2, nI_s1]
    have n6 : ∀ j, yC (neY Y i o) j 6 = if j = i then nI (t + 1) else yC Y j 6 := fun j => by
      show yC (awO 6 (neY0 Y i o) (some o) (yC (neY0 Y i o) i 4)) j 6 = _
      rw [y7_awO _ _ _ _ _ _ (by omega)]
      show (if j = i ∧ 6 = 6 then yF (awO 5 Y (yP Y i) (-(yC Y i 4))) 8 + 1 else yC (awO 5 Y (yP Y i) (-(yC Y i 4))) j 6) = _
      rw [y7_awO _ _ _ _ _ _ (by omega), s2, t2, nI_s1]
      by_cases z : j = i
      · rw [if_pos ⟨z, rfl⟩, if_pos z]
      · rw [if_neg (fun q => z q.1), if_neg z]
    refine ⟨t + 1, by omega, n8, fun k hk => ?_, fun k hk j hj => ?_⟩
    · rw [n6]
      by_cases z : k = i
      · rw [if_pos z]
        exact ⟨t + 1, Nat.le_refl _, rfl, Or.inr (by omega)⟩
      · rw [if_neg z, eq]
        obtain ⟨s, u1, u2, u3⟩ := t3 k hk
        refine ⟨s, by omega, u2, ?_⟩
        rw [if_neg z]
        exact u3
    · rw [n6, n6, eq, eq]
      by_cases z : k = i
      · by_cases y : j = i
        · exact Or.inr (Or.inr fun _ => z.trans y.symm)
        · simp only [if_pos z, if_neg y]
          obtain ⟨s, u1, u2, u3⟩ := t3 j hj
          refine Or.inr (Or.inr fun q => ?_)
          rw [u2] at q
          have := (nI_inj (by omega) (by omega)).mp q
          omega
      · by_cases y : j = i
        · simp only [if_neg z, if_pos y]
          obtain ⟨s, u1, u2, u3⟩ := t3 k hk
          refine Or.inr (Or.inr fun q => ?_)
          rw [u2] at q
          have := (nI_inj (by omega) (by omega)).mp q
          omega
        · simp only [if_neg z, if_neg y]
          exact t4 k hk j hj
theorem PV.tr {c j : Nat} (h : PV Y m b T) (hj : j < b) : PV (trY Y c j) m b T := by
  obtain ⟨o1, o2, o3, o4, o5, o6, o7, o8⟩ := saF_o c 16 0 (trY0 Y c j)
  have e1 : ∀ a f, f ≠ 7 → yC (trY Y c j) a f = yC Y a f := fun a f hf => o7 a f hf
  have e2 : yL (trY Y c j) = yL Y := o1
  have e3 : yP (trY Y c j) = yP Y := o2
  have e4 : ∀ a f, (a ≠ j ∨ (f ≠ 2 ∧ f ≠ 4 ∧ f ≠ 5)) → yB (trY Y c j) a f = yB Y a f := fun a f hf => by
    rw [show yB (trY Y c j) = yB (trY0 Y c j) from o3]
    show (if a = j ∧ f = 5 then _ else if a = j ∧ f = 2 then _ else if a = j ∧ f = 4 then _ else yB Y a f) = _
    rw [if_neg (by omega), if_neg (by omega), if_neg (by omega)]
  have e5 : yF (trY Y c j) = yF Y := o6
  have e6 : yS (trY Y c j) = yS Y := o4
  obtain ⟨⟨a1, a2, a3⟩, l, s, d, e, f, z, q⟩ := h
  obtain ⟨c1, c2, c3, c4, c5, c6, c7⟩ := a3
  refine ⟨⟨fun i hi => ?_, acy_eq e3 a2, c1, c2, by rw [e5]; exact c3, by rw [e5]; exact c4, fun i hi hm => by rw [e1 i 1 (by omega)]; exact c5 i hi hm, fun k hk hb => by rw [e4 k 1 (by omega)]; exact c6 k hk hb, by rw [e3]; exact c7⟩, fun i hi => ?_, ?_, d.eq fun i f hf => e1 i f (by omega), fun i hi => (e i hi).eq (Or.inr ⟨e1 i 4 (by omega), e1 i 8 (by omega), by rw [e2], by rw [e2], e1 i 12 (by omega)⟩), by unfold PF at f ⊢; rw [e6]; exact f, ⟨fun i hi hm => by rw [e1 i 8 (by omega)]; exact z.1 i hi hm, fun k hk hb => by rw [e4 k 2 (by omega), e4 k 4 (by omega)]; exact z.2 k hk hb⟩, by rw [e5]; exact q⟩
  · rw [show yC (trY Y c j) i 7 = _ from o8 i]
    split
    · exact Or.inl rfl
    · exact a1 i hi
  · rw [e1 i 4 (by omega), e1 i 2 (by omega), e1 i 3 (by omega), e3, l i hi]
    exact congrArg (HAdd.hAdd _) (sm_c fun k _ => by rw [e1 k 4 (by omega)])
  · obtain ⟨t, t1, t2, t3, t4⟩ := s
    refine ⟨t, t1, by rw [e5]; exact t2, fun k hk => ?_, fun k hk j hj => ?_⟩
    · rw [e1 k 6 (by omega), e3]; exact t3 k hk
    · rw [e1 k 6 (by omega), e1 j 6 (by omega), e3]; exact t4 k hk j hj
end PVT
