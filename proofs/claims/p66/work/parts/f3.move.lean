/-! crates taken out and put in: both yards stay alike -/
theorem aw_6 : ∀ (n : Nat) (Y : Yd) (o : Option Nat) (w : Int32) (i f : Nat), f ≠ 4 → f ≠ 8 → f ≠ 11 → f ≠ 12 → yC (awO n Y o w) i f = yC Y i f := by
  intro n
  induction n with
  | zero => intro Y o w i f _ _ _ _; rfl
  | succ n ih =>
    intro Y o w i f h4 h8 h11 h12
    cases o with
    | none => rfl
    | some j =>
      show yC (awO n (awC Y j w) (yP Y j) w) i f = _
      rw [ih _ _ _ _ _ h4 h8 h11 h12, awC_C, if_neg (by omega), if_neg (by omega), if_neg (by omega), if_neg (by omega)]
theorem er_mem : ∀ (l : List Nat) (p i c : Nat), l.Nodup → l[p]? = some i → (c ∈ l.eraseIdx p ↔ c ∈ l ∧ c ≠ i) := by
  intro l
  induction l with
  | nil => intro p i c _ h; cases h
  | cons x l ih =>
    intro p i c hd h
    have hd2 := List.nodup_cons.mp hd
    cases p with
    | zero =>
      cases h
      show c ∈ l ↔ _
      rw [List.mem_cons]
      constructor
      · intro hc
        exact ⟨Or.inr hc, fun z => by subst z; exact hd2.1 hc⟩
      · rintro ⟨z | z, hn⟩
        · exact absurd z hn
        · exact z
    | succ p =>
      have h' : l[p]? = some i := h
      show c ∈ x :: l.eraseIdx p ↔ _
      rw [List.mem_cons, List.mem_cons, ih p i c hd2.2 h']
      constructor
      · rintro (z | ⟨z, hn⟩)
        · exact ⟨Or.inl z, fun q => hd2.1 (by rw [← z, q]; exact List.mem_of_getElem? h')⟩
        · exact ⟨Or.inr z, hn⟩
      · rintro ⟨z | z, hn⟩
        · exact Or.inl z
        · exact Or.inr ⟨z, hn⟩
theorem nd_at : ∀ (l : List Nat) (p q c : Nat), l.Nodup → l[p]? = some c → l[q]? = some c → p = q := by
  intro l
  induction l with
  | nil => intro p q c _ h; cases h
  | cons x l ih =>
    intro p q c hd h1 h2
    have hd2 := List.nodup_cons.mp hd
    cases p with
    | zero =>
      cases q with
      | zero => rfl
      | succ q => exact absurd (List.mem_of_getElem? (show l[q]? = some x from by rw [show x = c from Option.some.inj h1]; exact h2)) hd2.1
    | succ p =>
      cases q with
      | zero => exact absurd (List.mem_of_getElem? (show l[p]? = some x from by rw [show x = c from Option.some.inj h2]; exact h1)) hd2.1
      | succ q => exact congrArg Nat.succ (ih p q c hd2.2 h1 h2)
theorem uP_uP (A : Yd) (i : Nat) (a b : Option Nat) : uP (uP A i a) i b = uP A i b := by
  have e : (fun i' => if i' = i then b else (if i' = i then a else A.2.2.1 i')) = fun i' => if i' = i then b else A.2.2.1 i' := by
    funext i'
    by_cases z : i' = i
    · rw [if_pos z, if_pos z]
    · rw [if_neg z, if_neg z, if_neg z]
  show (A.1, A.2.1, (fun i' => if i' = i then b else (if i' = i then a else A.2.2.1 i')), A.2.2.2) = _
  rw [e]
  rfl
theorem vP_same {W : LW} {i : Nat} {o : Option Nat} (h : wP W i = o) : vP W i o = W := by
  subst h
  show (W.1, W.2.1, up1 W.2.2.1 i (W.2.2.1 i), W.2.2.2) = W
  rw [up1_same]
/-- readings forgotten from crate k on, and told -/
def fgY (n : Nat) (W : LW) (k : Nat) : LW := vY (fgF n W k).2 6 (wYs W 6 + (fgF n W k).1)
/-- crate i no longer among those of j -/
def cutW (W : LW) (j p : Nat) : LW := vCh (fgY 4 W j) j ((wC W j).eraseIdx p) (wE W (1 + 2 * j))
def hangW (V : LW) (i o : Nat) (e : Option Nat) : LW := vCh (vP V i (some o)) o (wC V o ++ [i]) e
section MOV
variable {Y A : Yd} {W V : LW} {T i j o p : Nat}
theorem fgY_f (n : Nat) (W : LW) (k : Nat) : wN (fgY n W k) = wN W ∧ wP (fgY n W k) = wP W ∧ wC (fgY n W k) = wC W ∧ wE (fgY n W k) = wE W ∧ (∀ f, f ≠ 6 → wYs (fgY n W k) f = wYs W f) ∧ (∀ i f, f ≠ 5 → wI (fgY n W k) i f = wI W i f) ∧ ∀ i, (wR (fgY n W k) i).length ≤ (wR W i).length := by
  have f := fgF_f n W k
  refine ⟨f.1, f.2.1, f.2.2.1, f.2.2.2.1, fun g hg => ?_, fun i g hg => f.2.2.2.2.2 i g hg, fun i => fgF_l n W k i⟩
  unfold fgY
  rw [vY_n hg, f.2.2.2.2.1]
theorem RY.forg {n k : Nat} {w : Int32} (h : RY Y W) (hk : k < wN W) (ha : acyO n (yP Y) (yP Y k)) (hp : ∀ i j, i < 16 → yP Y i = some j → i < wN W ∧ j < wN W) : RY (awO (n + 1) Y (some k) w) (fgY n W k) := by
  obtain ⟨q1, q2⟩ := fg_aw n Y W k w h.1 hk ha hp
  refine ⟨q1.vY6, ?_⟩
  unfold fgY
  rw [vY_s]
  refine q2.trans ?_
  rw [← h.2]
/-- crate i no longer inside j -/
theorem RY.cut {e : Option Nat} (h : RY A V) (hj : j < wN V) (hi : i < 16) (hp : yP A i = some j) (hx : (wC V j)[p]? = some i) : RY (uP A i none) (vP (vCh V j ((wC V j).eraseIdx p) e) i none) := by
  obtain ⟨⟨h1, h2, h3, h4, h5, h6⟩, h7⟩ := h
  have eP : ∀ c, yP (uP A i none) c = if c = i then none else yP A c := fun c => rfl
  refine ⟨⟨h1, h2, ?_, fun k hk => ?_, h5, h6⟩, h7⟩
  · funext c
    rw [eP, h3]
    rfl
  · have c := h4 k hk
    refine c.eq (fun f _ => rfl) rfl ?_ (fun f _ => rfl) rfl
    show ChR (uP A i none) k (if k = j then (wC V j).eraseIdx p else wC V k)
    have ch := c.ch
    by_cases z : k = j
    · subst z
      rw [if_pos rfl]
      refine ⟨fun x => ?_, ch.2.sublist (List.eraseIdx_sublist _ _)⟩
      rw [er_mem _ p i x ch.nd hx, ch.1 x, eP]
      constructor
      · rintro ⟨⟨a, b⟩, hn⟩
        exact ⟨a, by rw [if_neg hn]; exact b⟩
      · rintro ⟨a, b⟩
        by_cases w : x = i
        · rw [if_pos w] at b; cases b
        · rw [if_neg w] at b; exact ⟨⟨a, b⟩, w⟩
    · rw [if_neg z]
      refine ⟨fun x => ?_, ch.2⟩
      rw [ch.1 x, eP]
      constructor
      · rintro ⟨a, b⟩
        refine ⟨a, ?_⟩
        rw [if_neg, b]
        rintro rfl
        rw [hp] at b
        exact z (Option.some.inj b).symm
      · rintro ⟨a, b⟩
        by_cases w : x = i
        · rw [if_pos w] at b; cases b
        · rw [if_neg w] at b; exact ⟨a, b⟩
/-- crate i into crate o -/
theorem RY.hang {s : Int32} {e : Option Nat} (h : RY A (vP V i none)) (hA : yP A i = none) (hi : i < 16) (hs : ∀ c, c < 16 → (yC A c 6).toInt < s.toInt) : RY (uC (uF (uP A i (some o)) 8 s) i 6 s) (hangW V i o e) := by
  obtain ⟨⟨h1, h2, h3, h4, h5, ⟨t1, t2, t3, t4, t5, t6, t7, t8⟩⟩, h7⟩ := h
  have eP : ∀ c, yP (uC (uF (uP A i (some o)) 8 s) i 6 s) c = if c = i then some o else yP A c := fun c => rfl
  have eC : ∀ c f, yC (uC (uF (uP A i (some o)) 8 s) i 6 s) c f = if c = i ∧ f = 6 then s else yC A c f := fun c f => rfl
  refine ⟨⟨h1, h2, ?_, fun k hk => ?_, h5, ⟨t1, t2, t3, t4, t5, t6, t7, t8⟩⟩, h7⟩
  · funext c
    have := congrFun h3 c
    have e2 : wP (vP V i none) c = if c = i then none else wP V c := rfl
    rw [e2] at this
    show (if c = i then some o else yP A c) = if c = i then some o else wP V c
    by_cases z : c = i
    · rw [if_pos z, if_pos z]
    · rw [if_neg z, if_neg z, this, if_neg z]
  · have c := h4 k hk
    refine c.eq (fun f hf => by rw [eC, if_neg (by omega)]) rfl ?_ (fun f _ => rfl) rfl
    show ChR (uC (uF (uP A i (some o)) 8 s) i 6 s) k (if k = o then wC V o ++ [i] else wC V k)
    have ch : ChR A k (wC V k) := c.ch
    have ni : ∀ x, x ∈ wC V k → x ≠ i := fun x hx z => by
      have := ((ch.1 x).mp hx).2
      rw [z, hA] at this
      cases this
    have pw : (wC V k).Pairwise (fun a b => (yC (uC (uF (uP A i (some o)) 8 s) i 6 s) a 6).toInt < (yC (uC (uF (uP A i (some o)) 8 s) i 6 s) b 6).toInt) := by
      refine List.Pairwise.imp_of_mem ?_ ch.2
      intro a b ha hb hlt
      rw [eC, eC, if_neg (fun q => ni a ha q.1), if_neg (fun q => ni b hb q.1)]
      exact hlt
    by_cases z : k = o
    · subst z
      rw [if_pos rfl]
      refine ⟨fun x => ?_, List.pairwise_append.mpr ⟨pw, List.pairwise_singleton _ _, fun a ha b hb => ?_⟩⟩
      · rw [List.mem_append, List.mem_singleton, ch.1 x, eP]
        constructor
        · rintro (⟨a, b⟩ | rfl)
          · exact ⟨a, by rw [if_neg (ni x ((ch.1 x).mpr ⟨a, b⟩))]; exact b⟩
          · exact ⟨hi, if_pos rfl⟩
        · rintro ⟨a, b⟩
          by_cases w : x = i
          · exact Or.inr w
          · rw [if_neg w] at b; exact Or.inl ⟨a, b⟩
      · rw [List.mem_singleton.mp hb, eC, eC, if_neg (fun q => ni a ha q.1), if_pos ⟨rfl, rfl⟩]
        exact hs a ((ch.1 a).mp ha).1
    · rw [if_neg z]
      refine ⟨fun x => ?_, pw⟩
      rw [ch.1 x, eP]
      constructor
      · rintro ⟨a, b⟩
        exact ⟨a, by rw [if_neg (ni x ((ch.1 x).mpr ⟨a, b⟩))]; exact b⟩
      · rintro ⟨a, b⟩
        by_cases w : x = i
        · rw [if_pos w] at b; exact absurd (Option.some.inj b).symm z
        · rw [if_neg w] at b; exact ⟨a, b⟩
theorem IV.a4 (h : IV Y W T) (hi : i < wN W) (e : wP W i = some j) : yP Y i = some j ∧ j < wN W ∧ acyO 4 (yP Y) (yP Y j) := by
  have hi16 : i < 16 := by have := h.n9; omega
  have e2 : yP Y i = some j := by rw [h.pw]; exact e
  have := h.pv.acy i hi16
  rw [e2] at this
  exact ⟨e2, (h.hp i j hi16 e2).2, this⟩
/-- place of crate i among those of j -/
theorem IV.at (h : IV Y W T) (hi : i < wN W) (e : wP W i = some j) : ∃ p : Nat, (wC W j)[p]? = some i ∧ ∀ q : Nat, q < p → (wC W j)[q]? ≠ some i := by
  obtain ⟨e2, hj, -⟩ := h.a4 hi e
  have c := (h.rc hj).ch
  have hm := (c.1 i).mpr ⟨by have := h.n9; omega, e2⟩
  obtain ⟨p, hp⟩ := List.mem_iff_getElem?.mp hm
  refine ⟨p, hp, fun q hq z => ?_⟩
  have := nd_at _ p q i c.nd hp z
  omega
/-- crate i taken out of crate j -/
theorem IV.out (h : IV Y W T) (hi : i < wN W) (e : wP W i = some j) (hx : (wC W j)[p]? = some i) : IV (unY Y i) (vP (cutW W j p) i none) T := by
  have hi16 : i < 16 := by have := h.n9; omega
  obtain ⟨e2, hj, ha⟩ := h.a4 hi e
  obtain ⟨f1, f2, f3, f4, f5, f6, f7⟩ := fgY_f 4 W j
  have eU : unY Y i = uP (awO 5 Y (some j) (-(yC Y i 4))) i none := by unfold unY; rw [e2]
  have aw := aw_st 5 Y (some j) (-(yC Y i 4))
  have hR := h.ry.forg (n := 4) (w := -(yC Y i 4)) hj ha h.hp
  have hcut := hR.cut (i := i) (p := p) (e := wE W (1 + 2 * j)) (by rw [f1]; exact hj) hi16 (by rw [aw.2.2.2]; exact e2) (by rw [f3]; exact hx)
  rw [f3] at hcut
  have hN : wN (vP (cutW W j p) i none) = wN W := f1
  refine ⟨by rw [eU]; exact hcut, by rw [hN]; exact h.pv.uo hi16, h.t39, by rw [hN]; exact h.n2, fun k hk => ?_, h.mi.eq (Nat.le_refl _) (f5 7 (by decide)) (f5 8 (by decide)) (f5 9 (by decide)), h.ci.of ?_ (fun g h1 h2 => ?_) ?_⟩
  · rw [hN] at hk
    exact Nat.le_trans (f7 k) (h.rl hk)
  · rw [eU]
    exact cS_awO 5 Y (some j) h.pv.p16 (fun x q => by cases q; have := h.n9; omega)
  · rw [eU]
    exact aw_T 5 _ _ _ g h1
  · rw [eU]
    exact aw.2.2.1
/-- crate i into crate o, from anywhere -/
theorem IV.hung {V : LW} {A : Yd} {e : Option Nat} (h : IV Y W T) (hT : T + 1 ≤ 39) (hi : i < wN W) (ho : o < wN W) (hA : RY A (vP V i none)) (eA : A = uP (awO 5 Y (yP Y i) (-(yC Y i 4))) i none) (hN : wN V = wN W) (hl : ∀ k, (wR V k).length ≤ (wR W k).length) (h7 : wYs V 7 = wYs W 7) (h8 : wYs V 8 = wYs W 8) (h9 : wYs V 9 = wYs W 9) (c3 : ¬ ins Y o i = true) (c4 : dp Y o + 1 + lvN Y i 16 0 0 ≤ 5) : IV (neY Y i o) (fgY 5 (hangW V i o e) o) (T + 1) := by
  have n9 := h.n9
  have hi16 : i < 16 := by omega
  have ho16 : o < 16 := by omega
  obtain ⟨t, ht, ht8, hts, -⟩ := h.pv.s
  have hpv := h.pv.ne (by omega) hi ho (acy_can h.pv.acy hi16 ho16 c3 c4)
  have aw := aw_st 5 Y (yP Y i) (-(yC Y i 4))
  have e0 : neY0 Y i o = uC (uF (uP A i (some o)) 8 (yF Y 8 + 1)) i 6 (yF Y 8 + 1) := by
    have q1 : neY0 Y i o = uC (uF (uP (awO 5 Y (yP Y i) (-(yC Y i 4))) i (some o)) 8 (yF (awO 5 Y (yP Y i) (-(yC Y i 4))) 8 + 1)) i 6 (yF (awO 5 Y (yP Y i) (-(yC Y i 4))) 8 + 1) := rfl
    rw [q1, eA, uP_uP, aw.2.1]
  have e8 : yF Y 8 + 1 = nI (t + 1) := by rw [ht8, nI_s1]
  have hs : ∀ c, c < 16 → (yC A c 6).toInt < (yF Y 8 + 1).toInt := by
    intro c hc
    obtain ⟨s, h1, h2, -⟩ := hts c hc
    have e6 : yC A c 6 = nI s := by
      rw [eA, ← h2]
      exact aw_6 5 Y (yP Y i) _ c 6 (by decide) (by decide) (by decide) (by decide)
    have t39 := h.t39
    rw [e6, e8, nI_toInt (by omega), nI_toInt (by omega)]
    omega
  have hAi : yP A i = none := by rw [eA]; exact if_pos rfl
  have hH := hA.hang (o := o) (e := e) hAi hi16 hs
  rw [← e0] at hH
  have hNh : wN (hangW V i o e) = wN W := hN
  have pA : ∀ c, yP A c = if c = i then none else yP Y c := fun c => by
    rw [eA]
    show (if c = i then none else yP (awO 5 Y (yP Y i) (-(yC Y i 4))) c) = _
    rw [aw.2.2.2]
  have pN : ∀ c, yP (neY0 Y i o) c = if c = i then some o else yP A c := fun c => by rw [e0]; rfl
  have hp2 : ∀ x y, x < 16 → yP (neY0 Y i o) x = some y → x < wN (hangW V i o e) ∧ y < wN (hangW V i o e) := by
    intro x y hx q
    rw [hNh]
    rw [pN, pA] at q
    by_cases z : x = i
    · rw [if_pos z] at q
      cases q
      exact ⟨by omega, ho⟩
    · rw [if_neg z, if_neg z] at q
      exact h.hp x y hx q
  have hF := hH.forg (n := 5) (w := yC (neY0 Y i o) i 4) (by rw [hNh]; exact ho) (acy_can0 h.pv.acy ho16 c3) hp2
  obtain ⟨f1, f2, f3, f4, f5, f6, f7⟩ := fgY_f 5 (hangW V i o e) o
  have hNf : wN (fgY 5 (hangW V i o e) o) = wN W := f1.trans hNh
  have aw2 := aw_st 6 (neY0 Y i o) (some o) (yC (neY0 Y i o) i 4)
  have eB : yB (neY0 Y i o) = yB Y := by rw [e0, eA]; exact aw.2.2.1
  have eT : ∀ f, f ≠ 1 → yT (neY0 Y i o) f = yT Y f := fun f hf => by rw [e0, eA]; exact aw_T 5 _ _ _ f hf
  have eS : cS9 (neY0 Y i o) = cS9 Y := by
    have e1 : cS9 (neY0 Y i o) = cS9 (awO 5 Y (yP Y i) (-(yC Y i 4))) := by
      unfold cS9
      have e9 : sm (fun c => yC (neY0 Y i o) c 8) 16 = sm (fun c => yC (awO 5 Y (yP Y i) (-(yC Y i 4))) c 8) 16 := sm_c fun c _ => by
        rw [e0, eA]
        exact if_neg (by omega)
      rw [e9, e0, eA]
      rfl
    rw [e1]
    exact cS_awO 5 Y (yP Y i) h.pv.p16 (fun k q => h.pv.p16 i hi16 k q)
  refine ⟨hF, by rw [hNf]; exact hpv, hT, by rw [hNf]; exact h.n2, fun k hk => ?_, h.mi.eq (Nat.le_succ T) ((f5 7 (by decide)).trans h7) ((f5 8 (by decide)).trans h8) ((f5 9 (by decide)).trans h9), h.ci.of ?_ (fun g h1 h2 => ?_) ?_⟩
  · rw [hNf] at hk
    have := h.rl hk
    exact Nat.le_trans (Nat.le_trans (f7 k) (hl k)) (by omega)
  · refine (cS_awO 6 (neY0 Y i o) (some o) (fun x hx y q => ?_) (fun k q => by cases q; exact ho16)).trans eS
    have := hp2 x y hx q
    rw [hNh] at this
    omega
  · exact (aw_T 6 _ _ _ g h1).trans (eT g h1)
  · exact aw2.2.2.1.trans eB
/-- .. that was in no crate -/
theorem IV.move0 {e : Option Nat} (h : IV Y W T) (hT : T + 1 ≤ 39) (hi : i < wN W) (ho : o < wN W) (e1 : wP W i = none) (c3 : ¬ ins Y o i = true) (c4 : dp Y o + 1 + lvN Y i 16 0 0 ≤ 5) : IV (neY Y i o) (fgY 5 (hangW W i o e) o) (T + 1) := by
  have e2 : yP Y i = none := by rw [h.pw]; exact e1
  refine h.hung (A := uP Y i none) hT hi ho ?_ ?_ rfl (fun _ => Nat.le_refl _) rfl rfl rfl c3 c4
  · rw [vP_same e1]
    have : uP Y i none = Y := by
      have e3 : (fun c => if c = i then none else Y.2.2.1 c) = Y.2.2.1 := by
        funext c
        by_cases z : c = i
        · rw [if_pos z, z]; exact e2.symm
        · rw [if_neg z]
      show (Y.1, Y.2.1, (fun c => if c = i then none else Y.2.2.1 c), Y.2.2.2) = Y
      rw [e3]
    rw [this]
    exact h.ry
  · rw [e2]; rfl
/-- .. that was in crate j -/
theorem IV.move1 {e : Option Nat} (h : IV Y W T) (hT : T + 1 ≤ 39) (hi : i < wN W) (ho : o < wN W) (e1 : wP W i = some j) (hx : (wC W j)[p]? = some i) (c3 : ¬ ins Y o i = true) (c4 : dp Y o + 1 + lvN Y i 16 0 0 ≤ 5) : IV (neY Y i o) (fgY 5 (hangW (cutW W j p) i o e) o) (T + 1) := by
  obtain ⟨e2, -, -⟩ := h.a4 hi e1
  obtain ⟨f1, f2, f3, f4, f5, f6, f7⟩ := fgY_f 4 W j
  have eU : unY Y i = uP (awO 5 Y (yP Y i) (-(yC Y i 4))) i none := rfl
  exact h.hung (A := unY Y i) hT hi ho (h.out hi e1 hx).ry eU f1 (fun k => f7 k) (f5 7 (by decide)) (f5 8 (by decide)) (f5 9 (by decide)) c3 c4
end MOV
