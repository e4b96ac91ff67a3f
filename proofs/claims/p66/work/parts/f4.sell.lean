/-! a sale: both yards stay alike -/
theorem i_neg {x : Int32} (h1 : -2147483647 ≤ x.toInt) : (-x).toInt = -x.toInt := by
  have h2 := Int32.toInt_lt x
  rw [Int32.toInt_neg]
  exact Int.bmod_eq_of_le (by omega) (by omega)
def sdM (W : LW) (k : Nat) : Int32 := mnL (smR (wR W k) 0) (nI (wR W k).length)
def sdP (W : LW) (k : Nat) : Int32 := if sdM W k < 0 then 0 else sdM W k
def sdO (W : LW) (k : Nat) : Int32 := sdM W k - grF W 5 k
def sdA (W : LW) (k : Nat) : Int32 := (if sdO W k < 0 then - sdO W k else sdO W k) - wYs W 8
def sdT (W : LW) (k : Nat) : Int32 := if sdA W k ≤ 0 then (if 100 < wYs W 9 + 5 then 100 else wYs W 9 + 5) else if wYs W 9 < sdA W k then 0 else wYs W 9 - sdA W k
def sdB (W : LW) (k : Nat) : Int32 := if sdA W k ≤ 0 then 0 else if 0 < sdO W k then sdO W k else 0
def sdV (W : LW) (k : Nat) : LW := vY (vY (vY (vY W 9 (sdT W k)) 7 (wYs W 7 + (sdB W k - sdP W k))) 10 (wYs W 10 + sdP W k)) 11 (wYs W 11 + sdB W k)
def sdW (W : LW) (k : Nat) : LW := goF 5 (sdV W k) k
theorem i_lt0 {x y : Int32} : x < y ↔ x.toInt < y.toInt := Int32.lt_iff_toInt_lt
theorem i_le0 {x y : Int32} : x ≤ y ↔ x.toInt ≤ y.toInt := Int32.le_iff_toInt_le
theorem i_0 : (0 : Int32).toInt = 0 := by decide
/-- trust and refund, by both their rules -/
theorem sd_n {e a : Int32} {tr tol : Nat} (h1 : -2000000 ≤ e.toInt) (h2 : e.toInt ≤ 2000000) (htr : tr ≤ 100) (htol : tol ≤ 3) (ha : a = (if e < 0 then -e else e) - nI tol) : (fTrust (nI tr) (nI tol) e = (if a ≤ 0 then (if 100 < nI tr + 5 then 100 else nI tr + 5) else if nI tr < a then 0 else nI tr - a) ∧ ∃ t, fTrust (nI tr) (nI tol) e = nI t ∧ t ≤ 100) ∧ fRefund (nI tol) e = (if a ≤ 0 then 0 else if 0 < e then e else 0) ∧ ∃ b, fRefund (nI tol) e = nI b ∧ b ≤ 2000000 := by
  have eT : (nI tr).toInt = tr := nI_toInt (by omega)
  have eL : (nI tol).toInt = tol := nI_toInt (by omega)
  have eN := i_neg (x := e) (by omega)
  obtain ⟨x, hx⟩ : ∃ x, x = e.toInt := ⟨_, rfl⟩
  have eab : fabs e = if e < 0 then -e else e := by
    unfold fabs
    by_cases z : e < 0
    · rw [if_neg (Int32.not_le.mpr z), if_pos z]
    · rw [if_pos (Int32.not_lt.mp z), if_neg z]
  have eA0 : ((if e < 0 then -e else e) : Int32).toInt = if x < 0 then -x else x := by
    by_cases z : e < 0
    · have := i_lt0.mp z
      rw [i_0] at this
      rw [if_pos z, if_pos (by omega), eN, hx]
    · have : ¬ e.toInt < 0 := fun q => z (i_lt0.mpr (by rw [i_0]; exact q))
      rw [if_neg z, if_neg (by omega), hx]
  have eA : a.toInt = (if x < 0 then -x else x) - tol := by
    rw [ha, i_sub (by rw [eA0, eL]; split <;> omega) (by rw [eA0, eL]; split <;> omega), eA0, eL]
  have eAf : fabs e - nI tol = a := by rw [eab, ha]
  have hle : a ≤ 0 ↔ (if x < 0 then -x else x) ≤ (tol : Int) := by
    rw [i_le0, eA, i_0]
    omega
  have e5 : nI tr + 5 = nI (tr + 5) := by
    rw [← nI_add]; rfl
  constructor
  · have key : (if fabs e - nI tol ≤ 0 then fmin 100 (nI tr + 5) else fmax 0 (nI tr - (fabs e - nI tol))) = (if a ≤ 0 then (if 100 < nI tr + 5 then 100 else nI tr + 5) else if nI tr < a then 0 else nI tr - a) ∧ ∃ t, (if fabs e - nI tol ≤ 0 then fmin 100 (nI tr + 5) else fmax 0 (nI tr - (fabs e - nI tol))) = nI t ∧ t ≤ 100 := by
      rw [eAf]
      by_cases z : a ≤ 0
      · rw [if_pos z, if_pos z, e5]
        unfold fmin
        have h100 : (100 : Int32) = nI 100 := rfl
        rw [h100]
        by_cases w : tr + 5 < 100
        · rw [if_pos (nI_lt w (by omega)), if_neg (nI_nlt (by omega) (by omega))]
          exact ⟨rfl, tr + 5, rfl, by omega⟩
        · rw [if_neg (nI_nlt (by omega) (by omega))]
          by_cases w2 : 100 < tr + 5
          · rw [if_pos (nI_lt w2 (by omega))]
            exact ⟨rfl, 100, rfl, Nat.le_refl _⟩
          · rw [if_neg (nI_nlt (by omega) (by omega)), show tr + 5 = 100 by omega]
            exact ⟨rfl, 100, rfl, Nat.le_refl _⟩
      · rw [if_neg z, if_neg z]
        have hz : ¬ (if x < 0 then -x else x) ≤ (tol : Int) := fun q => z (hle.mpr q)
        have eS : (nI tr - a).toInt = tr - a.toInt := by
          rw [i_sub (by rw [eT, eA]; split <;> omega) (by rw [eT, eA]; split <;> omega), eT]
        unfold fmax
        by_cases w : nI tr < a
        · have w' := i_lt0.mp w
          rw [eT] at w'
          rw [if_pos w, if_neg (fun q => by have := i_lt0.mp q; rw [eS, i_0] at this; omega)]
          exact ⟨rfl, 0, rfl, by omega⟩
        · have w' : ¬ (nI tr).toInt < a.toInt := fun q => w (i_lt0.mpr q)
          rw [eT] at w'
          rw [if_neg w]
          have eK : nI tr - a = nI (tr - a.toInt).toNat := by
            apply Int32.toInt_inj.mp
            rw [eS, nI_toInt (by omega)]
            omega
          by_cases w2 : 0 < nI tr - a
          · rw [if_pos w2]
            exact ⟨rfl, (tr - a.toInt).toNat, eK, by rw [eA] at *; omega⟩
          · rw [if_neg w2]
            have e0 : nI tr - a = 0 := by
              apply Int32.toInt_inj.mp
              have : ¬ (0 : Int32).toInt < (nI tr - a).toInt := fun q => w2 (i_lt0.mpr q)
              rw [i_0, eS] at this
              rw [eS, i_0]
              omega
            exact ⟨e0.symm, 0, rfl, by omega⟩
    exact key
  · have key : (if nI tol < e then e else 0) = (if a ≤ 0 then 0 else if 0 < e then e else 0) ∧ ∃ b, (if nI tol < e then e else 0) = nI b ∧ b ≤ 2000000 := by
      by_cases z : nI tol < e
      · have z' := i_lt0.mp z
        rw [eL, ← hx] at z'
        have e1 : ¬ a ≤ 0 := fun q => by
          have := hle.mp q
          rw [if_neg (by omega)] at this
          omega
        have e2 : (0 : Int32) < e := i_lt0.mpr (by rw [i_0]; omega)
        rw [if_pos z, if_neg e1, if_pos e2]
        refine ⟨rfl, e.toInt.toNat, ?_, by omega⟩
        apply Int32.toInt_inj.mp
        rw [nI_toInt (by omega)]
        omega
      · have z' : ¬ (nI tol).toInt < e.toInt := fun q => z (i_lt0.mpr q)
        rw [eL, ← hx] at z'
        rw [if_neg z]
        refine ⟨?_, 0, rfl, by omega⟩
        by_cases w : a ≤ 0
        · rw [if_pos w]
        · rw [if_neg w, if_neg]
          intro q
          have q' := i_lt0.mp q
          rw [i_0] at q'
          refine w (hle.mpr ?_)
          rw [if_neg (by omega)]
          omega
    exact key
theorem hoF_g {W V : LW} (h : wC V = wC W) (t : Nat) : ∀ f k, hoF V t f k = hoF W t f k := by
  intro f
  induction f with
  | zero => intro k; rfl
  | succ f ih =>
    intro k
    show (decide (t = k) || (wC V k).any (fun c => hoF V t f c)) = (decide (t = k) || (wC W k).any (fun c => hoF W t f c))
    rw [h]
    congr 2
    funext c
    rw [ih c]
/-- who is gone -/
theorem go_fold {f : Nat} {c : Nat} (ih : ∀ W k, wI (goF f W k) c 4 = if hoF W c f k = true then 1 else wI W c 4) : ∀ (l : List Nat) (U V : LW), Gs U V → (∀ x, hoF U c f x = hoF V c f x) → wI (l.foldl (fun V c => goF f V c) V) c 4 = if l.any (fun x => hoF U c f x) = true then 1 else wI V c 4 := by
  intro l
  induction l with
  | nil => intro U V _ _; rfl
  | cons x l ihl =>
    intro U V hG hh
    rw [List.foldl_cons, ihl U (goF f V x) (hG.tr (goF_s f V x)) (fun y => ?_), ih V x, List.any_cons, hh x]
    · cases hoF V c f x
      · rw [Bool.false_or]; rfl
      · rw [Bool.true_or, if_pos rfl]
        split <;> rfl
    · rw [hh y]
      exact (hoF_g (goF_s f V x).2.2.1 c f y).symm
theorem go_I (c : Nat) : ∀ f W k, wI (goF f W k) c 4 = if hoF W c f k = true then 1 else wI W c 4 := by
  intro f
  induction f with
  | zero =>
    intro W k
    show (if c = k ∧ 4 = 4 then (1 : Int32) else wI W c 4) = if decide (c = k) = true then 1 else wI W c 4
    by_cases z : c = k
    · rw [if_pos ⟨z, rfl⟩, if_pos (decide_eq_true z)]
    · rw [if_neg (fun q => z q.1), if_neg (by rw [decide_eq_false z]; decide)]
  | succ f ih =>
    intro W k
    show wI ((wC W k).foldl (fun V c => goF f V c) (vI W k 4 1)) c 4 = if (decide (c = k) || (wC W k).any (fun x => hoF W c f x)) = true then 1 else wI W c 4
    rw [go_fold ih (wC W k) W (vI W k 4 1) (Gs.uI W k 1) (fun x => (hoF_g (W := W) (V := vI W k 4 1) rfl c f x).symm)]
    show (if (wC W k).any (fun x => hoF W c f x) = true then (1 : Int32) else if c = k ∧ 4 = 4 then 1 else wI W c 4) = _
    by_cases z : c = k
    · have e : (if c = k ∧ 4 = 4 then (1 : Int32) else wI W c 4) = 1 := if_pos ⟨z, rfl⟩
      rw [e, decide_eq_true z, Bool.true_or]
      split <;> rfl
    · rw [decide_eq_false z, Bool.false_or, if_neg (fun q : c = k ∧ 4 = 4 => z q.1)]
theorem i32_mo (a B P x y : Int32) : a + (B - P) + (x + P - (y + B)) = a + (x - y) := by grind
section SEL
variable {Y : Yd} {W : LW} {T k : Nat}
theorem sdV_Y (W : LW) (k : Nat) : (∀ f, f ≠ 7 → f ≠ 9 → f ≠ 10 → f ≠ 11 → wYs (sdV W k) f = wYs W f) ∧ wYs (sdV W k) 7 = wYs W 7 + (sdB W k - sdP W k) ∧ wYs (sdV W k) 9 = sdT W k ∧ wYs (sdV W k) 10 = wYs W 10 + sdP W k ∧ wYs (sdV W k) 11 = wYs W 11 + sdB W k := by
  unfold sdV
  refine ⟨fun f h1 h2 h3 h4 => ?_, ?_, ?_, ?_, ?_⟩
  · rw [vY_n h4, vY_n h3, vY_n h1, vY_n h2]
  · rw [vY_n (by decide), vY_n (by decide), vY_s]
  · rw [vY_n (by decide), vY_n (by decide), vY_n (by decide), vY_s]
  · rw [vY_n (by decide), vY_s]
  · rw [vY_s]
theorem IV.mb (h : IV Y W T) (hk : k < wN W) (he : wR W k ≠ []) : -1900000 ≤ (sdM W k).toInt ∧ (sdM W k).toInt ≤ 1900001 := by
  have c11 := (h.rc hk).2.2.2.2.2.2.2.2.2.2
  have hl0 : 0 < (wR W k).length := List.length_pos_iff.mpr he
  have hl := h.rl hk
  have hT := h.t39
  obtain ⟨z1, z2⟩ := zR_b (wR W k) c11
  have e1 : (smR (wR W k) 0).toInt = zR (wR W k) := by
    rw [smR_i (wR W k) 0 c11 (by rw [i_0]; omega) (by rw [i_0]; omega), i_0]
    omega
  unfold sdM
  rw [mn_i hl0 (by omega) (by rw [e1]; omega) (by rw [e1]; omega), e1]
  exact rd_b hl0 (by omega) (by omega)
theorem IV.sell (h : IV Y W T) (hk : k < wN W) (he : wR W k ≠ []) (hr : yRef Y k 0 = 0) (hT : T + 1 ≤ 39) : yPrice Y k - fRefund (yB Y 0 3) (yErr Y k) = sdP W k - sdB W k ∧ IV (trY Y k 0) (sdW W k) (T + 1) := by
  have n9 := h.n9
  have hk16 : k < 16 := by omega
  obtain ⟨mo, tol, tr, w7, w8, w9, b7, b8, b9⟩ := h.mi
  obtain ⟨⟨h1, h2, h3, h4, ⟨s1, s2, s3, s4⟩, ⟨t1, t2, t3, t4, t5, t6, t7, t8⟩⟩, hT1⟩ := h.ry
  have c := h4 k hk
  have eM : yMean Y k = sdM W k := (h.mn hk he).2.2
  obtain ⟨m1, m2⟩ := h.mb hk he
  obtain ⟨g, hg1, hg2⟩ := h.pv.gr hk16
  have eG := h.gr hk
  have eE : yErr Y k = sdO W k := by unfold yErr sdO; rw [eM, eG]
  have oB : (sdO W k).toInt = (sdM W k).toInt - g := by
    unfold sdO
    rw [eG, hg1, i_sub (by rw [nI_toInt (by omega)]; omega) (by rw [nI_toInt (by omega)]; omega), nI_toInt (by omega)]
  obtain ⟨⟨e1, t', e2, e3⟩, e4, bk, e5, e6⟩ := sd_n (e := sdO W k) (a := sdA W k) (tr := tr) (tol := tol) (by omega) (by omega) b9 b8 (by unfold sdA; rw [w8])
  have eT : fTrust (yB Y 0 4) (yB Y 0 3) (yErr Y k) = sdT W k := by
    rw [t4, t3, eE, w8, w9, e1]
    unfold sdT
    rw [w9]
  have eB : fRefund (yB Y 0 3) (yErr Y k) = sdB W k := by
    rw [t3, eE, w8, e4]
    rfl
  have eP : yPrice Y k = sdP W k := by
    unfold yPrice fmax sdP
    rw [eM]
    by_cases z : sdM W k < 0
    · rw [if_pos z, if_neg]
      intro q
      have q1 := i_lt0.mp z
      have q2 := i_lt0.mp q
      omega
    · rw [if_neg z]
      by_cases q : (0 : Int32) < sdM W k
      · rw [if_pos q]
      · rw [if_neg q]
        apply Int32.toInt_inj.mp
        have q1 : ¬ (sdM W k).toInt < (0 : Int32).toInt := fun w => z (i_lt0.mpr w)
        have q2 : ¬ (0 : Int32).toInt < (sdM W k).toInt := fun w => q (i_lt0.mpr w)
        omega
  -- the price is paid
  have hpay : ¬ yB Y 0 2 < yPrice Y k := by
    intro q
    unfold yRef at hr
    rw [if_pos q] at hr
    split at hr
    · cases hr
    · split at hr
      · split at hr
        · cases hr
        · split at hr
          · cases hr
          · cases hr
      · cases hr
  have eBn : sdB W k = nI bk := by rw [← eB, t3, eE, w8]; exact e5
  have eTn : sdT W k = nI t' := by rw [← eT, t4, t3, eE, w8, w9]; exact e2
  obtain ⟨pr, eprn, hpr⟩ : ∃ pr : Nat, sdP W k = nI pr ∧ pr ≤ mo := by
    rw [eP, t2, w7] at hpay
    have q : ¬ (nI mo).toInt < (sdP W k).toInt := fun w => hpay (i_lt0.mpr w)
    have t39 := h.t39
    rw [nI_toInt (by omega)] at q
    have p0 : 0 ≤ (sdP W k).toInt := by
      unfold sdP
      by_cases z : sdM W k < 0
      · rw [if_pos z]; decide
      · rw [if_neg z]
        have : ¬ (sdM W k).toInt < (0 : Int32).toInt := fun w => z (i_lt0.mpr w)
        rw [i_0] at this
        omega
    refine ⟨(sdP W k).toInt.toNat, ?_, by omega⟩
    apply Int32.toInt_inj.mp
    rw [nI_toInt (by omega)]
    omega
  obtain ⟨o1, o2, o3, o4, o5, o6, o7, o8⟩ := saF_o k 16 0 (trY0 Y k 0)
  have y2 : yP (trY Y k 0) = yP Y := o2
  have y7 : ∀ a f, f ≠ 7 → yC (trY Y k 0) a f = yC Y a f := fun a f hf => o7 a f hf
  have y8 : ∀ a, yC (trY Y k 0) a 7 = if 0 ≤ a ∧ a < 0 + 16 ∧ ins Y a k = true then 0 else yC Y a 7 := fun a => o8 a
  have yS9 : yS (trY Y k 0) = yS Y := o4
  have yF9 : yF (trY Y k 0) = yF Y := o6
  have yL9 : yL (trY Y k 0) = yL Y := o1
  have yT9 : ∀ f, yT (trY Y k 0) f = if f = 5 then yT Y 5 + sdB W k else if f = 4 then yT Y 4 + sdP W k else if f = 3 then yT Y 3 + 1 else yT Y f := fun f => by
    rw [← eB, ← eP]
    exact congrFun o5 f
  have yB9 : ∀ f, yB (trY Y k 0) 0 f = if f = 5 then yB Y 0 5 + 1 else if f = 2 then yB Y 0 2 + (sdB W k - sdP W k) else if f = 4 then sdT W k else yB Y 0 f := fun f => by
    rw [← eB, ← eP, ← eT]
    have e := congrFun (congrFun o3 0) f
    refine Eq.trans e ?_
    show (if 0 = 0 ∧ f = 5 then yB Y 0 5 + 1 else if 0 = 0 ∧ f = 2 then yB Y 0 2 + (fRefund (yB Y 0 3) (yErr Y k) - yPrice Y k) else if 0 = 0 ∧ f = 4 then fTrust (yB Y 0 4) (yB Y 0 3) (yErr Y k) else yB Y 0 f) = _
    by_cases z5 : f = 5
    · rw [if_pos ⟨rfl, z5⟩, if_pos z5]
    · rw [if_neg (fun q => z5 q.2), if_neg z5]
      by_cases z2 : f = 2
      · rw [if_pos ⟨rfl, z2⟩, if_pos z2]
      · rw [if_neg (fun q => z2 q.2), if_neg z2]
        by_cases z4 : f = 4
        · rw [if_pos ⟨rfl, z4⟩, if_pos z4]
        · rw [if_neg (fun q => z4 q.2), if_neg z4]
  obtain ⟨v1, v7, v9, v10, v11⟩ := sdV_Y W k
  obtain ⟨g1, g2, g3, g4, g5, g6, g7⟩ := goF_s 5 (sdV W k) k
  have gI := fun c => go_I c 5 (sdV W k) k
  have hN : wN (sdW W k) = wN W := g1
  have hY : wYs (sdW W k) = wYs (sdV W k) := g6
  have hR : wR (sdW W k) = wR W := g4
  have hC : wC (sdW W k) = wC W := g3
  refine ⟨by rw [eP, eB], ⟨⟨?_, by rw [hN]; exact h2, ?_, fun i hi => ?_, ⟨?_, ?_, ?_, ?_⟩, ⟨?_, ?_, ?_, ?_, ?_, ?_, by rw [yF9]; exact t7, by rw [yF9]; exact t8⟩⟩, ?_⟩, by rw [hN]; exact (h.pv.tr (by decide)).mono (Nat.le_succ T), hT, by rw [hN]; exact h.n2, fun i hi => ?_, ?_, ?_, ?_⟩
  · rw [yF9, hN]; exact h1
  · rw [y2, h3]; exact g2.symm
  · rw [hN] at hi
    obtain ⟨c1, c2, c3, c4, c5, c6, c7, c8, c9, c10, c11⟩ := h4 i hi
    have eI : ∀ f, f ≠ 4 → wI (sdW W k) i f = wI W i f := fun f hf => g7 i f hf
    refine ⟨by rw [eI 0 (by decide)]; exact c1, by rw [y7 i 2 (by decide), eI 1 (by decide)]; exact c2, by rw [y7 i 3 (by decide), eI 2 (by decide)]; exact c3, ?_, by rw [hC]; exact c5.eq y2 (fun x => y7 x 6 (by decide)), by rw [y7 i 8 (by decide), hR]; exact c6, by rw [yL9, hR]; exact c7, by rw [y7 i 11 (by decide), hR]; exact c8, by rw [eI 5 (by decide), hR]; exact c9, by rw [hR, eI 3 (by decide), y7 i 12 (by decide)]; exact c10, by rw [hR]; exact c11⟩
    have e4' : wI (sdW W k) i 4 = if hoF (sdV W k) i 5 k = true then 1 else wI (sdV W k) i 4 := gI i
    rw [e4', y8, hoF_g (W := W) (V := sdV W k) rfl i 5 k, ho_5 h.tr9 (show i < 16 by omega) hk]
    by_cases z : ins Y i k = true
    · rw [if_pos z, if_pos ⟨Nat.zero_le _, by omega, z⟩]; rfl
    · rw [if_neg z, if_neg (fun q => z q.2.2)]; exact c4
  · rw [hY, yS9, v1 1 (by decide) (by decide) (by decide) (by decide)]; exact s1
  · rw [hY, yS9, v1 2 (by decide) (by decide) (by decide) (by decide)]; exact s2
  · rw [hY, yS9, v1 3 (by decide) (by decide) (by decide) (by decide)]; exact s3
  · rw [hY, yS9, v1 4 (by decide) (by decide) (by decide) (by decide)]; exact s4
  · rw [hY, yT9, v1 5 (by decide) (by decide) (by decide) (by decide)]; exact t1
  · rw [hY, yB9, v7, ← t2]; rfl
  · rw [hY, yB9, v1 8 (by decide) (by decide) (by decide) (by decide)]; exact t3
  · rw [hY, yB9, v9]; rfl
  · rw [hY, yT9, v10, ← t5]; rfl
  · rw [hY, yT9, v11, ← t6]; rfl
  · rw [hY, yT9, v1 6 (by decide) (by decide) (by decide) (by decide)]; exact hT1
  · rw [hN] at hi
    rw [hR]; exact Nat.le_trans (h.rl hi) (Nat.le_succ T)
  · refine ⟨mo + bk - pr, tol, t', ?_, ?_, ?_, ?_, b8, e3⟩
    · rw [hY, v7, w7, eBn, eprn]
      apply Int32.toInt_inj.mp
      have t39 := h.t39
      have i1 : (nI bk - nI pr).toInt = (bk : Int) - pr := by
        rw [i_sub (by rw [nI_toInt (by omega), nI_toInt (by omega)]; omega) (by rw [nI_toInt (by omega), nI_toInt (by omega)]; omega), nI_toInt (by omega), nI_toInt (by omega)]
      rw [i_add (by rw [nI_toInt (by omega), i1]; omega) (by rw [nI_toInt (by omega), i1]; omega), nI_toInt (by omega), i1, nI_toInt (by omega)]
      omega
    · rw [hY, v1 8 (by decide) (by decide) (by decide) (by decide)]; exact w8
    · rw [hY, v9]; exact eTn
    · rw [Nat.mul_add]; omega
  · rw [yT9, yT9, show sm (fun i => yC (trY Y k 0) i 8) 16 = sm (fun i => yC Y i 8) 16 from sm_c fun i _ => y7 i 8 (by decide)]
    exact h.ci.1
  · rw [yB9, yT9, yT9, yT9]
    refine Eq.trans ?_ h.ci.2
    exact i32_mo (yB Y 0 2) (sdB W k) (sdP W k) (yT Y 4) (yT Y 5)
end SEL
