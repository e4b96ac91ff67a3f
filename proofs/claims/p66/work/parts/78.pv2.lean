/-! what holds of every yard is kept -/
section PVO
variable {Y Z : Yd} {m b T T' : Nat}
theorem ne8_y {i : Nat} (h : PV Y m b T) (e : ∀ j, yP Z j = yP Y j) : yP Z = yP Y := funext e
/-- a change of the scale's settings and of the totals -/
theorem PV.set (h : PV Y m b T) (e1 : yC Z = yC Y) (e2 : yL Z = yL Y) (e3 : yP Z = yP Y) (e4 : yB Z = yB Y) (e5 : yF Z = yF Y) (hF : PF Z T) : PV Z m b T := by
  obtain ⟨⟨a1, a2, a3⟩, l, s, d, e, -, z, q⟩ := h
  refine ⟨⟨by rw [e1]; exact a1, acy_eq e3 a2, ?_⟩, ?_, ?_, ?_, ?_, hF, ?_, by rw [e5]; exact q⟩
  · unfold CrB at a3 ⊢
    rw [e1, e3, e4, e5]
    exact a3
  · unfold LG at l ⊢
    rw [e1, e3]
    exact l
  · unfold PS at s ⊢
    rw [e1, e3, e5]
    exact s
  · unfold PD at d ⊢
    rw [e1]
    exact d
  · unfold PE at e ⊢
    rw [e1, e2]
    exact e
  · unfold BZ at z ⊢
    rw [e1, e4]
    exact z
theorem PV.am {a : Nat} (h : PV Y m b T) (ha : a ≤ 50) : PV (uS Y 1 (nI a)) m b T := by
  obtain ⟨f1, f2, f3, f4⟩ := h.f
  exact h.set rfl rfl rfl rfl rfl ⟨f1, ⟨a, rfl, ha⟩, f3, f4⟩
theorem PV.ag {a : Nat} (h : PV Y m b T) (h1 : 1 ≤ a) (ha : a ≤ 100) : PV (uS Y 2 (nI a)) m b T := by
  obtain ⟨f1, f2, f3, f4⟩ := h.f
  exact h.set rfl rfl rfl rfl rfl ⟨f1, f2, ⟨a, rfl, h1, ha⟩, f4⟩
theorem PV.gn {a : Nat} (h : PV Y m b T) (ha : a ≤ 9999) : PV (uS Y 0 (nI a)) m b T := by
  obtain ⟨f1, f2, f3, f4⟩ := h.f
  exact h.set rfl rfl rfl rfl rfl ⟨⟨a, rfl, by omega⟩, f2, f3, f4⟩
theorem PV.sp (h : PV Y m b T) : PV (spY Y) m b T := by
  obtain ⟨f1, f2, f3, f4⟩ := h.f
  exact h.set rfl rfl rfl rfl rfl ⟨f1, f2, f3, 0, rfl, by omega⟩
theorem PV.f7 {v : Int32} (h : PV Y m b T) : PV (uF Y 7 v) m b T := by
  obtain ⟨⟨a1, a2, a3⟩, l, s, d, e, f, z, q⟩ := h
  exact ⟨⟨a1, a2, a3⟩, l, s, d, e, f, z, q⟩
theorem PV.f6 {a : Nat} (h : PV Y m b T) (h1 : 1 ≤ a) (ha : a ≤ 9) : PV (uF Y 6 (nI a)) m b T := by
  obtain ⟨⟨a1, a2, a3⟩, l, s, d, e, f, z, q⟩ := h
  exact ⟨⟨a1, a2, a3⟩, l, s, d, e, f, z, a, rfl, h1, ha⟩
theorem nx_in {g : Nat} (h : g < 65537) : ∃ k, nxG (nI g) = nI k ∧ k < 65537 := by
  refine ⟨(75 * g + 74) % 65537, ?_, Nat.mod_lt _ (by decide)⟩
  unfold nxG rem
  rw [show (75 : Int32) = nI 75 from rfl, show (74 : Int32) = nI 74 from rfl, show (65537 : Int32) = nI 65537 from rfl, pk_mul, nI_add9]
  exact pk_rem (by omega) (by decide) (by decide)
theorem nz_in {g a : Nat} (hg : g < 65537) (ha : a ≤ 50) : -50 ≤ (fNz (nI g) (nI a)).toInt ∧ (fNz (nI g) (nI a)).toInt ≤ 50 := by
  unfold fNz rem
  rw [show (2 : Int32) = nI 2 from rfl, pk_mul, nI_s1, pk_rem (by omega) (by omega) (by omega)]
  have := Nat.mod_lt g (show 0 < 2 * a + 1 by omega)
  rw [pk_sub_toInt (by omega) (by omega)]
  omega
theorem sag_in (h : PV Y m b T) (hT : T ≤ 57100) : ∃ k, fSag (yS Y 2) (yS Y 3) = nI k ∧ k ≤ T := by
  obtain ⟨-, -, ⟨q, f3, f4, f5⟩, e, f6, f7⟩ := h.f
  rw [f3, f6]
  unfold fSag
  rw [if_neg (show ¬ nI q < 1 from nI_nlt (b := 1) f4 (by omega)), pk_div (by omega) (by omega) (by omega)]
  exact ⟨e / q, rfl, Nat.le_trans (Nat.div_le_self e q) f7⟩
theorem neg_in {x : Int32} (h1 : -50 ≤ x.toInt) (h2 : x.toInt ≤ 50) : (-x).toInt = -x.toInt := by
  rw [Int32.toInt_neg, Int.bmod_eq_of_le (by omega) (by omega)]

set_option maxHeartbeats 8000000 in
theorem PV.st {c g s : Nat} {e e12 : Int32} (h : PV Y m b T) (hT : T ≤ 57000) (hc : c < 16) (hm : c < m) (hg : yC Y c 4 = nI g) (hg2 : g ≤ 8800) (hs : s ≤ T) (he1 : -50 ≤ e.toInt) (he2 : e.toInt ≤ 50) (e1 : ∀ i f, f ≠ 8 → f ≠ 11 → f ≠ 12 → yC Z i f = yC Y i f) (e2 : ∀ i, i ≠ c → yC Z i 8 = yC Y i 8 ∧ yC Z i 12 = yC Y i 12 ∧ yL Z i 9 = yL Y i 9 ∧ yL Z i 10 = yL Y i 10) (e3 : yP Z = yP Y) (e4 : yB Z = yB Y) (e5 : yF Z = yF Y) (hF : PF Z (T + 1)) (k8 : yC Z c 8 = yC Y c 8 + 1) (k9 : yL Z c 9 = yL Y c 9 + (nI g + nI s + e).toInt64) (k10 : yL Z c 10 = yL Y c 10 + (nI s).toInt64) (k12 : yC Z c 12 = e12) (h12a : -50 ≤ e12.toInt) (h12b : e12.toInt ≤ 50) (hodd : ∀ r : Nat, yC Y c 8 = nI r → r < 2 ^ 31 → (r % 2 = 0 → e12.toInt = e.toInt) ∧ (r % 2 = 1 → e.toInt = -(yC Y c 12).toInt)) : PV Z m b (T + 1) := by
  have hE := h.e hc
  obtain ⟨r, q, r1, r2, r3, r4, r5, r6, r7⟩ := hE
  have hb := h.bd (by omega) hc
  obtain ⟨⟨a1, a2, a3⟩, l, s0, d, ee, -, z, q0⟩ := h
  have hsq : (T + 1) * (T + 1) = T * T + 2 * T + 1 := by
    rw [Nat.succ_mul, Nat.mul_succ]; omega
  refine ⟨⟨fun i hi => by rw [e1 i 7 (by omega) (by omega) (by omega)]; exact a1 i hi, acy_eq e3 a2, ?_⟩, ?_, PS.mono ?_ (Nat.le_succ T), ?_, fun i hi => ?_, hF, ?_, by rw [e5]; exact q0⟩
  · obtain ⟨c1, c2, c3, c4, c5, c6, c7⟩ := a3
    refine ⟨c1, c2, by rw [e5]; exact c3, by rw [e5]; exact c4, fun i hi hm => by rw [e1 i 1 (by omega) (by omega) (by omega)]; exact c5 i hi hm, by rw [e4]; exact c6, by rw [e3]; exact c7⟩
  · intro i hi
    rw [e1 i 4 (by omega) (by omega) (by omega), e1 i 2 (by omega) (by omega) (by omega), e1 i 3 (by omega) (by omega) (by omega), e3, l i hi]
    exact congrArg (HAdd.hAdd _) (sm_c fun k _ => by rw [e1 k 4 (by omega) (by omega) (by omega)])
  · obtain ⟨t, t1, t2, t3, t4⟩ := s0
    refine ⟨t, t1, by rw [e5]; exact t2, fun i hi => ?_, fun i hi j hj => ?_⟩
    · rw [e1 i 6 (by omega) (by omega) (by omega), e3]; exact t3 i hi
    · rw [e1 i 6 (by omega) (by omega) (by omega), e1 j 6 (by omega) (by omega) (by omega), e3]; exact t4 i hi j hj
  · intro i hi
    rw [e1 i 2 (by omega) (by omega) (by omega), e1 i 3 (by omega) (by omega) (by omega)]
    exact d i hi
  · by_cases hic : i = c
    · subst hic
      refine ⟨r + 1, q + s, by rw [k8, r1, nI_s1], by omega, ?_, by omega, by rw [k12]; exact h12a, by rw [k12]; exact h12b, ?_⟩
      · rw [k10, Int64.toInt_add, Int32.toInt_toInt64, nI_toInt (by omega), r3]
        have := Nat.mul_le_mul (show T ≤ 57100 by omega) (show T ≤ 57100 by omega)
        rw [Int.bmod_eq_of_le (by omega) (by omega)]
        omega
      · have hx : (nI g + nI s + e).toInt = g + s + e.toInt := by
          rw [nI_add9, Int32.toInt_add, nI_toInt (by omega), Int.bmod_eq_of_le (by omega) (by omega)]
          omega
        rw [k9, Int64.toInt_add, Int32.toInt_toInt64, hx, Int.bmod_eq_of_le (by omega) (by omega), r7, k12, e1 i 4 (by omega) (by omega) (by omega), hg, nI_toInt (by omega)]
        have em : (((r + 1 : Nat) : Int) * (g : Int)) = (r : Int) * g + g := by
          rw [Int.natCast_add, Int.add_mul]; simp
        rw [em]
        obtain ⟨o1, o2⟩ := hodd r r1 (by omega)
        by_cases hp : r % 2 = 0
        · rw [if_pos hp, if_neg (by omega), o1 hp]
          omega
        · rw [if_neg hp, if_pos (by omega), o2 (by omega)]
          omega
    · obtain ⟨x1, x2, x3, x4⟩ := e2 i hic
      exact ((ee i hi).eq (Or.inr ⟨e1 i 4 (by omega) (by omega) (by omega), x1, x3, x4, x2⟩)).mono (Nat.le_succ T)
  · refine ⟨fun i hi hm2 => ?_, by rw [e4]; exact z.2⟩
    rw [(e2 i (by omega)).1]
    exact z.1 i hi hm2
set_option maxHeartbeats 4000000 in
theorem PV.rf {X : Yd} {c : Nat} {e e12 : Int32} (h : PV Y m b T) (hT : T ≤ 57000) (hm : c < m) (xC : ∀ i f, yC X i f = if i = c ∧ f = 12 then e12 else yC Y i f) (xL : yL X = yL Y) (xP : yP X = yP Y) (xB : yB X = yB Y) (xF : yF X = yF Y) (xS : ∀ f, f ≠ 0 → yS X f = yS Y f) (xg : ∃ n, yS X 0 = nI n ∧ n < 65537) (he1 : -50 ≤ e.toInt) (he2 : e.toInt ≤ 50) (ha : -50 ≤ e12.toInt) (hb : e12.toInt ≤ 50) (hodd : ∀ r : Nat, yC Y c 8 = nI r → r < 2 ^ 31 → (r % 2 = 0 → e12.toInt = e.toInt) ∧ (r % 2 = 1 → e.toInt = -(yC Y c 12).toInt)) : PV (rdYF X c e).2 m b (T + 1) := by
  have hc : c < 16 := by have := h.m16; omega
  obtain ⟨g, hg, hg2⟩ := h.gr hc
  obtain ⟨s, hs, hs2⟩ := sag_in h (by omega)
  obtain ⟨-, ⟨a, f3, f4⟩, ⟨q, f5, f6⟩, a3, f7, f8⟩ := h.f
  have y2 : yS X 2 = yS Y 2 := xS 2 (by omega)
  have y3 : yS X 3 = yS Y 3 := xS 3 (by omega)
  have cn : ∀ i f, f ≠ 12 → yC X i f = yC Y i f := fun i f hf => by rw [xC, if_neg (fun q => hf q.2)]
  have kC : ∀ i f, yC (rdYF X c e).2 i f = if i = c ∧ f = 11 then nI g + nI s + e else if i = c ∧ f = 8 then yC Y c 8 + 1 else yC X i f := fun i f => by
    rw [rf_C, y2, y3, hs, cn c 4 (by omega), hg, cn c 8 (by omega)]
  have kL : ∀ i f, yL (rdYF X c e).2 i f = if i = c ∧ f = 10 then yL Y c 10 + (nI s).toInt64 else if i = c ∧ f = 9 then yL Y c 9 + (nI g + nI s + e).toInt64 else yL Y i f := fun i f => by
    rw [rf_L, y2, y3, hs, cn c 4 (by omega), hg, xL]
  have kS : ∀ f, yS (rdYF X c e).2 f = if f = 3 then yS Y 3 + 1 else yS X f := fun f => by rw [rf_S, y3]
  have kP : yP (rdYF X c e).2 = yP Y := xP
  have kB : yB (rdYF X c e).2 = yB Y := xB
  have kF : yF (rdYF X c e).2 = yF Y := xF
  generalize (rdYF X c e).2 = Z at *
  refine h.st (Z := Z) (c := c) (g := g) (s := s) (e := e) (e12 := e12) hT hc hm hg hg2 hs2 he1 he2 (fun i f x8 x11 x12 => ?_) (fun i hi => ⟨?_, ?_, ?_, ?_⟩) kP kB kF ?_ ?_ ?_ ?_ ?_ ha hb hodd
  · rw [kC, if_neg (by omega), if_neg (by omega), cn i f x12]
  · rw [kC, if_neg (by omega), if_neg (by omega), cn i 8 (by omega)]
  · rw [kC, if_neg (by omega), if_neg (by omega), xC, if_neg (by omega)]
  · rw [kL, if_neg (by omega), if_neg (by omega)]
  · rw [kL, if_neg (by omega), if_neg (by omega)]
  · obtain ⟨n, x1, x2⟩ := xg
    refine ⟨⟨n, ?_, x2⟩, ⟨a, ?_, f4⟩, ⟨q, ?_, f6⟩, a3 + 1, ?_, by omega⟩
    · rw [kS, if_neg (by omega)]; exact x1
    · rw [kS, if_neg (by omega), xS 1 (by omega)]; exact f3
    · rw [kS, if_neg (by omega), y2]; exact f5
    · rw [kS, if_pos rfl, f7, nI_s1]
  · rw [kC, if_neg (by omega), if_pos ⟨rfl, rfl⟩]
  · rw [kL, if_neg (by omega), if_pos ⟨rfl, rfl⟩]
  · rw [kL, if_pos ⟨rfl, rfl⟩]
  · rw [kC, if_neg (by omega), if_neg (by omega), xC, if_pos ⟨rfl, rfl⟩]
theorem PV.tk {c : Nat} (h : PV Y m b T) (hT : T ≤ 57000) (hm : c < m) : PV (tkY Y c).2 m b (T + 1) := by
  have hc : c < 16 := by have := h.m16; omega
  obtain ⟨⟨n, f1, f2⟩, ⟨a, f3, f4⟩, -⟩ := h.f
  obtain ⟨r, -, r1, r2, -, -, r5, r6, -⟩ := h.e hc
  by_cases hp : rem (yC Y c 8) 2 = 0
  · rw [tk_N hp]
    obtain ⟨n2, g1, g2⟩ := nx_in f2
    rw [← f1] at g1
    have hz := nz_in g2 f4
    rw [← g1, ← f3] at hz
    have ev : r % 2 = 0 := (par_rem (by omega)).mp (by rw [← r1]; exact hp)
    refine h.rf (e12 := fNz (nxG (yS Y 0)) (yS Y 1)) hT hm (fun i f => rfl) rfl rfl rfl rfl (fun f hf => if_neg hf) ⟨n2, g1, g2⟩ hz.1 hz.2 hz.1 hz.2 (fun r9 e9 l9 => ⟨fun _ => rfl, fun z => ?_⟩)
    have : r9 = r := (nI_inj l9 (by omega)).mp (e9.symm.trans r1)
    omega
  · rw [tk_O hp]
    have od : ¬ r % 2 = 0 := fun z => hp (by rw [r1]; exact (par_rem (by omega)).mpr z)
    have en := neg_in r5 r6
    refine h.rf (X := uT Y 0 (yT Y 0 + 1)) (e12 := yC Y c 12) hT hm (fun i f => ?_) rfl rfl rfl rfl (fun f hf => rfl) ⟨n, f1, f2⟩ (by omega) (by omega) r5 r6 (fun r9 e9 l9 => ⟨fun z => ?_, fun z => en⟩)
    · show yC Y i f = _
      by_cases w : i = c ∧ f = 12
      · rw [if_pos w, w.1, w.2]
      · rw [if_neg w]
    · have : r9 = r := (nI_inj l9 (by omega)).mp (e9.symm.trans r1)
      omega
theorem PV.tkn {c : Nat} : ∀ (a : Nat) (Y : Yd) (T : Nat), PV Y m b T → T + a ≤ 57000 → c < m → PV (tkN c a Y) m b (T + a) := by
  intro a
  induction a with
  | zero => intro Y T h _ _; exact h
  | succ a ih =>
    intro Y T h hT hm
    have := ih (tkY Y c).2 (T + 1) (h.tk (by omega) hm) (by omega) hm
    rw [show T + (a + 1) = T + 1 + a by omega]
    exact this
end PVO
