/-! the law's mean is the class's -/
theorem i_add {x y : Int32} (h1 : -2147483648 ≤ x.toInt + y.toInt) (h2 : x.toInt + y.toInt ≤ 2147483647) : (x + y).toInt = x.toInt + y.toInt := by
  rw [Int32.toInt_add, Int.bmod_eq_of_le (by omega) (by omega)]
theorem i_sub {x y : Int32} (h1 : -2147483648 ≤ x.toInt - y.toInt) (h2 : x.toInt - y.toInt ≤ 2147483647) : (x - y).toInt = x.toInt - y.toInt := by
  rw [Int32.toInt_sub, Int.bmod_eq_of_le (by omega) (by omega)]
theorem i_mul {x y : Int32} (h1 : -2147483648 ≤ x.toInt * y.toInt) (h2 : x.toInt * y.toInt ≤ 2147483647) : (x * y).toInt = x.toInt * y.toInt := by
  rw [Int32.toInt_mul, Int.bmod_eq_of_le (by omega) (by omega)]
theorem i_div {x y : Int32} (h1 : -2147483648 ≤ x.toInt.tdiv y.toInt) (h2 : x.toInt.tdiv y.toInt ≤ 2147483647) : (x / y).toInt = x.toInt.tdiv y.toInt := by
  rw [Int32.toInt_div, Int.bmod_eq_of_le (by omega) (by omega)]
theorem j_add {x y : Int64} (h1 : -9223372036854775808 ≤ x.toInt + y.toInt) (h2 : x.toInt + y.toInt ≤ 9223372036854775807) : (x + y).toInt = x.toInt + y.toInt := by
  rw [Int64.toInt_add, Int.bmod_eq_of_le (by omega) (by omega)]
theorem j_sub {x y : Int64} (h1 : -9223372036854775808 ≤ x.toInt - y.toInt) (h2 : x.toInt - y.toInt ≤ 9223372036854775807) : (x - y).toInt = x.toInt - y.toInt := by
  rw [Int64.toInt_sub, Int.bmod_eq_of_le (by omega) (by omega)]
theorem j_mul {x y : Int64} (h1 : -9223372036854775808 ≤ x.toInt * y.toInt) (h2 : x.toInt * y.toInt ≤ 9223372036854775807) : (x * y).toInt = x.toInt * y.toInt := by
  rw [Int64.toInt_mul, Int.bmod_eq_of_le (by omega) (by omega)]
theorem j_div {x y : Int64} (h1 : -9223372036854775808 ≤ x.toInt.tdiv y.toInt) (h2 : x.toInt.tdiv y.toInt ≤ 9223372036854775807) : (x / y).toInt = x.toInt.tdiv y.toInt := by
  rw [Int64.toInt_div, Int.bmod_eq_of_le (by omega) (by omega)]
/-- the sum, as a whole number -/
def zR (l : List (Nat × Int32)) : Int := (l.map fun q => q.2.toInt).sum
def bdR (l : List (Nat × Int32)) : Prop := ∀ q, q ∈ l → -20000 ≤ q.2.toInt ∧ q.2.toInt ≤ 20000
theorem zR_b : ∀ (l : List (Nat × Int32)), bdR l → -20000 * (l.length : Int) ≤ zR l ∧ zR l ≤ 20000 * (l.length : Int) := by
  intro l
  induction l with
  | nil => intro _; exact ⟨by simp [zR], by simp [zR]⟩
  | cons q l ih =>
    intro h
    have h1 := h q List.mem_cons_self
    have h2 := ih fun x hx => h x (List.mem_cons_of_mem _ hx)
    have e : zR (q :: l) = q.2.toInt + zR l := by simp [zR]
    rw [e, List.length_cons]
    omega
theorem smR_i : ∀ (l : List (Nat × Int32)) (a : Int32), bdR l → -1000000000 + 20000 * (l.length : Int) ≤ a.toInt → a.toInt ≤ 1000000000 - 20000 * (l.length : Int) → (smR l a).toInt = a.toInt + zR l := by
  intro l
  induction l with
  | nil => intro a _ _ _; simp [smR, zR]
  | cons q l ih =>
    intro a h b1 b2
    rw [List.length_cons] at b1 b2
    have h1 := h q List.mem_cons_self
    have e : zR (q :: l) = q.2.toInt + zR l := by simp [zR]
    have e2 : (a + q.2).toInt = a.toInt + q.2.toInt := i_add (by omega) (by omega)
    show (smR l (a + q.2)).toInt = _
    rw [ih (a + q.2) (fun x hx => h x (List.mem_cons_of_mem _ hx)) (by rw [e2]; omega) (by rw [e2]; omega), e2, e]
    omega
/-- the sum, as the class keeps it -/
def sL9 (l : List (Nat × Int32)) : Int64 := l.foldl (fun a q => a + q.2.toInt64) 0
theorem sL9_i : ∀ (l : List (Nat × Int32)) (a : Int64), bdR l → -1000000000 + 20000 * (l.length : Int) ≤ a.toInt → a.toInt ≤ 1000000000 - 20000 * (l.length : Int) → (l.foldl (fun a q => a + q.2.toInt64) a).toInt = a.toInt + zR l := by
  intro l
  induction l with
  | nil => intro a _ _ _; simp [zR]
  | cons q l ih =>
    intro a h b1 b2
    rw [List.length_cons] at b1 b2
    have h1 := h q List.mem_cons_self
    have e : zR (q :: l) = q.2.toInt + zR l := by simp [zR]
    have e2 : (a + q.2.toInt64).toInt = a.toInt + q.2.toInt := by
      rw [j_add (by rw [Int32.toInt_toInt64]; omega) (by rw [Int32.toInt_toInt64]; omega), Int32.toInt_toInt64]
    rw [List.foldl_cons, ih (a + q.2.toInt64) (fun x hx => h x (List.mem_cons_of_mem _ hx)) (by rw [e2]; omega) (by rw [e2]; omega), e2, e]
    omega
/-- rounding down, and to the nearest -/
def rdN (S n : Int) : Int := if n ≤ 2 * (S - S / n * n) then S / n + 1 else S / n
section MEA
variable {x : Int32} {n : Nat}
theorem td_b {S : Int} {n : Nat} (hn : 1 ≤ n) (h1 : -1900000 ≤ S) (h2 : S ≤ 1900000) : S.tdiv n = (if 0 ≤ S then S / n else if S / n * n = S then S / n else S / n + 1) := by
  have hn0 : (0 : Int) < n := by omega
  have e0 := Int.mul_ediv_add_emod S n
  have r0 := Int.emod_nonneg S (Int.ne_of_gt hn0)
  have r1 := Int.emod_lt_of_pos S hn0
  rw [Int.tdiv_eq_ediv]
  by_cases h : 0 ≤ S
  · rw [if_pos h]; simp [h]
  · rw [if_neg h]
    by_cases hd : S / n * n = S
    · have : (n : Int) ∣ S := ⟨S / n, by rw [Int.mul_comm]; exact hd.symm⟩
      rw [if_pos hd]; simp [this]
    · have hnd : ¬ (n : Int) ∣ S := fun q => hd (Int.ediv_mul_cancel q)
      have hs : (n : Int).sign = 1 := Int.sign_eq_one_of_pos hn0
      rw [if_neg hd]; simp [h, hnd, hs]
theorem ed_b {S : Int} {n : Nat} (hn : 1 ≤ n) : S / n * n ≤ S ∧ S < S / n * n + n := by
  have hn0 : (0 : Int) < n := by omega
  have e0 := Int.mul_ediv_add_emod S n
  have r0 := Int.emod_nonneg S (Int.ne_of_gt hn0)
  have r1 := Int.emod_lt_of_pos S hn0
  have e1 : (n : Int) * (S / n) = S / n * n := Int.mul_comm _ _
  omega
theorem ed_r {S : Int} {n : Nat} (hn : 1 ≤ n) (h1 : -1900000 ≤ S) (h2 : S ≤ 1900000) : -1900000 ≤ S / n ∧ S / n ≤ 1900000 := by
  have hn0 : (0 : Int) < n := by omega
  constructor
  · refine (Int.le_ediv_iff_mul_le hn0).mpr ?_
    have : -1900000 * (n : Int) ≤ -1900000 := by omega
    omega
  · have := (Int.ediv_lt_iff_lt_mul (a := S) (b := 1900001) hn0).mpr (by omega)
    omega
theorem lo_i (hn : 1 ≤ n) (hn2 : n ≤ 90) (h1 : -1900000 ≤ x.toInt) (h2 : x.toInt ≤ 1900000) : (loL x (nI n)).toInt = x.toInt / n ∧ mnOk x (nI n) := by
  obtain ⟨S, hS⟩ : ∃ S, S = x.toInt := ⟨_, rfl⟩
  rw [← hS] at h1 h2 ⊢
  have en : (nI n).toInt = n := nI_toInt (by omega)
  have e1 := td_b hn h1 h2
  obtain ⟨b1, b2⟩ := ed_b (S := S) hn
  obtain ⟨c1, c2⟩ := ed_r hn h1 h2
  have hq : (x / nI n).toInt = S.tdiv n := by
    rw [i_div, en, ← hS] <;> rw [en, ← hS, e1] <;> (split <;> (try split) <;> omega)
  have b3 : (S / n + 1) * n = S / n * n + n := by rw [Int.add_mul, Int.one_mul]
  have hm : (x / nI n * nI n).toInt = S.tdiv n * n := by
    have := hq
    rw [i_mul, hq, en] <;> rw [hq, en, e1] <;> (split <;> (try split) <;> omega)
  unfold loL mnOk
  by_cases hc : x < x / nI n * nI n
  · have hc2 := Int32.lt_iff_toInt_lt.mp hc
    rw [hm, ← hS, e1] at hc2
    rw [if_pos hc]
    have hneg : ¬ 0 ≤ S := fun z => by rw [if_pos z] at hc2; omega
    have hnd : ¬ S / n * n = S := fun z => by rw [if_neg hneg, if_pos z] at hc2; omega
    rw [if_neg hneg, if_neg hnd] at e1
    have e5 : (x / nI n - 1).toInt = S / n := by
      rw [i_sub, hq, e1, show (1 : Int32).toInt = 1 by decide] <;> (try rw [hq, e1, show (1 : Int32).toInt = 1 by decide]) <;> omega
    refine ⟨e5, fun _ => ?_⟩
    refine Int32.le_iff_toInt_le.mpr ?_
    rw [i_mul, e5, en, ← hS] <;> (try rw [e5, en]) <;> omega
  · rw [if_neg hc]
    have hc2 : ¬ (x.toInt < (x / nI n * nI n).toInt) := fun z => hc (Int32.lt_iff_toInt_lt.mpr z)
    rw [hm, ← hS, e1] at hc2
    refine ⟨?_, fun z => absurd z hc⟩
    rw [hq, e1]
    by_cases h0 : 0 ≤ S
    · rw [if_pos h0]
    · rw [if_neg h0] at hc2 ⊢
      by_cases hd : S / n * n = S
      · rw [if_pos hd]
      · rw [if_neg hd] at hc2 ⊢; omega
theorem mn_i (hn : 1 ≤ n) (hn2 : n ≤ 90) (h1 : -1900000 ≤ x.toInt) (h2 : x.toInt ≤ 1900000) : (mnL x (nI n)).toInt = rdN x.toInt n := by
  have hlo := (lo_i hn hn2 h1 h2).1
  obtain ⟨S, hS⟩ : ∃ S, S = x.toInt := ⟨_, rfl⟩
  have en : (nI n).toInt = n := nI_toInt (by omega)
  rw [← hS] at h1 h2 hlo ⊢
  obtain ⟨b1, b2⟩ := ed_b (S := S) hn
  obtain ⟨c1, c2⟩ := ed_r hn h1 h2
  have e1 : (loL x (nI n) * nI n).toInt = S / n * n := by
    rw [i_mul, hlo, en] <;> (try rw [hlo, en]) <;> omega
  have e2 : (x - loL x (nI n) * nI n).toInt = S - S / n * n := by
    rw [i_sub, e1, ← hS] <;> (try rw [e1, ← hS]) <;> omega
  have e3 : (2 * (x - loL x (nI n) * nI n)).toInt = 2 * (S - S / n * n) := by
    rw [i_mul, e2, show (2 : Int32).toInt = 2 by decide] <;> (try rw [e2, show (2 : Int32).toInt = 2 by decide]) <;> omega
  unfold mnL rdN
  by_cases hc : nI n ≤ 2 * (x - loL x (nI n) * nI n)
  · have hc2 := Int32.le_iff_toInt_le.mp hc
    rw [e3, en] at hc2
    rw [if_pos hc, if_pos hc2]
    rw [i_add, hlo, show (1 : Int32).toInt = 1 by decide] <;> (try rw [hlo, show (1 : Int32).toInt = 1 by decide]) <;> omega
  · have hc2 : ¬ ((n : Int) ≤ 2 * (S - S / n * n)) := fun z => hc (Int32.le_iff_toInt_le.mpr (by rw [e3, en]; exact z))
    rw [if_neg hc, if_neg hc2, hlo]
theorem xor_ge {x y : Int64} (hy : 0 ≤ y.toInt) : (0 ≤ lg_cmp (x ^^^ y) 0) ↔ 0 ≤ x.toInt := by
  rw [lg_cmp_ge, Int64.le_iff_toInt_le, show (0 : Int64).toInt = 0 by decide]
  have e1 : (x ^^^ y).toInt = (x.toBitVec ^^^ y.toBitVec).toInt := rfl
  have e2 : x.toInt = x.toBitVec.toInt := rfl
  have e3 : y.toInt = y.toBitVec.toInt := rfl
  have m1 := BitVec.msb_eq_toInt (x := x.toBitVec ^^^ y.toBitVec)
  have m2 := BitVec.msb_eq_toInt (x := x.toBitVec)
  have m3 := BitVec.msb_eq_toInt (x := y.toBitVec)
  rw [BitVec.msb_xor, m2, m3] at m1
  rw [e1, e2]
  rw [e3] at hy
  by_cases h : x.toBitVec.toInt < 0
  · by_cases h2 : (x.toBitVec ^^^ y.toBitVec).toInt < 0
    · omega
    · rw [decide_eq_true h, decide_eq_false (show ¬ y.toBitVec.toInt < 0 by omega), decide_eq_false h2] at m1
      cases m1
  · by_cases h2 : (x.toBitVec ^^^ y.toBitVec).toInt < 0
    · rw [decide_eq_false h, decide_eq_false (show ¬ y.toBitVec.toInt < 0 by omega), decide_eq_true h2] at m1
      cases m1
    · omega
theorem fd_i {a : Int64} {k : Nat} (hk : 1 ≤ k) (hk2 : k ≤ 180) {b : Int64} (hb : b.toInt = k) (h1 : -1900000 ≤ a.toInt) (h2 : a.toInt ≤ 1900000) : (fdivL a b).toInt = a.toInt / k := by
  obtain ⟨S, hS⟩ : ∃ S, S = a.toInt := ⟨_, rfl⟩
  have hx := xor_ge (x := a) (y := b) (by omega)
  rw [← hS] at h1 h2 hx ⊢
  have e1 := td_b hk h1 h2
  obtain ⟨b1, b2⟩ := ed_b (S := S) hk
  obtain ⟨c1, c2⟩ := ed_r hk h1 h2
  have hq : (a / b).toInt = S.tdiv k := by
    rw [j_div, hb, ← hS] <;> rw [hb, ← hS, e1] <;> (split <;> (try split) <;> omega)
  have b3 : (S / k + 1) * k = S / k * k + k := by rw [Int.add_mul, Int.one_mul]
  unfold fdivL
  by_cases h0 : 0 ≤ S
  · rw [if_pos (hx.mpr h0), hq, e1, if_pos h0]
  · rw [if_neg (fun z => h0 (hx.mp z))]
    rw [if_neg h0] at e1
    by_cases hd : S / k * k = S
    · rw [if_pos hd] at e1
      have em : a / b * b = a := by
        apply Int64.toInt_inj.mp
        rw [j_mul, hq, hb, e1, ← hS] <;> (try rw [hq, hb, e1]) <;> omega
      rw [em, if_pos (show lg_cmp a a = 0 by simp [lg_cmp]), hq, e1]
    · rw [if_neg hd] at e1
      have em : (a / b * b).toInt = S / k * k + k := by
        rw [j_mul, hq, hb, e1, b3] <;> (try rw [hq, hb, e1, b3]) <;> omega
      have hlt : a / b * b > a := Int64.lt_iff_toInt_lt.mpr (by rw [em, ← hS]; omega)
      rw [if_neg (show ¬ lg_cmp (a / b * b) a = 0 by unfold lg_cmp; rw [if_pos hlt]; decide)]
      rw [j_sub, hq, e1, show (1 : Int64).toInt = 1 by decide] <;> (try rw [hq, e1, show (1 : Int64).toInt = 1 by decide]) <;> omega
theorem rd_ed {S : Int} {n : Nat} (hn : 1 ≤ n) : (2 * S + n) / (2 * n : Nat) = rdN S n := by
  obtain ⟨b1, b2⟩ := ed_b (S := S) hn
  have hn0 : (0 : Int) < (2 * n : Nat) := by omega
  unfold rdN
  obtain ⟨F, hF⟩ : ∃ F, F = S / n := ⟨_, rfl⟩
  rw [← hF] at b1 b2 ⊢
  have m1 : F * ((2 * n : Nat) : Int) = 2 * (F * n) := by rw [show ((2 * n : Nat) : Int) = 2 * (n : Int) by omega, ← Int.mul_assoc, Int.mul_comm F 2, Int.mul_assoc]
  have m2 : (F + 1) * ((2 * n : Nat) : Int) = 2 * (F * n) + 2 * n := by rw [Int.add_mul, m1]; omega
  have m3 : (F + 1 + 1) * ((2 * n : Nat) : Int) = 2 * (F * n) + 4 * n := by rw [Int.add_mul, m2]; omega
  by_cases hc : (n : Int) ≤ 2 * (S - F * n)
  · rw [if_pos hc]
    apply Int.le_antisymm
    · exact Int.lt_add_one_iff.mp ((Int.ediv_lt_iff_lt_mul hn0).mpr (by rw [m3]; omega))
    · exact (Int.le_ediv_iff_mul_le hn0).mpr (by rw [m2]; omega)
  · rw [if_neg hc]
    apply Int.le_antisymm
    · exact Int.lt_add_one_iff.mp ((Int.ediv_lt_iff_lt_mul hn0).mpr (by rw [m2]; omega))
    · exact (Int.le_ediv_iff_mul_le hn0).mpr (by rw [m1]; omega)
theorem rd_b {S : Int} {n : Nat} (hn : 1 ≤ n) (h1 : -1900000 ≤ S) (h2 : S ≤ 1900000) : -1900000 ≤ rdN S n ∧ rdN S n ≤ 1900001 := by
  obtain ⟨c1, c2⟩ := ed_r hn h1 h2
  unfold rdN
  split <;> omega
theorem cm_i {L : Int64} (hn : 1 ≤ n) (hn2 : n ≤ 90) (h1 : -900000 ≤ L.toInt) (h2 : L.toInt ≤ 900000) : (cMean (nI n) L).toInt = rdN L.toInt n := by
  have en : (nI n).toInt = n := nI_toInt (by omega)
  have e64 : (nI n).toInt64.toInt = n := by rw [Int32.toInt_toInt64, en]
  unfold cMean
  rw [if_neg (fun z => by have := Int32.le_iff_toInt_le.mp z; rw [en, show (0 : Int32).toInt = 0 by decide] at this; omega)]
  have a1 : (2 * L).toInt = 2 * L.toInt := by
    rw [j_mul, show (2 : Int64).toInt = 2 by decide] <;> (try rw [show (2 : Int64).toInt = 2 by decide]) <;> omega
  have a2 : (2 * L + (nI n).toInt64).toInt = 2 * L.toInt + n := by
    rw [j_add, a1, e64] <;> (try rw [a1, e64]) <;> omega
  have a3 : (2 * (nI n).toInt64).toInt = ((2 * n : Nat) : Int) := by
    rw [j_mul, e64, show (2 : Int64).toInt = 2 by decide] <;> (try rw [e64, show (2 : Int64).toInt = 2 by decide]) <;> omega
  have a4 := fd_i (a := 2 * L + (nI n).toInt64) (k := 2 * n) (by omega) (by omega) a3 (by rw [a2]; omega) (by rw [a2]; omega)
  rw [a2, rd_ed hn] at a4
  obtain ⟨r1, r2⟩ := rd_b (S := L.toInt) hn (by omega) (by omega)
  rw [Int64.toInt_toInt32, a4, Int.bmod_eq_of_le (by omega) (by omega)]
/-- the two means -/
theorem mean_e {l : List (Nat × Int32)} (hb : bdR l) (hn : 1 ≤ l.length) (hn2 : l.length ≤ 40) : mnOk (smR l 0) (nI l.length) ∧ mnL (smR l 0) (nI l.length) = cMean (nI l.length) (sL9 l) := by
  obtain ⟨z1, z2⟩ := zR_b l hb
  have e1 : (smR l 0).toInt = zR l := by
    rw [smR_i l 0 hb (by rw [show (0 : Int32).toInt = 0 by decide]; omega) (by rw [show (0 : Int32).toInt = 0 by decide]; omega), show (0 : Int32).toInt = 0 by decide]
    omega
  have e2 : (sL9 l).toInt = zR l := by
    unfold sL9
    rw [sL9_i l 0 hb (by rw [show (0 : Int64).toInt = 0 by decide]; omega) (by rw [show (0 : Int64).toInt = 0 by decide]; omega), show (0 : Int64).toInt = 0 by decide]
    omega
  refine ⟨(lo_i hn (by omega) (by rw [e1]; omega) (by rw [e1]; omega)).2, ?_⟩
  apply Int32.toInt_inj.mp
  rw [mn_i hn (by omega) (by rw [e1]; omega) (by rw [e1]; omega), cm_i hn (by omega) (by rw [e2]; omega) (by rw [e2]; omega), e1, e2]
end MEA
