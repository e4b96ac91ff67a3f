/-! tokens of a text, and what a statement makes of a draft -/
def bA (b : Nat → Int32) (p : Nat) (L : List Int32) : Prop := ∀ j x, L[j]? = some x → b (p + j) = x
section TOK
variable {b : Nat → Int32} {n e s l p : Nat}
theorem bA.f1 {L1 L2 : List Int32} (h : bA b p (L1 ++ L2)) : bA b p L1 := fun j x hx => h j x (by rw [List.getElem?_append_left (List.getElem?_eq_some_iff.mp hx).1]; exact hx)
theorem bA.r {L1 L2 : List Int32} (h : bA b p (L1 ++ L2)) : bA b (p + L1.length) L2 := fun j x hx => by
  have := h (L1.length + j) x (by rw [List.getElem?_append_right (Nat.le_add_right _ _), Nat.add_sub_cancel_left]; exact hx)
  rw [← Nat.add_assoc] at this
  exact this
theorem bA.c {x : Int32} {L : List Int32} (h : bA b p (x :: L)) : b p = x := h 0 x rfl
theorem bA_s {i j : Nat} (h : bA b p (sBy i)) (hj : j < sLn i) : b (p + j) = sB i j := h j _ (sBy_at hj)
theorem run_e {κ : Nat → Int32} {k : Int32} : ∀ (l f i : Nat), (∀ j, j < l → κ (i + j) = k) → κ (i + l) ≠ k → l < f → runF κ k f i = i + l := by
  intro l
  induction l with
  | zero =>
    intro f i _ h2 hf
    cases f with
    | zero => exact absurd hf (Nat.not_lt_zero _)
    | succ f => rw [runF, if_neg (show ¬ κ i = k from h2)]; rfl
  | succ l ih =>
    intro f i h1 h2 hf
    cases f with
    | zero => exact absurd hf (Nat.not_lt_zero _)
    | succ f =>
      have h0 : κ i = k := h1 0 (Nat.succ_pos _)
      rw [runF, if_pos h0, ih f (i + 1) (fun j hj => by have := h1 (j + 1) (by omega); rw [show i + 1 + j = i + (j + 1) by omega]; exact this) (by rw [show i + 1 + l = i + (l + 1) by omega]; exact h2) (by omega)]
      omega
theorem kp_in (h : p < n) : kp b n p = ck (b p) := if_neg (by omega)
theorem tok_g (kk : Int32) (hkk : kk = 2 ∨ kk = 3) (hs : s = e ∨ (s = e + 1 ∧ kp b n e = 1)) (h1 : 1 ≤ l) (h8 : kk = 2 → l ≤ 8) (h4 : kk = 3 → l ≤ 4) (h : ∀ j, j < l → kp b n (s + j) = kk) (hn : kp b n (s + l) ≠ kk) : tS b n e = s ∧ tE b n e = s + l ∧ tK b n e = kk := by
  have k0 : kp b n s = kk := h 0 h1
  have n1 : kk ≠ 1 := by rcases hkk with z | z <;> rw [z] <;> decide
  have n0 : kk ≠ 0 := by rcases hkk with z | z <;> rw [z] <;> decide
  have l8 : l ≤ 8 := by
    rcases hkk with z | z
    · exact h8 z
    · exact Nat.le_trans (h4 z) (by decide)
  have eS : tS b n e = s := by
    unfold tS
    rcases hs with z | ⟨z, y⟩
    · rw [run_e 0 601 e (fun j hj => absurd hj (Nat.not_lt_zero _)) (by rw [Nat.add_zero, ← z, k0]; exact n1) (by decide), z]; rfl
    · rw [run_e 1 601 e (fun j hj => by rw [show j = 0 by omega]; exact y) (by rw [← z, k0]; exact n1) (by decide), z]
  have eE : tE b n e = s + l := by
    unfold tE
    rw [eS, k0, if_neg n0, if_pos hkk, run_e (l - 1) 601 (s + 1) (fun j hj => by rw [show s + 1 + j = s + (j + 1) by omega]; exact h (j + 1) (by omega)) (by rw [show s + 1 + (l - 1) = s + l by omega]; exact hn) (by omega)]
    omega
  refine ⟨eS, eE, ?_⟩
  unfold tK
  rw [eS, eE, k0, if_neg]
  rintro (⟨z, y⟩ | ⟨z, y⟩)
  · have := h8 z; omega
  · have := h4 z; omega
theorem tok_s (h : kp b n e = 4) : tS b n e = e ∧ tE b n e = e + 1 ∧ tK b n e = 4 := by
  have eS : tS b n e = e := by
    unfold tS
    rw [run_e 0 601 e (fun j hj => absurd hj (Nat.not_lt_zero _)) (by rw [Nat.add_zero, h]; decide) (by decide)]; rfl
  have eE : tE b n e = e + 1 := by
    unfold tE
    rw [eS, h, if_neg (by decide), if_neg (by decide)]
  refine ⟨eS, eE, ?_⟩
  unfold tK
  rw [eS, h, if_neg (by rintro (⟨z, -⟩ | ⟨z, -⟩) <;> exact absurd z (by decide))]
theorem sc_4 (h : kp b n e = 4) : scC (tK b n e) = 0 ∧ tE b n e = e + 1 := by
  obtain ⟨-, h2, h3⟩ := tok_s h
  exact ⟨by rw [h3]; rfl, h2⟩
theorem nu_1 (a d : Nat) : nI a * 10 + nI (48 + d) - 48 = nI (10 * a + d) := by
  have h1 : nI (10 * a + d) = 10 * nI a + nI d := by unfold nI; rw [Int32.ofNat_add, Int32.ofNat_mul]; rfl
  have h2 : nI (48 + d) = 48 + nI d := by unfold nI; rw [Int32.ofNat_add]; rfl
  rw [h1, h2]
  grind
theorem dg_dig {v j : Nat} {x : Int32} (hv : v < 10000) (hx : (dgS v)[j]? = some x) : ∃ k, x = nI (48 + k) ∧ k < 10 := by
  have hm := List.mem_of_getElem? hx
  by_cases z1 : v < 10
  · rw [dgS_1 z1] at hm
    simp only [List.mem_cons, List.mem_nil_iff, or_false] at hm
    exact ⟨v, hm, z1⟩
  · by_cases z2 : v < 100
    · rw [dgS_2 z1 z2] at hm
      simp only [List.mem_cons, List.mem_nil_iff, or_false] at hm
      rcases hm with hm | hm
      · exact ⟨_, hm, by omega⟩
      · exact ⟨_, hm, by omega⟩
    · by_cases z3 : v < 1000
      · rw [dgS_3 z2 z3] at hm
        simp only [List.mem_cons, List.mem_nil_iff, or_false] at hm
        rcases hm with hm | hm | hm
        · exact ⟨_, hm, by omega⟩
        · exact ⟨_, hm, by omega⟩
        · exact ⟨_, hm, by omega⟩
      · rw [dgS_4 z3 hv] at hm
        simp only [List.mem_cons, List.mem_nil_iff, or_false] at hm
        rcases hm with hm | hm | hm | hm
        · exact ⟨_, hm, by omega⟩
        · exact ⟨_, hm, by omega⟩
        · exact ⟨_, hm, by omega⟩
        · exact ⟨_, hm, by omega⟩
theorem szF_b (v : Nat) : 1 ≤ szF v ∧ szF v ≤ 4 := by
  unfold szF
  repeat' split
  all_goals omega
theorem nu_dg {v : Nat} (hv : v < 10000) (h : bA b s (dgS v)) : nuF b s (s + szF v) = nI v := by
  have h0 : (0 : Int32) = nI 0 := rfl
  unfold nuF szF
  by_cases z1 : v < 10
  · rw [dgS_1 z1] at h
    rw [if_pos z1, show s + 1 - s = 1 by omega, nuG, nuG, show b s = _ from h 0 _ rfl, h0, nu_1]
    congr 1; omega
  · by_cases z2 : v < 100
    · rw [dgS_2 z1 z2] at h
      rw [if_neg z1, if_pos z2, show s + 2 - s = 2 by omega, nuG, nuG, nuG, show b s = _ from h 0 _ rfl, show b (s + 1) = _ from h 1 _ rfl, h0, nu_1, nu_1]
      congr 1; omega
    · by_cases z3 : v < 1000
      · rw [dgS_3 z2 z3] at h
        rw [if_neg z1, if_neg z2, if_pos z3, show s + 3 - s = 3 by omega, nuG, nuG, nuG, nuG, show b s = _ from h 0 _ rfl, show b (s + 1) = _ from h 1 _ rfl, show b (s + 1 + 1) = _ from h 2 _ rfl, h0, nu_1, nu_1, nu_1]
        congr 1; omega
      · rw [dgS_4 z3 hv] at h
        rw [if_neg z1, if_neg z2, if_neg z3, show s + 4 - s = 4 by omega, nuG, nuG, nuG, nuG, nuG, show b s = _ from h 0 _ rfl, show b (s + 1) = _ from h 1 _ rfl, show b (s + 1 + 1) = _ from h 2 _ rfl, show b (s + 1 + 1 + 1) = _ from h 3 _ rfl, h0, nu_1, nu_1, nu_1, nu_1]
        congr 1; omega
theorem ck_d : ∀ k, k < 10 → ck (nI (48 + k)) = 3 := by decide
theorem ck_l : ∀ k, k < 26 → ck (nI (97 + k)) = 2 := by decide
/-- a number in the text -/
theorem tok_n {v lo hi : Nat} (hv : v < 10000) (hs : s = e ∨ (s = e + 1 ∧ kp b n e = 1)) (h : bA b s (dgS v)) (hn : s + szF v ≤ n) (hx : kp b n (s + szF v) ≠ 3) (h1 : lo ≤ v) (h2 : v ≤ hi) (h3 : hi < 10000) : nbC b n e (nI lo) (nI hi) = 0 ∧ nbV b n e = nI v ∧ tE b n e = s + szF v := by
  have hb := szF_b v
  have hl := dgS_len hv
  obtain ⟨t1, t2, t3⟩ := tok_g 3 (Or.inr rfl) hs hb.1 (fun z => absurd z (by decide)) (fun _ => hb.2) (fun j hj => by
    have hj2 : j < (dgS v).length := by omega
    obtain ⟨k, hk, hk2⟩ := dg_dig hv (List.getElem?_eq_getElem hj2)
    rw [kp_in (by omega), h j _ (List.getElem?_eq_getElem hj2), hk, ck_d k hk2]) hx
  have ev : nbV b n e = nI v := by
    unfold nbV
    rw [t1, t2]
    exact nu_dg hv h
  refine ⟨?_, ev, t2⟩
  unfold nbC
  rw [if_pos t3, ev, if_pos ⟨Int32.not_lt.mp (nI_nlt h1 (by omega)), Int32.not_lt.mp (nI_nlt h2 (by omega))⟩]
/-- a name of one letter -/
theorem tok_a {k : Nat} (hk : k < 26) (hs : s = e ∨ (s = e + 1 ∧ kp b n e = 1)) (h : b s = nI (97 + k)) (hn : s < n) (hx : kp b n (s + 1) ≠ 2) : nnC b n e = 0 ∧ nmF b (tS b n e) (tE b n e) = nI (k + 1) ∧ tE b n e = s + 1 := by
  obtain ⟨t1, t2, t3⟩ := tok_g 2 (Or.inl rfl) hs (Nat.le_refl 1) (fun _ => by decide) (fun z => absurd z (by decide)) (fun j hj => by
    rw [show j = 0 by omega, Nat.add_zero, kp_in hn, h, ck_l k hk]) hx
  refine ⟨?_, ?_, t2⟩
  · unfold nnC
    rw [t1, t2, if_pos ⟨t3, by omega⟩]
  · rw [t1, t2]
    unfold nmF
    rw [show s + 1 - s = 1 by omega, nmG, nmG, show s + 1 - 1 = s by omega, h]
    have : ∀ k, k < 26 → ((0 : Int32) <<< ((5 : Int32) &&& 31)) + nI (97 + k) - 97 + 1 = nI (k + 1) := by decide
    exact this k hk
/-- a word in the text, the letters of string i from place q on -/
theorem tokW9 {w : Nat} (hs : s = e ∨ (s = e + 1 ∧ kp b n e = 1)) (h : ∀ j, j < l → b (s + j) = sB w j) (hl : sLn w = l) (h1 : 1 ≤ l) (h8 : l ≤ 8) (hc : ∀ j, j < l → ck (sB w j) = 2) (hn : s + l ≤ n) (hx : kp b n (s + l) ≠ 2) : tS b n e = s ∧ tE b n e = s + l ∧ tK b n e = 2 ∧ isW b (tS b n e) (tE b n e) (tK b n e) w = true := by
  obtain ⟨t1, t2, t3⟩ := tok_g 2 (Or.inl rfl) hs h1 (fun _ => h8) (fun z => absurd z (by decide)) (fun j hj => by rw [kp_in (by omega), h j hj, hc j hj]) hx
  refine ⟨t1, t2, t3, ?_⟩
  rw [t1, t2, t3]
  have key : ∀ f i, i + f = l → eqW b s w f i = true := by
    intro f
    induction f with
    | zero => intro i _; rfl
    | succ f ih =>
      intro i hi
      rw [eqW, h i (by omega), decide_eq_true rfl, ih (i + 1) (by omega)]
      rfl
  unfold isW
  rw [decide_eq_true rfl, decide_eq_true (show s + l - s = sLn w by omega), hl, key l 0 (by omega)]
  rfl
theorem isW_n {w : Nat} {k : Int32} (hw : 0 < sLn w) (h : b s ≠ sB w 0) : ¬ isW b s e k w = true := by
  unfold isW
  obtain ⟨f, hf⟩ : ∃ f, sLn w = f + 1 := ⟨sLn w - 1, by omega⟩
  rw [hf, eqW, decide_eq_false (show ¬ b (s + 0) = sB w 0 from h), Bool.false_and, Bool.and_false, Bool.and_false]
  decide
theorem isW_k {w : Nat} {k : Int32} (h : k ≠ 2) : ¬ isW b s e k w = true := by
  unfold isW
  rw [decide_eq_false h, Bool.false_and]
  decide
end TOK
theorem su_s {b : Nat → Int32} {n f e e' : Nat} {Y Y' : Yd} (k0 : ¬ tK b n e = 0) (h : stmP b n (tS b n e) (tE b n e) (tK b n e) Y = .inr (e', Y')) : suP b n (f + 1) e Y = suP b n f e' Y' := by
  rw [suP, if_neg k0, h]
section STS
variable {b : Nat → Int32} {n s e m e1 e2 e3 e4 e5 e6 j : Nat} {k nm ta go mo tt tr : Int32} {Y : Yd}
theorem st_cr (h : isW b s e k 11 = true ∧ mY Y = m ∧ ¬ 16 ≤ m ∧ nnC b n e = 0 ∧ cnF Y (nmF b (tS b n e) (tE b n e)) 16 0 = none ∧ nmF b (tS b n e) (tE b n e) = nm ∧ tE b n e = e1 ∧ nbC b n e1 1 50 = 0 ∧ nbV b n e1 = ta ∧ tE b n e1 = e2 ∧ nbC b n e2 0 500 = 0 ∧ nbV b n e2 = go ∧ tE b n e2 = e3 ∧ ¬ isW b (tS b n e3) (tE b n e3) (tK b n e3) 13 = true ∧ scC (tK b n e3) = 0 ∧ tE b n e3 = e4) : stmP b n s e k Y = .inr (e4, acY Y m nm ta go) := by
  obtain ⟨h1, h2, h3, h4, h5, h6, h7, h8, h9, h10, h11, h12, h13, h14, h15, h16⟩ := h
  unfold stmP
  rw [if_pos h1]
  unfold crP0
  rw [h2, if_neg h3]
  unfold crP1
  rw [if_pos h4]
  unfold crP2
  rw [if_pos h5, h6, h7]
  unfold crP3
  rw [if_pos h8, h9, h10]
  unfold crP4
  rw [if_pos h11, h12, h13]
  unfold crP5
  rw [if_neg h14]
  unfold crP9
  rw [if_pos h15, h16]
theorem st_ne (h : isW b s e k 11 = true ∧ mY Y = m ∧ ¬ 16 ≤ m ∧ nnC b n e = 0 ∧ cnF Y (nmF b (tS b n e) (tE b n e)) 16 0 = none ∧ nmF b (tS b n e) (tE b n e) = nm ∧ tE b n e = e1 ∧ nbC b n e1 1 50 = 0 ∧ nbV b n e1 = ta ∧ tE b n e1 = e2 ∧ nbC b n e2 0 500 = 0 ∧ nbV b n e2 = go ∧ tE b n e2 = e3 ∧ isW b (tS b n e3) (tE b n e3) (tK b n e3) 13 = true ∧ tE b n e3 = e4 ∧ nnC b n e4 = 0 ∧ rqC b (tS b n e4) (tE b n e4) Y = 0 ∧ cnF Y (nmF b (tS b n e4) (tE b n e4)) 16 0 = some j ∧ tE b n e4 = e5 ∧ scC (tK b n e5) = 0 ∧ tE b n e5 = e6) : stmP b n s e k Y = .inr (e6, neY (acY Y m nm ta go) m j) := by
  obtain ⟨h1, h2, h3, h4, h5, h6, h7, h8, h9, h10, h11, h12, h13, h14, h15, h16, h17, h18, h19, h20, h21⟩ := h
  unfold stmP
  rw [if_pos h1]
  unfold crP0
  rw [h2, if_neg h3]
  unfold crP1
  rw [if_pos h4]
  unfold crP2
  rw [if_pos h5, h6, h7]
  unfold crP3
  rw [if_pos h8, h9, h10]
  unfold crP4
  rw [if_pos h11, h12, h13]
  unfold crP5
  rw [if_pos h14, h15]
  unfold crP6
  rw [if_pos h16]
  unfold crP7
  rw [if_pos h17, h18]
  dsimp only
  unfold crP9
  rw [h19, if_pos h20, h21]
theorem st_bu (h : ¬ isW b s e k 11 = true ∧ isW b s e k 12 = true ∧ wY Y = m ∧ ¬ 6 ≤ m ∧ nnC b n e = 0 ∧ bnF Y (nmF b (tS b n e) (tE b n e)) 6 0 = none ∧ nmF b (tS b n e) (tE b n e) = nm ∧ tE b n e = e1 ∧ nbC b n e1 0 9999 = 0 ∧ nbV b n e1 = mo ∧ tE b n e1 = e2 ∧ nbC b n e2 0 50 = 0 ∧ nbV b n e2 = tt ∧ tE b n e2 = e3 ∧ nbC b n e3 0 100 = 0 ∧ nbV b n e3 = tr ∧ tE b n e3 = e4 ∧ scC (tK b n e4) = 0 ∧ tE b n e4 = e5) : stmP b n s e k Y = .inr (e5, abY Y m nm mo tt tr) := by
  obtain ⟨h1, h2, h3, h4, h5, h6, h7, h8, h9, h10, h11, h12, h13, h14, h15, h16, h17, h18, h19⟩ := h
  unfold stmP
  rw [if_neg h1, if_pos h2]
  unfold buP0
  rw [h3, if_neg h4]
  unfold buP1
  rw [if_pos h5]
  unfold buP2
  rw [if_pos h6, h7, h8]
  unfold buP3
  rw [if_pos h9, h10, h11]
  unfold buP4
  rw [if_pos h12, h13, h14]
  unfold buP5
  rw [if_pos h15, h16, h17]
  unfold buP6
  rw [if_pos h18, h19]
theorem st_se {Y' : Yd} (h1 : ¬ isW b s e k 11 = true) (h2 : ¬ isW b s e k 12 = true) (hr : setR b n s e k Y = .inr (e1, Y')) (hs : scC (tK b n e1) = 0) (he : tE b n e1 = e2) : stmP b n s e k Y = .inr (e2, Y') := by
  unfold stmP
  rw [if_neg h1, if_neg h2, hr]
  unfold seP
  dsimp only
  rw [if_pos hs, he]
theorem st_1 {lo hi x : Int32} {F : Int32 → Yd} (h : nbC b n e lo hi = 0) (hv : nbV b n e = x) (he : tE b n e = e1) : st1 b n e lo hi F = .inr (e1, F x) := by
  unfold st1
  rw [if_pos h, hv, he]
end STS
