/-! the law's text, statement by statement -/
def crT (k ta go : Nat) (o : Option Nat) : List Int32 := sBy 4 ++ (nI (97 + k) :: nI 32 :: (dgS ta ++ (nI 32 :: (dgS go ++ (match o with
  | none => [nI 59]
  | some j => sBy 5 ++ [nI (97 + j), nI 59])))))
def ftT (mo tol tr am ag sd : Nat) : List Int32 := sBy 19 ++ (dgS mo ++ (nI 32 :: (dgS tol ++ (nI 32 :: (dgS tr ++ (sBy 20 ++ (dgS am ++ (sBy 21 ++ (dgS ag ++ (sBy 22 ++ (dgS sd ++ [nI 59])))))))))))
theorem sl4 : sLn 4 = 6 := by decide +kernel
theorem sl5 : sLn 5 = 4 := by decide +kernel
theorem sl19 : sLn 19 = 8 := by decide +kernel
theorem sl20 : sLn 20 = 16 := by decide +kernel
theorem sl21 : sLn 21 = 7 := by decide +kernel
theorem sl22 : sLn 22 = 6 := by decide +kernel
theorem w11 : sLn 11 = 5 ∧ (∀ j, j < 5 → sB 4 j = sB 11 j ∧ ck (sB 11 j) = 2) := by decide +kernel
theorem w12 : sLn 12 = 5 ∧ (∀ j, j < 5 → sB 19 j = sB 12 j ∧ ck (sB 12 j) = 2) ∧ sB 12 0 ≠ sB 11 0 := by decide +kernel
theorem w13 : sLn 13 = 2 ∧ ∀ j, j < 2 → sB 5 (1 + j) = sB 13 j ∧ ck (sB 13 j) = 2 := by decide +kernel
theorem w18 : sLn 18 = 5 ∧ (∀ j, j < 5 → sB 20 (1 + j) = sB 18 j ∧ ck (sB 18 j) = 2) ∧ sB 18 0 ≠ sB 11 0 ∧ sB 18 0 ≠ sB 12 0 ∧ sB 18 0 ≠ sB 14 0 ∧ sB 18 0 ≠ sB 15 0 ∧ sB 18 0 ≠ sB 16 0 ∧ sB 18 0 ≠ sB 17 0 := by decide +kernel
theorem w14 : sLn 14 = 5 ∧ (∀ j, j < 5 → sB 20 (10 + j) = sB 14 j ∧ ck (sB 14 j) = 2) ∧ sB 14 0 ≠ sB 11 0 ∧ sB 14 0 ≠ sB 12 0 := by decide +kernel
theorem w16 : sLn 16 = 5 ∧ (∀ j, j < 5 → sB 21 (1 + j) = sB 16 j ∧ ck (sB 16 j) = 2) ∧ sB 16 0 ≠ sB 11 0 ∧ sB 16 0 ≠ sB 12 0 ∧ sB 16 0 ≠ sB 14 0 ∧ sB 16 0 ≠ sB 15 0 := by decide +kernel
theorem w15 : sLn 15 = 4 ∧ (∀ j, j < 4 → sB 22 (1 + j) = sB 15 j ∧ ck (sB 15 j) = 2) ∧ sB 15 0 ≠ sB 11 0 ∧ sB 15 0 ≠ sB 12 0 ∧ sB 15 0 ≠ sB 14 0 := by decide +kernel
theorem wL : 0 < sLn 11 ∧ 0 < sLn 12 ∧ 0 < sLn 14 ∧ 0 < sLn 15 ∧ 0 < sLn 16 ∧ 0 < sLn 17 := by decide +kernel
theorem ch4 : sB 4 5 = nI 32 ∧ sB 5 0 = nI 32 ∧ sB 5 3 = nI 32 ∧ sB 19 5 = nI 32 ∧ sB 19 6 = nI 97 ∧ sB 19 7 = nI 32 := by decide +kernel
theorem ch20 : sB 20 0 = nI 59 ∧ sB 20 6 = nI 32 ∧ sB 20 7 = nI 50 ∧ sB 20 8 = nI 48 ∧ sB 20 9 = nI 59 ∧ sB 20 15 = nI 32 ∧ sB 21 0 = nI 59 ∧ sB 21 6 = nI 32 ∧ sB 22 0 = nI 59 ∧ sB 22 5 = nI 32 := by decide +kernel
theorem ck_32 : ck (nI 32) = 1 := by decide
theorem ck_59 : ck (nI 59) = 4 := by decide
section LDS
variable {b : Nat → Int32} {n e f : Nat} {Y : Yd}
theorem kp1 {p : Nat} (hn : p < n) (h : b p = nI 32) : kp b n p = 1 := by rw [kp_in hn, h, ck_32]
theorem kp4 {p : Nat} (hn : p < n) (h : b p = nI 59) : kp b n p = 4 := by rw [kp_in hn, h, ck_59]
theorem ld_cr {m ta go : Nat} (h : bA b e (crT m ta go none)) (hn : e + (10 + szF ta + szF go) ≤ n) (hm : m < 16) (hY : mY Y = m) (hnew : cnF Y (nI (m + 1)) 16 0 = none) (h1 : 1 ≤ ta) (h2 : ta ≤ 50) (h3 : go ≤ 500) : suP b n (f + 1) e Y = suP b n f (e + (10 + szF ta + szF go)) (acY Y m (nI (m + 1)) (nI ta) (nI go)) := by
  have g1 := h.f1
  have g2 := h.r
  rw [sBy_len, sl4] at g2
  have c6 : b (e + 6) = nI (97 + m) := g2.c
  have c7 : b (e + 7) = nI 32 := g2 1 _ rfl
  have g3 : bA b (e + 8) (dgS ta ++ (nI 32 :: (dgS go ++ [nI 59]))) := fun j x hx => by
    have := g2 (j + 2) x hx
    rw [show e + 8 + j = e + 6 + (j + 2) by omega]; exact this
  have g4 := g3.r
  rw [dgS_len (by omega)] at g4
  have c8 : b (e + 8 + szF ta) = nI 32 := g4.c
  have g5 : bA b (e + 9 + szF ta) (dgS go ++ [nI 59]) := fun j x hx => by
    have := g4 (j + 1) x hx
    rw [show e + 9 + szF ta + j = e + 8 + szF ta + (j + 1) by omega]; exact this
  have g6 := g5.r
  rw [dgS_len (by omega)] at g6
  have c9 : b (e + 9 + szF ta + szF go) = nI 59 := g6.c
  have c5 : b (e + 5) = nI 32 := (bA_s g1 (by rw [sl4]; decide)).trans ch4.1
  obtain ⟨t1, t2, t3, t4⟩ := tokW9 (b := b) (n := n) (e := e) (s := e) (l := 5) (w := 11) (Or.inl rfl) (fun j hj => (bA_s g1 (by rw [sl4]; omega)).trans (w11.2 j hj).1) w11.1 (by decide) (by decide) (fun j hj => (w11.2 j hj).2) (by omega) (by rw [kp1 (by omega) c5]; decide)
  obtain ⟨a1, a2, a3⟩ := tok_a (b := b) (n := n) (e := e + 5) (s := e + 6) (show m < 26 by omega) (Or.inr ⟨rfl, kp1 (by omega) c5⟩) c6 (by omega) (by rw [kp1 (by omega) c7]; decide)
  obtain ⟨n1, n2, n3⟩ := tok_n (b := b) (n := n) (e := e + 7) (s := e + 8) (v := ta) (lo := 1) (hi := 50) (by omega) (Or.inr ⟨rfl, kp1 (by omega) c7⟩) g3.f1 (by omega) (by rw [kp1 (by omega) c8]; decide) h1 h2 (by decide)
  obtain ⟨o1, o2, o3⟩ := tok_n (b := b) (n := n) (e := e + 8 + szF ta) (s := e + 9 + szF ta) (v := go) (lo := 0) (hi := 500) (by omega) (Or.inr ⟨by omega, kp1 (by omega) c8⟩) g5.f1 (by omega) (by rw [kp4 (by omega) c9]; decide) (Nat.zero_le _) h3 (by decide)
  have k4 := kp4 (b := b) (n := n) (p := e + 9 + szF ta + szF go) (by omega) c9
  obtain ⟨s1, s2⟩ := sc_4 k4
  refine su_s (by rw [t3]; decide) ?_
  refine (st_cr (m := m) (e1 := e + 7) (e2 := e + 8 + szF ta) (e3 := e + 9 + szF ta + szF go) (e4 := e + (10 + szF ta + szF go)) ⟨t4, hY, by omega, ?_, ?_, ?_, ?_, n1, n2, n3, o1, o2, o3, ?_, s1, ?_⟩)
  · rw [t2]; exact a1
  · rw [t2, a2]; exact hnew
  · rw [t2]; exact a2
  · rw [t2]; exact a3
  · rw [(tok_s k4).2.2]
    exact isW_k (by decide)
  · rw [s2]; omega
theorem ld_ne {m ta go j : Nat} (h : bA b e (crT m ta go (some j))) (hn : e + (15 + szF ta + szF go) ≤ n) (hm : m < 16) (hj : j < 16) (hY : mY Y = m) (hnew : cnF Y (nI (m + 1)) 16 0 = none) (hold : cnF Y (nI (j + 1)) 16 0 = some j) (hd : dp Y j < 5) (h1 : 1 ≤ ta) (h2 : ta ≤ 50) (h3 : go ≤ 500) : suP b n (f + 1) e Y = suP b n f (e + (15 + szF ta + szF go)) (neY (acY Y m (nI (m + 1)) (nI ta) (nI go)) m j) := by
  have g1 := h.f1
  have g2 := h.r
  rw [sBy_len, sl4] at g2
  have c6 : b (e + 6) = nI (97 + m) := g2.c
  have c7 : b (e + 7) = nI 32 := g2 1 _ rfl
  have g3 : bA b (e + 8) (dgS ta ++ (nI 32 :: (dgS go ++ (sBy 5 ++ [nI (97 + j), nI 59])))) := fun i x hx => by
    have := g2 (i + 2) x hx
    rw [show e + 8 + i = e + 6 + (i + 2) by omega]; exact this
  have g4 := g3.r
  rw [dgS_len (by omega)] at g4
  have c8 : b (e + 8 + szF ta) = nI 32 := g4.c
  have g5 : bA b (e + 9 + szF ta) (dgS go ++ (sBy 5 ++ [nI (97 + j), nI 59])) := fun i x hx => by
    have := g4 (i + 1) x hx
    rw [show e + 9 + szF ta + i = e + 8 + szF ta + (i + 1) by omega]; exact this
  have g6 := g5.r
  rw [dgS_len (by omega)] at g6
  obtain ⟨q, hq⟩ : ∃ q, q = e + 9 + szF ta + szF go := ⟨_, rfl⟩
  rw [← hq] at g6
  have g7 := g6.r
  rw [sBy_len, sl5] at g7
  have d0 : b q = nI 32 := (bA_s g6.f1 (j := 0) (by rw [sl5]; decide)).trans ch4.2.1
  have d3 : b (q + 3) = nI 32 := (bA_s g6.f1 (by rw [sl5]; decide)).trans ch4.2.2.1
  have d4 : b (q + 4) = nI (97 + j) := g7.c
  have d5 : b (q + 5) = nI 59 := g7 1 _ rfl
  have c5 : b (e + 5) = nI 32 := (bA_s g1 (by rw [sl4]; decide)).trans ch4.1
  obtain ⟨t1, t2, t3, t4⟩ := tokW9 (b := b) (n := n) (e := e) (s := e) (l := 5) (w := 11) (Or.inl rfl) (fun j hj => (bA_s g1 (by rw [sl4]; omega)).trans (w11.2 j hj).1) w11.1 (by decide) (by decide) (fun j hj => (w11.2 j hj).2) (by omega) (by rw [kp1 (by omega) c5]; decide)
  obtain ⟨a1, a2, a3⟩ := tok_a (b := b) (n := n) (e := e + 5) (s := e + 6) (show m < 26 by omega) (Or.inr ⟨rfl, kp1 (by omega) c5⟩) c6 (by omega) (by rw [kp1 (by omega) c7]; decide)
  obtain ⟨n1, n2, n3⟩ := tok_n (b := b) (n := n) (e := e + 7) (s := e + 8) (v := ta) (lo := 1) (hi := 50) (by omega) (Or.inr ⟨rfl, kp1 (by omega) c7⟩) g3.f1 (by omega) (by rw [kp1 (by omega) c8]; decide) h1 h2 (by decide)
  obtain ⟨o1, o2, o3⟩ := tok_n (b := b) (n := n) (e := e + 8 + szF ta) (s := e + 9 + szF ta) (v := go) (lo := 0) (hi := 500) (by omega) (Or.inr ⟨by omega, kp1 (by omega) c8⟩) g5.f1 (by omega) (by rw [← hq, kp1 (by omega) d0]; decide) (Nat.zero_le _) h3 (by decide)
  obtain ⟨u1, u2, u3, u4⟩ := tokW9 (b := b) (n := n) (e := q) (s := q + 1) (l := 2) (w := 13) (Or.inr ⟨rfl, kp1 (by omega) d0⟩) (fun i hi => by
    have := bA_s g6.f1 (j := 1 + i) (by rw [sl5]; omega)
    rw [show q + 1 + i = q + (1 + i) by omega, this]
    exact (w13.2 i hi).1) w13.1 (by decide) (by decide) (fun i hi => (w13.2 i hi).2) (by omega) (by rw [show q + 1 + 2 = q + 3 by omega, kp1 (by omega) d3]; decide)
  obtain ⟨v1, v2, v3⟩ := tok_a (b := b) (n := n) (e := q + 3) (s := q + 4) (show j < 26 by omega) (Or.inr ⟨rfl, kp1 (by omega) d3⟩) d4 (by omega) (by rw [show q + 4 + 1 = q + 5 by omega, kp4 (by omega) d5]; decide)
  obtain ⟨s1, s2⟩ := sc_4 (kp4 (b := b) (n := n) (p := q + 5) (by omega) d5)
  refine su_s (by rw [t3]; decide) ?_
  refine (st_ne (m := m) (e1 := e + 7) (e2 := e + 8 + szF ta) (e3 := q) (e4 := q + 3) (e5 := q + 5) (e6 := e + (15 + szF ta + szF go)) ⟨t4, hY, by omega, ?_, ?_, ?_, ?_, n1, n2, n3, o1, o2, by rw [o3, hq], u4, by rw [u2], v1, ?_, ?_, by rw [v3], s1, ?_⟩)
  · rw [t2]; exact a1
  · rw [t2, a2]; exact hnew
  · rw [t2]; exact a2
  · rw [t2]; exact a3
  · unfold rqC
    rw [v2, hold]
    exact if_pos (show nI (dp Y j) < nI 5 from nI_lt hd (by decide))
  · rw [v2]; exact hold
  · rw [s2]; omega
/-- a setting -/
theorem ld_set {w l v lo hi : Nat} {F : Int32 → Yd} (hw : ∀ j, j < l → b (e + j) = sB w j) (hl : sLn w = l) (h1 : 1 ≤ l) (h8 : l ≤ 8) (hc : ∀ j, j < l → ck (sB w j) = 2) (h32 : b (e + l) = nI 32) (n11 : sB w 0 ≠ sB 11 0) (n12 : sB w 0 ≠ sB 12 0) (hsel : isW b (tS b n e) (tE b n e) (tK b n e) w = true → b (tS b n e) = sB w 0 → setR b n (tS b n e) (tE b n e) (tK b n e) Y = st1 b n (tE b n e) (nI lo) (nI hi) F) (hv : v < 10000) (hd : bA b (e + l + 1) (dgS v)) (hn : e + l + 1 + szF v < n) (h59 : b (e + l + 1 + szF v) = nI 59) (g1 : lo ≤ v) (g2 : v ≤ hi) (g3 : hi < 10000) : suP b n (f + 1) e Y = suP b n f (e + l + 1 + szF v + 1) (F (nI v)) := by
  obtain ⟨t1, t2, t3, t4⟩ := tokW9 (b := b) (n := n) (e := e) (s := e) (l := l) (w := w) (Or.inl rfl) hw hl h1 h8 hc (by omega) (by rw [kp1 (by omega) h32]; decide)
  obtain ⟨n1, n2, n3⟩ := tok_n (b := b) (n := n) (e := e + l) (s := e + l + 1) (v := v) (lo := lo) (hi := hi) hv (Or.inr ⟨rfl, kp1 (by omega) h32⟩) hd (by omega) (by rw [kp4 (by omega) h59]; decide) g1 g2 g3
  obtain ⟨s1, s2⟩ := sc_4 (kp4 (b := b) (n := n) (p := e + l + 1 + szF v) hn h59)
  have hb : b (tS b n e) = sB w 0 := by rw [t1]; exact hw 0 h1
  refine su_s (by rw [t3]; decide) ?_
  refine st_se (isW_n wL.1 (by rw [hb]; exact n11)) (isW_n wL.2.1 (by rw [hb]; exact n12)) ((hsel t4 hb).trans (st_1 (x := nI v) (e1 := e + l + 1 + szF v) ?_ ?_ ?_)) s1 s2
  · rw [t2]; exact n1
  · rw [t2]; exact n2
  · rw [t2]; exact n3
theorem ld_bu {mo tol tr : Nat} (h19 : bA b e (sBy 19)) (hmo : bA b (e + 8) (dgS mo)) (c1 : b (e + 8 + szF mo) = nI 32) (htol : bA b (e + 9 + szF mo) (dgS tol)) (c2 : b (e + 9 + szF mo + szF tol) = nI 32) (htr : bA b (e + 10 + szF mo + szF tol) (dgS tr)) (c3 : b (e + 10 + szF mo + szF tol + szF tr) = nI 59) (hn : e + 10 + szF mo + szF tol + szF tr < n) (hY : wY Y = 0) (hnew : bnF Y (nI 1) 6 0 = none) (h1 : mo ≤ 9999) (h2 : tol ≤ 50) (h3 : tr ≤ 100) : suP b n (f + 1) e Y = suP b n f (e + 11 + szF mo + szF tol + szF tr) (abY Y 0 (nI 1) (nI mo) (nI tol) (nI tr)) := by
  have c5 : b (e + 5) = nI 32 := (bA_s h19 (by rw [sl19]; decide)).trans ch4.2.2.2.1
  have c6 : b (e + 6) = nI 97 := (bA_s h19 (by rw [sl19]; decide)).trans ch4.2.2.2.2.1
  have c7 : b (e + 7) = nI 32 := (bA_s h19 (by rw [sl19]; decide)).trans ch4.2.2.2.2.2
  obtain ⟨t1, t2, t3, t4⟩ := tokW9 (b := b) (n := n) (e := e) (s := e) (l := 5) (w := 12) (Or.inl rfl) (fun j hj => (bA_s h19 (by rw [sl19]; omega)).trans (w12.2.1 j hj).1) w12.1 (by decide) (by decide) (fun j hj => (w12.2.1 j hj).2) (by omega) (by rw [kp1 (by omega) c5]; decide)
  obtain ⟨a1, a2, a3⟩ := tok_a (b := b) (n := n) (e := e + 5) (s := e + 6) (show 0 < 26 by decide) (Or.inr ⟨rfl, kp1 (by omega) c5⟩) c6 (by omega) (by rw [kp1 (by omega) c7]; decide)
  obtain ⟨n1, n2, n3⟩ := tok_n (b := b) (n := n) (e := e + 7) (s := e + 8) (v := mo) (lo := 0) (hi := 9999) (by omega) (Or.inr ⟨rfl, kp1 (by omega) c7⟩) hmo (by omega) (by rw [kp1 (by omega) c1]; decide) (Nat.zero_le _) h1 (by decide)
  obtain ⟨o1, o2, o3⟩ := tok_n (b := b) (n := n) (e := e + 8 + szF mo) (s := e + 9 + szF mo) (v := tol) (lo := 0) (hi := 50) (by omega) (Or.inr ⟨by omega, kp1 (by omega) c1⟩) htol (by omega) (by rw [kp1 (by omega) c2]; decide) (Nat.zero_le _) h2 (by decide)
  obtain ⟨p1, p2, p3⟩ := tok_n (b := b) (n := n) (e := e + 9 + szF mo + szF tol) (s := e + 10 + szF mo + szF tol) (v := tr) (lo := 0) (hi := 100) (by omega) (Or.inr ⟨by omega, kp1 (by omega) c2⟩) htr (by omega) (by rw [kp4 (by omega) c3]; decide) (Nat.zero_le _) h3 (by decide)
  obtain ⟨s1, s2⟩ := sc_4 (kp4 (b := b) (n := n) (p := e + 10 + szF mo + szF tol + szF tr) (by omega) c3)
  refine su_s (by rw [t3]; decide) ?_
  have hb : b (tS b n e) = sB 12 0 := by rw [t1]; exact (bA_s h19 (j := 0) (by rw [sl19]; decide)).trans (w12.2.1 0 (by decide)).1
  refine (st_bu (m := 0) (e1 := e + 7) (e2 := e + 8 + szF mo) (e3 := e + 9 + szF mo + szF tol) (e4 := e + 10 + szF mo + szF tol + szF tr) (e5 := e + 11 + szF mo + szF tol + szF tr) ⟨isW_n wL.1 (by rw [hb]; exact w12.2.2), t4, hY, by decide, ?_, ?_, ?_, ?_, n1, n2, n3, o1, o2, o3, p1, p2, p3, s1, ?_⟩)
  · rw [t2]; exact a1
  · rw [t2, a2]; exact hnew
  · rw [t2]; exact a2
  · rw [t2]; exact a3
  · rw [s2]; omega
theorem ld_end (hf : 0 < yF Y 4) : suP b n (f + 1) n Y = .inr (n, Y) := by
  have k0 : kp b n n = 0 := if_pos (Nat.le_refl n)
  have eS : tS b n n = n := by
    unfold tS
    rw [run_e 0 601 n (fun j hj => absurd hj (Nat.not_lt_zero _)) (by rw [Nat.add_zero, k0]; decide) (by decide)]; rfl
  have eK : tK b n n = 0 := by
    unfold tK
    rw [eS, k0, if_neg (by rintro (⟨z, -⟩ | ⟨z, -⟩) <;> exact absurd z (by decide))]
  rw [suP, if_pos eK, eS]
  unfold finS
  rw [if_pos hf]
def ftY (Y : Yd) (mo tol tr am ag sd : Nat) : Yd := uS (uS (uS (uF (abY Y 0 (nI 1) (nI mo) (nI tol) (nI tr)) 7 (nI 20)) 1 (nI am)) 2 (nI ag)) 0 (nI sd)
theorem dg20 : dgS 20 = [nI 50, nI 48] := by decide
theorem sz20 : szF 20 = 2 := by decide
theorem ftT_len {mo tol tr am ag sd : Nat} (h1 : mo < 10000) (h2 : tol < 10000) (h3 : tr < 10000) (h4 : am < 10000) (h5 : ag < 10000) (h6 : sd < 10000) : (ftT mo tol tr am ag sd).length = 40 + szF mo + szF tol + szF tr + szF am + szF ag + szF sd := by
  unfold ftT
  simp only [List.length_append, List.length_cons, List.length_nil, sBy_len, sl19, sl20, sl21, sl22, dgS_len h1, dgS_len h2, dgS_len h3, dgS_len h4, dgS_len h5, dgS_len h6]
  omega
theorem ld_ft {mo tol tr am ag sd : Nat} (h : bA b e (ftT mo tol tr am ag sd)) (hn : n = e + (40 + szF mo + szF tol + szF tr + szF am + szF ag + szF sd)) (hY : wY Y = 0) (hnew : bnF Y (nI 1) 6 0 = none) (hf : 0 < yF Y 4) (h1 : mo ≤ 9999) (h2 : tol ≤ 50) (h3 : tr ≤ 100) (h4 : am ≤ 50) (h5 : 1 ≤ ag) (h6 : ag ≤ 100) (h7 : sd ≤ 9999) : suP b n (f + 6) e Y = .inr (n, ftY Y mo tol tr am ag sd) := by
  have r1 := h.r
  rw [sBy_len, sl19] at r1
  have r2 := r1.r
  rw [dgS_len (by omega)] at r2
  have r3 : bA b (e + 9 + szF mo) (dgS tol ++ (nI 32 :: (dgS tr ++ (sBy 20 ++ (dgS am ++ (sBy 21 ++ (dgS ag ++ (sBy 22 ++ (dgS sd ++ [nI 59]))))))))) := fun j x hx => by
    have := r2 (j + 1) x hx
    rw [show e + 9 + szF mo + j = e + 8 + szF mo + (j + 1) by omega]; exact this
  have r4 := r3.r
  rw [dgS_len (by omega)] at r4
  have r5 : bA b (e + 10 + szF mo + szF tol) (dgS tr ++ (sBy 20 ++ (dgS am ++ (sBy 21 ++ (dgS ag ++ (sBy 22 ++ (dgS sd ++ [nI 59]))))))) := fun j x hx => by
    have := r4 (j + 1) x hx
    rw [show e + 10 + szF mo + szF tol + j = e + 9 + szF mo + szF tol + (j + 1) by omega]; exact this
  have r6 := r5.r
  rw [dgS_len (by omega)] at r6
  obtain ⟨q, hq⟩ : ∃ q, q = e + 10 + szF mo + szF tol + szF tr := ⟨_, rfl⟩
  rw [← hq] at r6
  have r7 := r6.r
  rw [sBy_len, sl20] at r7
  have r8 := r7.r
  rw [dgS_len (by omega)] at r8
  have r9 := r8.r
  rw [sBy_len, sl21] at r9
  have ra := r9.r
  rw [dgS_len (by omega)] at ra
  have rb := ra.r
  rw [sBy_len, sl22] at rb
  have rc := rb.r
  rw [dgS_len (by omega)] at rc
  have s20 : ∀ j, j < 16 → b (q + j) = sB 20 j := fun j hj => bA_s r6.f1 (by rw [sl20]; exact hj)
  have s21 : ∀ j, j < 7 → b (q + 16 + szF am + j) = sB 21 j := fun j hj => bA_s r8.f1 (by rw [sl21]; exact hj)
  have s22 : ∀ j, j < 6 → b (q + 16 + szF am + 7 + szF ag + j) = sB 22 j := fun j hj => bA_s ra.f1 (by rw [sl22]; exact hj)
  have s59 : b (q + 16 + szF am + 7 + szF ag + 6 + szF sd) = nI 59 := rc.c
  have z1 := szF_b mo
  have z2 := szF_b tol
  have z3 := szF_b tr
  have z4 := szF_b am
  have z5 := szF_b ag
  have z6 := szF_b sd
  rw [show f + 6 = f + 5 + 1 by omega, ld_bu (f := f + 5) h.f1 r1.f1 r2.c r3.f1 r4.c r5.f1 (by rw [← hq]; exact (s20 0 (by decide)).trans ch20.1) (by omega) hY hnew h1 h2 h3]
  rw [show e + 11 + szF mo + szF tol + szF tr = q + 1 by omega, show f + 5 = f + 4 + 1 by omega]
  rw [ld_set (f := f + 4) (e := q + 1) (w := 18) (l := 5) (v := 20) (lo := 0) (hi := 100) (F := uF (abY Y 0 (nI 1) (nI mo) (nI tol) (nI tr)) 7) (fun j hj => by rw [show q + 1 + j = q + (1 + j) by omega, s20 _ (by omega)]; exact (w18.2.1 j hj).1) w18.1 (by decide) (by decide) (fun j hj => (w18.2.1 j hj).2) ((s20 6 (by decide)).trans ch20.2.1) w18.2.2.1 w18.2.2.2.1
    (fun hw hb => by
      unfold setR
      rw [if_neg (isW_n wL.2.2.1 (by rw [hb]; exact w18.2.2.2.2.1)), if_neg (isW_n wL.2.2.2.1 (by rw [hb]; exact w18.2.2.2.2.2.1)), if_neg (isW_n wL.2.2.2.2.1 (by rw [hb]; exact w18.2.2.2.2.2.2.1)), if_neg (isW_n wL.2.2.2.2.2 (by rw [hb]; exact w18.2.2.2.2.2.2.2)), if_pos hw]
      rfl) (by decide) (fun j x hx => by
      rw [dg20] at hx
      rcases j with _ | _ | j
      · cases hx
        exact (s20 7 (by decide)).trans ch20.2.2.1
      · cases hx
        exact (s20 8 (by decide)).trans ch20.2.2.2.1
      · cases hx) (by rw [sz20]; omega) (by rw [sz20]; exact (s20 9 (by decide)).trans ch20.2.2.2.2.1) (by decide) (by decide) (by decide)]
  rw [show q + 1 + 5 + 1 + szF 20 + 1 = q + 10 by rw [sz20], show f + 4 = f + 3 + 1 by omega]
  rw [ld_set (f := f + 3) (e := q + 10) (w := 14) (l := 5) (v := am) (lo := 0) (hi := 50) (F := uS (uF (abY Y 0 (nI 1) (nI mo) (nI tol) (nI tr)) 7 (nI 20)) 1) (fun j hj => by rw [show q + 10 + j = q + (10 + j) by omega, s20 _ (by omega)]; exact (w14.2.1 j hj).1) w14.1 (by decide) (by decide) (fun j hj => (w14.2.1 j hj).2) ((s20 15 (by decide)).trans ch20.2.2.2.2.2.1) w14.2.2.1 w14.2.2.2
    (fun hw hb => by
      unfold setR
      rw [if_pos hw]
      rfl) (by omega) r7.f1 (by omega) ((s21 0 (by decide)).trans ch20.2.2.2.2.2.2.1) (Nat.zero_le _) h4 (by decide)]
  rw [show q + 10 + 5 + 1 + szF am + 1 = q + 16 + szF am + 1 by omega, show f + 3 = f + 2 + 1 by omega]
  rw [ld_set (f := f + 2) (e := q + 16 + szF am + 1) (w := 16) (l := 5) (v := ag) (lo := 1) (hi := 100) (F := uS (uS (uF (abY Y 0 (nI 1) (nI mo) (nI tol) (nI tr)) 7 (nI 20)) 1 (nI am)) 2) (fun j hj => by rw [show q + 16 + szF am + 1 + j = q + 16 + szF am + (1 + j) by omega, s21 _ (by omega)]; exact (w16.2.1 j hj).1) w16.1 (by decide) (by decide) (fun j hj => (w16.2.1 j hj).2) ((s21 6 (by decide)).trans ch20.2.2.2.2.2.2.2.1) w16.2.2.1 w16.2.2.2.1
    (fun hw hb => by
      unfold setR
      rw [if_neg (isW_n wL.2.2.1 (by rw [hb]; exact w16.2.2.2.2.1)), if_neg (isW_n wL.2.2.2.1 (by rw [hb]; exact w16.2.2.2.2.2)), if_pos hw]
      rfl) (by omega) (fun j x hx => by
      have := r9.f1 j x hx
      rw [show q + 16 + szF am + 1 + 5 + 1 + j = q + 16 + szF am + 7 + j by omega]; exact this) (by omega) (by
      have := s22 0 (by decide)
      rw [show q + 16 + szF am + 1 + 5 + 1 + szF ag = q + 16 + szF am + 7 + szF ag + 0 by omega, this]
      exact ch20.2.2.2.2.2.2.2.2.1) h5 h6 (by decide)]
  rw [show q + 16 + szF am + 1 + 5 + 1 + szF ag + 1 = q + 16 + szF am + 7 + szF ag + 1 by omega, show f + 2 = f + 1 + 1 by omega]
  rw [ld_set (f := f + 1) (e := q + 16 + szF am + 7 + szF ag + 1) (w := 15) (l := 4) (v := sd) (lo := 0) (hi := 9999) (F := uS (uS (uS (uF (abY Y 0 (nI 1) (nI mo) (nI tol) (nI tr)) 7 (nI 20)) 1 (nI am)) 2 (nI ag)) 0) (fun j hj => by rw [show q + 16 + szF am + 7 + szF ag + 1 + j = q + 16 + szF am + 7 + szF ag + (1 + j) by omega, s22 _ (by omega)]; exact (w15.2.1 j hj).1) w15.1 (by decide) (by decide) (fun j hj => (w15.2.1 j hj).2) ((s22 5 (by decide)).trans ch20.2.2.2.2.2.2.2.2.2) w15.2.2.1 w15.2.2.2.1
    (fun hw hb => by
      unfold setR
      rw [if_neg (isW_n wL.2.2.1 (by rw [hb]; exact w15.2.2.2.2)), if_pos hw]
      rfl) (by omega) (fun j x hx => by
      have := rb.f1 j x hx
      rw [show q + 16 + szF am + 7 + szF ag + 1 + 4 + 1 + j = q + 16 + szF am + 7 + szF ag + 6 + j by omega]; exact this) (by omega) (by
      rw [show q + 16 + szF am + 7 + szF ag + 1 + 4 + 1 + szF sd = q + 16 + szF am + 7 + szF ag + 6 + szF sd by omega]
      exact s59) (Nat.zero_le _) h7 (by decide)]
  rw [show q + 16 + szF am + 7 + szF ag + 1 + 4 + 1 + szF sd + 1 = n by omega]
  exact ld_end hf
end LDS
