/-! a whole script, read and run -/
def SLay (M : Mem) : Prop := mR M 4 0 0 = some (rf 7 0) ∧ mR M 4 0 1 = some (rf 9 0) ∧ mR M 4 0 2 = some (rf 19 0) ∧ mN M 19 0 = 30 ∧ ∀ j, j < 30 → mR M 19 0 j = some (rf 6 j)
def inX (k i : Nat) : Prop := inT k i ∨ k = 6 ∨ (k = 4 ∧ i = 0)
theorem SLay.fr {S : Nat → Nat → Prop} {M M' : Mem} (h : SLay M) (hF : Fr S M M') (h4 : ¬ S 4 0) (h19 : ¬ S 19 0) : SLay M' := by
  obtain ⟨a1, a2, a3, a4, a5⟩ := h
  have e4 := (hF.2.2.2.2 4 0 h4).2.2.1
  have e19 := (hF.2.2.2.2 19 0 h19).2.2.1
  exact ⟨by rw [e4]; exact a1, by rw [e4]; exact a2, by rw [e4]; exact a3, by rw [hF.2.1]; exact a4, fun j hj => by rw [e19]; exact a5 j hj⟩
theorem SLay.put {M : Mem} {v : Int32} (h : SLay M) : SLay (sI M 4 0 3 v) := h
theorem nT4 : ¬ inT 4 0 := by unfold inT; omega
theorem nT19 : ¬ inT 19 0 := by unfold inT; omega
theorem nJ4 {j : Nat} : ¬ inJ j 4 0 := by unfold inJ inT; omega
theorem nJ19 {j : Nat} : ¬ inJ j 19 0 := by unfold inJ inT; omega
theorem T_X : ∀ k i, inT k i → inX k i := fun _ _ h => Or.inl h
theorem J_X {j : Nat} : ∀ k i, inJ j k i → inX k i := fun _ _ h => h.elim Or.inl fun z => Or.inr (Or.inl z.1)
theorem X_4 : inX 4 0 := Or.inr (Or.inr ⟨rfl, rfl⟩)
theorem nXY {y : Nat} : ∀ k i, inY y k i → ¬ inX k i := by intro k i h; unfold inY at h; unfold inX inT; omega
theorem Sv.fr {S : Nat → Nat → Prop} {M M' : Mem} {j : Nat} {t : St} (h : Sv M j t) (hF : Fr S M M') (hn : ¬ S 6 j) : Sv M' j t := by
  have e := hF.2.2.2.2 6 j hn
  obtain ⟨a1, a2, a3, a4, a5, a6⟩ := h
  exact ⟨by rw [e.2.2.1]; exact a1, a2, fun z => by rw [e.1]; exact a3 z, fun z => by rw [e.1]; exact a4 z, fun z => by rw [e.1]; exact a5 z, fun z => by rw [e.1]; exact a6 z⟩
theorem Tx.p4 {b : Nat → Int32} {n : Nat} {v : Int32} {a : Ta} {M : Mem} (h : Tx M b n a) : Tx (sI M 4 0 3 v) b n a :=
  h.fr (S := fun k i => k = 4 ∧ i = 0) (Fr.sI (Fr.rf _ _) ⟨rfl, rfl⟩) (fun z => absurd z.1 (by decide)) (fun z => absurd z.1 (by decide))
theorem Tz.p4 {b : Nat → Int32} {n : Nat} {v c q : Int32} {M : Mem} (h : Tz M b n c q) : Tz (sI M 4 0 3 v) b n c q :=
  h.fr (S := fun k i => k = 4 ∧ i = 0) (Fr.sI (Fr.rf _ _) ⟨rfl, rfl⟩) (fun z => absurd z.1 (by decide)) (fun z => absurd z.1 (by decide))
theorem Yv.p4 {y : Nat} {v : Int32} {Y : Yd} {M : Mem} (h : Yv M y Y) : Yv (sI M 4 0 3 v) y Y :=
  h.fr (S := fun k i => k = 4 ∧ i = 0) (Fr.sI (Fr.rf _ _) ⟨rfl, rfl⟩) (fun k i h z => by unfold inY at h; omega)
theorem Sv.p4 {j : Nat} {v : Int32} {t : St} {M : Mem} (h : Sv M j t) : Sv (sI M 4 0 3 v) j t :=
  h.fr (S := fun k i => k = 4 ∧ i = 0) (Fr.sI (Fr.rf _ _) ⟨rfl, rfl⟩) (fun z => absurd z.1 (by decide))
abbrev CR : Type := (Int32 × Nat) ⊕ List St
def okC (r : CR) : Int32 := match r with
  | .inl _ => 0
  | .inr _ => 1
def SAll (M : Mem) (ac : List St) : Prop := ac.length ≤ 30 ∧ ∀ j t, ac[j]? = some t → Sv M j t
def PoC (b : Nat → Int32) (n : Nat) (r : CR) (M M' : Mem) : Prop := Fr inX M M' ∧ SLay M' ∧ match r with
  | .inl (cd, f) => ∃ e k, Tx M' b n (f, e, k, cd, nI f)
  | .inr ts => (∃ s e k, Tx M' b n (s, e, k, 0, -1)) ∧ mI M' 4 0 3 = nI ts.length ∧ SAll M' ts
theorem SAll.fr {S : Nat → Nat → Prop} {M M' : Mem} {ac : List St} (h : SAll M ac) (hF : Fr S M M') (hn : ∀ j, j < ac.length → ¬ S 6 j) : SAll M' ac :=
  ⟨h.1, fun j t e => (h.2 j t e).fr hF (hn j (List.getElem?_eq_some_iff.mp e).1)⟩
theorem SAll.p4 {M : Mem} {v : Int32} {ac : List St} (h : SAll M ac) : SAll (sI M 4 0 3 v) ac := ⟨h.1, fun j t e => (h.2 j t e).p4⟩
theorem SAll.snoc {M : Mem} {ac : List St} {t : St} (h : SAll M ac) (hl : ac.length < 30) (ht : Sv M ac.length t) : SAll M (ac ++ [t]) := by
  refine ⟨by simp; omega, fun j u e => ?_⟩
  rw [List.getElem?_append] at e
  split at e
  · exact h.2 j u e
  next hj =>
    have hj2 : j = ac.length := by
      by_cases z : j - ac.length = 0
      · omega
      · obtain ⟨k, hk⟩ : ∃ k, j - ac.length = k + 1 := ⟨j - ac.length - 1, by omega⟩
        rw [hk] at e; simp at e
    rw [hj2] at e ⊢
    simp at e
    rw [← e]; exact ht
theorem tE_gtC {b : Nat → Int32} {n e : Nat} (h : scC (tK b n e) = 0) : e < tE b n e := sc_gt h
theorem qC_gt {b : Nat → Int32} {n e e0 e' : Nat} {Y : Yd} {t : St} {K : Nat → Nat → QR} (he : e0 ≤ e) (hK : ∀ j e1, e0 ≤ e1 → K j e1 = .inr (e', t) → e0 ≤ e') (h : qC b n e Y K = .inr (e', t)) : e0 ≤ e' := by
  unfold qC at h
  split at h
  · split at h
    · cases h
    · exact hK _ _ (Nat.le_trans he tE_ge) h
  · cases h
theorem qB_gt {b : Nat → Int32} {n e e0 e' : Nat} {Y : Yd} {t : St} {K : Nat → Nat → QR} (he : e0 ≤ e) (hK : ∀ j e1, e0 ≤ e1 → K j e1 = .inr (e', t) → e0 ≤ e') (h : qB b n e Y K = .inr (e', t)) : e0 ≤ e' := by
  unfold qB at h
  split at h
  · split at h
    · cases h
    · exact hK _ _ (Nat.le_trans he tE_ge) h
  · cases h
theorem qN_gt {b : Nat → Int32} {n e e0 e' : Nat} {lo hi : Int32} {t : St} {K : Int32 → St} (he : e0 ≤ e) (h : qN b n e lo hi K = .inr (e', t)) : e0 ≤ e' := by
  unfold qN at h
  split at h
  · cases h; exact Nat.le_trans he tE_ge
  · cases h
theorem qW_gt {b : Nat → Int32} {n e e0 e' v : Nat} {t : St} {K : Nat → QR} (he : e0 ≤ e) (hK : ∀ e1, e0 ≤ e1 → K e1 = .inr (e', t) → e0 ≤ e') (h : qW b n e v K = .inr (e', t)) : e0 ≤ e' := by
  unfold qW at h
  split at h
  · exact hK _ (Nat.le_trans he tE_ge) h
  · cases h
theorem sqP_ge {b : Nat → Int32} {n e v e' : Nat} {Y : Yd} {t : St} (h : sqP b n e v Y = .inr (e', t)) : e ≤ e' := by
  have r := Nat.le_refl e
  unfold sqP at h
  split at h
  · exact qC_gt r (fun _ _ h1 h2 => qN_gt h1 h2) h
  · split at h
    · exact qC_gt r (fun _ _ h1 h2 => qN_gt h1 h2) h
    · split at h
      · exact qC_gt r (fun _ _ h1 h2 => qN_gt h1 h2) h
      · split at h
        · exact qC_gt r (fun _ _ h1 h2 => qW_gt h1 (fun _ h3 h4 => qC_gt h3 (fun _ _ h5 h6 => by cases h6; exact h5) h4) h2) h
        · split at h
          · exact qC_gt r (fun _ _ h1 h2 => by cases h2; exact h1) h
          · split at h
            · cases h; exact r
            · split at h
              · exact qC_gt r (fun _ _ h1 h2 => qW_gt h1 (fun _ h3 h4 => qB_gt h3 (fun _ _ h5 h6 => by cases h6; exact h5) h4) h2) h
              · split at h
                · exact qN_gt r h
                · exact qN_gt r h
theorem okQ_1 {x : Nat × St} : ¬ okQ (.inr x) = 0 := by show ¬ (1 : Int32) = 0; decide