/-! the verbs and one statement of a script -/
abbrev St : Type := Nat × Nat × Nat × Int32
abbrev QR : Type := (Int32 × Nat) ⊕ (Nat × St)
def okQ (r : QR) : Int32 := match r with
  | .inl _ => 0
  | .inr _ => 1
def nCr (v : Nat) : Bool := decide (v ∈ [0, 1, 2, 3, 4, 6])
def nXr (v : Nat) : Bool := decide (v ∈ [0, 1, 2, 7, 8])
/-- the value of a statement -/
def Sv (M : Mem) (j : Nat) (t : St) : Prop := mR M 6 j 0 = some (rf 22 t.1) ∧ t.1 < 9 ∧ (nCr t.1 = true → mI M 6 j 1 = nI t.2.1) ∧ (t.1 = 3 → mI M 6 j 2 = nI t.2.2.1) ∧ (t.1 = 6 → mI M 6 j 3 = nI t.2.2.1) ∧ (nXr t.1 = true → mI M 6 j 4 = t.2.2.2)
def inJ (j : Nat) (k i : Nat) : Prop := inT k i ∨ (k = 6 ∧ i = j)
def Sf (j f : Nat) (M M' : Mem) : Prop := (∀ g, g ≠ f → mI M' 6 j g = mI M 6 j g) ∧ mR M' 6 j = mR M 6 j
theorem nT6 {j : Nat} : ¬ inT 6 j := by unfold inT; omega
theorem J_T {j : Nat} : ∀ k i, inT k i → inJ j k i := fun _ _ h => Or.inl h
theorem nJY {j y : Nat} : ∀ k i, inY y k i → ¬ inJ j k i := by intro k i h; unfold inY at h; unfold inJ inT; omega
theorem Sf.T {j f : Nat} {M M' : Mem} (h : Fr inT M M') : Sf j f M M' := ⟨fun g _ => by rw [(h.2.2.2.2 6 j nT6).1], (h.2.2.2.2 6 j nT6).2.2.1⟩
theorem Sf.put {j f : Nat} {M M' : Mem} {v : Int32} (h : Fr inT M M') : Sf j f M (sI M' 6 j f v) :=
  ⟨fun g hg => by rw [mI_sI, if_neg (fun z => hg z.2.2), (h.2.2.2.2 6 j nT6).1], (h.2.2.2.2 6 j nT6).2.2.1⟩
theorem nI_m1 {j : Nat} (h : j < 2 ^ 31) : ¬ nI j = -1 := by
  intro e
  have h2 := congrArg Int32.toInt e
  rw [nI_toInt h] at h2
  have : (-1 : Int32).toInt = -1 := by decide
  omega
def ncC (b : Nat → Int32) (n e : Nat) (Y : Yd) : Int32 := if nnC b n e = 0 then (match cnF Y (nmF b (tS b n e) (tE b n e)) 16 0 with
  | none => 4
  | some _ => 0) else nnC b n e
def nyC (b : Nat → Int32) (n e : Nat) (Y : Yd) : Int32 := if nnC b n e = 0 then (match bnF Y (nmF b (tS b n e) (tE b n e)) 6 0 with
  | none => 4
  | some _ => 0) else nnC b n e
def qN (b : Nat → Int32) (n e : Nat) (lo hi : Int32) (K : Int32 → St) : QR := if nbC b n e lo hi = 0 then .inr (tE b n e, K (nbV b n e)) else .inl (nbC b n e lo hi, tS b n e)
def qC (b : Nat → Int32) (n e : Nat) (Y : Yd) (K : Nat → Nat → QR) : QR := if nnC b n e = 0 then (match cnF Y (nmF b (tS b n e) (tE b n e)) 16 0 with
  | none => .inl (4, tS b n e)
  | some j => K j (tE b n e)) else .inl (nnC b n e, tS b n e)
def qB (b : Nat → Int32) (n e : Nat) (Y : Yd) (K : Nat → Nat → QR) : QR := if nnC b n e = 0 then (match bnF Y (nmF b (tS b n e) (tE b n e)) 6 0 with
  | none => .inl (4, tS b n e)
  | some j => K j (tE b n e)) else .inl (nnC b n e, tS b n e)
def qW (b : Nat → Int32) (n e v : Nat) (K : Nat → QR) : QR := if nwC b n e v = 0 then K (tE b n e) else .inl (nwC b n e v, tS b n e)
def sqP (b : Nat → Int32) (n e v : Nat) (Y : Yd) : QR :=
  if v = 0 then qC b n e Y (fun c e => qN b n e 1 50 (fun x => (0, c, 0, x))) else
  if v = 1 then qC b n e Y (fun c e => qN b n e 1 500 (fun x => (1, c, 0, x))) else
  if v = 2 then qC b n e Y (fun c e => qN b n e 1 500 (fun x => (2, c, 0, x))) else
  if v = 3 then qC b n e Y (fun c e => qW b n e 19 (fun e => qC b n e Y (fun t e => .inr (e, (3, c, t, 0))))) else
  if v = 4 then qC b n e Y (fun c e => .inr (e, (4, c, 0, 0))) else
  if v = 5 then .inr (e, (5, 0, 0, 0)) else
  if v = 6 then qC b n e Y (fun c e => qW b n e 20 (fun e => qB b n e Y (fun t e => .inr (e, (6, c, t, 0))))) else
  if v = 7 then qN b n e 0 50 (fun x => (7, 0, 0, x)) else qN b n e 1 100 (fun x => (8, 0, 0, x))
def PoS (b : Nat → Int32) (n j : Nat) (r : QR) (M M' : Mem) : Prop := Fr (inJ j) M M' ∧ match r with
  | .inl (cd, f) => ∃ e k, Tx M' b n (f, e, k, cd, nI f)
  | .inr (e', t) => (∃ s k, Tx M' b n (s, e', k, 0, -1)) ∧ Sv M' j t
theorem PoS.no {b : Nat → Int32} {n f e j : Nat} {cd k : Int32} {M M' : Mem} (h1 : Fr (inJ j) M M') (h2 : Tx M' b n (f, e, k, cd, nI f)) : PoS b n j (.inl (cd, f)) M M' := ⟨h1, _, _, h2⟩
theorem PoS.yes {b : Nat → Int32} {n s e j : Nat} {k : Int32} {M M' : Mem} {t : St} (h1 : Fr (inJ j) M M') (h2 : Tx M' b n (s, e, k, 0, -1)) (h3 : Sv M' j t) : PoS b n j (.inr (e, t)) M M' := ⟨h1, ⟨_, _, h2⟩, h3⟩
theorem Tx.frJ {b : Nat → Int32} {n j f : Nat} {v : Int32} {a : Ta} {M : Mem} (h : Tx M b n a) : Tx (sI M 6 j f v) b n a :=
  h.fr (S := fun k i => k = 6 ∧ i = j) (Fr.sI (Fr.rf _ _) ⟨rfl, rfl⟩) (fun z => absurd z.1 (by decide)) (fun z => absurd z.1 (by decide))