/-! the judgement of a walk over the memory -/
def kn : Value → Bool
  | .retAddr _ => false
  | _ => true
abbrev UN : Value := .retAddr 0
/-- the locals as the walk lists them -/
def lp (φ : Nat → Nat) : Nat → List Value → List (Nat × Value)
  | _, [] => []
  | i, v :: r => if kn v = true then (i, cv φ v) :: lp φ (i + 1) r else lp φ (i + 1) r
theorem lp_mem {φ : Nat → Nat} {ls : List Value} : ∀ {i : Nat} {q : Nat × Value}, q ∈ lp φ i ls ↔ ∃ k v, ls[k]? = some v ∧ kn v = true ∧ q = (i + k, cv φ v) := by
  induction ls with
  | nil => intro i q; simp [lp]
  | cons v r ih =>
    intro i q
    unfold lp
    constructor
    · intro h
      by_cases hv : kn v = true
      · rw [if_pos hv] at h
        rcases List.mem_cons.mp h with rfl | h
        · exact ⟨0, v, rfl, hv, rfl⟩
        · obtain ⟨k, w, h1, h2, h3⟩ := ih.mp h
          exact ⟨k + 1, w, by simpa using h1, h2, by rw [h3]; congr 1; omega⟩
      · rw [if_neg hv] at h
        obtain ⟨k, w, h1, h2, h3⟩ := ih.mp h
        exact ⟨k + 1, w, by simpa using h1, h2, by rw [h3]; congr 1; omega⟩
    · rintro ⟨k, w, h1, h2, h3⟩
      cases k with
      | zero =>
        have e : v = w := by simpa using h1
        subst e
        rw [if_pos h2, h3]
        exact List.mem_cons_self
      | succ k =>
        have hm : q ∈ lp φ (i + 1) r := ih.mpr ⟨k, w, by simpa using h1, h2, by rw [h3]; congr 1; omega⟩
        split
        · exact List.mem_cons_of_mem _ hm
        · exact hm
theorem lp_get {φ : Nat → Nat} {ls : List Value} {lsA : Array Slot} {nL k : Nat} {v : Value} (h : lv_has lsA nL (lp φ 0 ls)) (hk : ls[k]? = some v) (hv : kn v = true) : lsA[k]? = some (.val (cv φ v)) := by
  have := h.2.2 (k, cv φ v) (lp_mem.mpr ⟨k, v, hk, hv, by simp⟩)
  exact this
theorem lp_ext {φ φ' : Nat → Nat} {M : Mem} (he : Ext φ φ' M) {ls : List Value} (hok : ∀ v ∈ ls, VOk M v) : ∀ i, lp φ' i ls = lp φ i ls := by
  induction ls with
  | nil => intro i; rfl
  | cons v r ih =>
    intro i
    unfold lp
    rw [ih (fun w hw => hok w (List.mem_cons_of_mem _ hw)), cv_ext he (hok v List.mem_cons_self)]
theorem map_ext {φ φ' : Nat → Nat} {M : Mem} (he : Ext φ φ' M) {st : List Value} (hok : ∀ v ∈ st, VOk M v) : st.map (cv φ') = st.map (cv φ) :=
  List.map_congr_left fun v hv => cv_ext he (hok v hv)
theorem has_sub {lsA : Array Slot} {nL : Nat} {l l' : List (Nat × Value)} (h : lv_has lsA nL l) (hs : ∀ q ∈ l', q ∈ l) : lv_has lsA nL l' := ⟨h.1, h.2.1, fun q hq => h.2.2 q (hs q hq)⟩
def rIn (ret : Option FieldType) (ov : Option Value) (i : Instr) : Prop := match ov with
  | none => i = .return_ ∧ ret = none
  | some (.int v) => i = .ireturn ∧ ∃ ty, ret = some ty ∧ narrow ty (.int v) = .int v
  | some (.long _) => i = .lreturn ∧ ret = some .long
  | some (.float _) => i = .freturn ∧ ret = some .float
  | some (.double _) => i = .dreturn ∧ ret = some .double
  | some (.retAddr _) => False
  | some _ => i = .areturn ∧ ∃ rt, ret = some rt ∧ ((∃ n, rt = .object n) ∨ ∃ t, rt = .array t)
def Own (A : Nat → Prop) (φ : Nat → Nat) (M : Mem) : Prop := ∀ k i, KO k → i < mC M k → A (φ (rf k i))
def Iv (s : State) (D : va_G) (cA : Nat → ClassId) (A : Nat → Prop) (φ : Nat → Nat) (M : Mem) (H : Heap) (locs : List Loc) : Prop :=
  Rel D cA φ M H ∧ Own A φ M ∧ va_S A s.heap H locs ∧ Cst φ A s s.heap (mN M 27 0) (mI M 27 0)
def Cx (m : MRec) (d : Nat) (p : Program) (l : Launch) (R : Room) (s : State) (mid : MethodId) (args : Array Value) (meth : Method) (c : Code) (D : va_G) (cA : Nat → ClassId) (A : Nat → Prop) : Prop :=
  p.tables.exec = Jvm.exec ∧ c.code = m.2.1 ∧ c.maxLocals = m.2.2.1 ∧ meth.locks = false ∧ s.vm.findClass m.1.cls = some mid.cls ∧ (∀ w ∈ gtbl, w.before args s = true) ∧ l.stackTraces = false ∧ (m.1.name = "<init>" → meth.name = "<init>") ∧ Kn D cA s ∧ d ≤ R.frames ∧ 41 * d ≤ R.locals ∧ (∀ q, s.heap.size ≤ q → A q) ∧ c.exceptionTable.toList.map (fun x => (x.startPc, x.endPc, x.handlerPc, x.catchType)) = m.2.2.2.2
def RCap (m : MRec) (p : Program) (l : Launch) (e : Env) (R : Room) (s : State) (mid : MethodId) (args : Array Value) (below : List Frame) (meth : Method) (c : Code) (D : va_G) (cA : Nat → ClassId) (A : Nat → Prop) (mcT msT : Nat) (Qg : State → Prop) (φ : Nat → Nat) (M : Mem) (o : Out) (M' : Mem) : Prop :=
  (∀ ov, o = .inl ov → ∀ (φ' : Nat → Nat) (H' : Heap) (locs' : List Loc) (cells' slots' pc' : Nat) (lsA' : Array Slot) (i : Instr), Ext φ φ' M → Iv s D cA A φ' M' H' locs' → cells' ≤ mcT → slots' ≤ msT → (∀ v, ov = some v → VOk M' v) → rIn m.2.2.2.1 ov i → decode m.2.1 pc' = .ok (i, 1) →
    W p l e R s mid args below meth c H' locs' cells' slots' Qg (F0 mid pc' lsA' (ov.toList.map (cv φ')))) ∧
  (∀ E, o = .inr E → ∃ (Qc : Array Value → State → Outcome → State → Prop) (XC : String → State → State → Prop) (free : Addr → Prop), Qg = vx_MQ below Qc XC args s mcT msT free ∧ (∀ q, A q → free q) ∧
    ∀ (φ' : Nat → Nat) (t : State), Ext φ φ' M → Rel D cA φ' M' t.heap → Own A φ' M' → va_F A s t → XC E s t)
theorem RCap.step {m : MRec} {p : Program} {l : Launch} {e : Env} {R : Room} {s : State} {mid : MethodId} {args : Array Value} {below : List Frame} {meth : Method} {c : Code} {D : va_G} {cA : Nat → ClassId} {A : Nat → Prop} {mcT msT : Nat} {Qg : State → Prop} {φ φ1 : Nat → Nat} {M M1 : Mem} {o : Out} {M' : Mem} (hm : Mono M M1) (he : Ext φ φ1 M) (h : RCap m p l e R s mid args below meth c D cA A mcT msT Qg φ M o M') : RCap m p l e R s mid args below meth c D cA A mcT msT Qg φ1 M1 o M' := by
  refine ⟨fun ov ho φ' H' locs' cells' slots' pc' lsA' i hx => h.1 ov ho φ' H' locs' cells' slots' pc' lsA' i (he.tr hm hx), fun E ho => ?_⟩
  obtain ⟨Qc, XC, free, h1, h2, h3⟩ := h.2 E ho
  exact ⟨Qc, XC, free, h1, h2, fun φ' t hx => h3 φ' t (he.tr hm hx)⟩
def WPs (m : MRec) (d : Nat) (pc : Nat) (ls st : List Value) (M : Mem) (o : Out) (M' : Mem) : Prop :=
  Mono M M' ∧ ∀ (p : Program) (l : Launch) (e : Env) (R : Room) (s : State) (mid : MethodId) (args : Array Value) (below : List Frame) (meth : Method) (c : Code) (D : va_G) (cA : Nat → ClassId) (A : Nat → Prop) (mcT msT : Nat) (Qg : State → Prop), Cx m d p l R s mid args meth c D cA A → mcT ≤ R.cells → msT ≤ R.slots →
    ∀ (φ : Nat → Nat) (H : Heap) (locs : List Loc) (cells slots : Nat) (lsA : Array Slot), Iv s D cA A φ M H locs → lv_has lsA m.2.2.1 (lp φ 0 ls) → (∀ v ∈ ls, VOk M v) → (∀ v ∈ st, VOk M v) → cells + mK M' ≤ mcT + mK M → slots + mS M' ≤ msT + mS M → RCap m p l e R s mid args below meth c D cA A mcT msT Qg φ M o M' →
      W p l e R s mid args below meth c H locs cells slots Qg (F0 mid pc lsA (st.map (cv φ)))
def Cl (M : Mem) : Prop := ∀ k i f a, KO k → i < mC M k → mR M k i f = some a → VA M a
def WP (m : MRec) (d : Nat) (pc : Nat) (ls st : List Value) (M : Mem) (Q : Out → Mem → Prop) : Prop := ∃ o M', WPs m d pc ls st M o M' ∧ Q o M'
theorem WP.mono {m : MRec} {d pc : Nat} {ls st : List Value} {M : Mem} {Q Q' : Out → Mem → Prop} (h : WP m d pc ls st M Q) (hq : ∀ o M', Mono M M' → Q o M' → Q' o M') : WP m d pc ls st M Q' := by
  obtain ⟨o, M', h1, h2⟩ := h
  exact ⟨o, M', h1, hq o M' h1.1 h2⟩
/-- one instruction, whatever it does -/
theorem WP.gen {m : MRec} {d pc pc' : Nat} {ls ls' st st' : List Value} {M M1 : Mem} {Q : Out → Mem → Prop} {dk ds : Nat} (k : WP m d pc' ls' st' M1 Q) (hM : Mono M M1) (hk : mK M1 = mK M + dk) (hs : mS M1 = mS M + ds)
    (hok : Cl M → (∀ v ∈ ls, VOk M v) → (∀ v ∈ st, VOk M v) → (∀ v ∈ ls', VOk M1 v) ∧ ∀ v ∈ st', VOk M1 v)
    (hst : ∀ (p : Program) (l : Launch) (e : Env) (R : Room) (s : State) (mid : MethodId) (args : Array Value) (below : List Frame) (meth : Method) (c : Code) (D : va_G) (cA : Nat → ClassId) (A : Nat → Prop) (Qg : State → Prop), Cx m d p l R s mid args meth c D cA A →
      ∀ (φ : Nat → Nat) (H : Heap) (locs : List Loc) (cells slots : Nat) (lsA : Array Slot), Iv s D cA A φ M H locs → lv_has lsA m.2.2.1 (lp φ 0 ls) → (∀ v ∈ ls, VOk M v) → (∀ v ∈ st, VOk M v) → cells + dk ≤ R.cells → slots + ds ≤ R.slots →
      (∀ (φ1 : Nat → Nat) (H1 : Heap) (locs1 : List Loc) (lsB : Array Slot), Ext φ φ1 M → Iv s D cA A φ1 M1 H1 locs1 → lv_has lsB m.2.2.1 (lp φ1 0 ls') → W p l e R s mid args below meth c H1 locs1 (cells + dk) (slots + ds) Qg (F0 mid pc' lsB (st'.map (cv φ1)))) →
      W p l e R s mid args below meth c H locs cells slots Qg (F0 mid pc lsA (st.map (cv φ)))) : WP m d pc ls st M Q := by
  obtain ⟨o, M', ⟨hm, hw⟩, q⟩ := k
  refine ⟨o, M', ⟨hM.tr hm, ?_⟩, q⟩
  intro p l e R s mid args below meth c D cA A mcT msT Qg hc hmc hms φ H locs cells slots lsA hiv hl hls hst' hb1 hb2 hcap
  obtain ⟨ok1, ok2⟩ := hok hiv.1.2.2.2 hls hst'
  have z1 := hm.1
  have z2 := hm.2.1
  refine hst p l e R s mid args below meth c D cA A Qg hc φ H locs cells slots lsA hiv hl hls hst' (by omega) (by omega) ?_
  intro φ1 H1 locs1 lsB hext hiv1 hlB
  exact hw p l e R s mid args below meth c D cA A mcT msT Qg hc hmc hms φ1 H1 locs1 (cells + dk) (slots + ds) lsB hiv1 hlB ok1 ok2 (by omega) (by omega) (hcap.step hM hext)
/-- an instruction that leaves the heap -/
theorem WP.pure {m : MRec} {d pc pc' : Nat} {ls ls' st st' : List Value} {M : Mem} {Q : Out → Mem → Prop} (k : WP m d pc' ls' st' M Q)
    (hok : Cl M → (∀ v ∈ ls, VOk M v) → (∀ v ∈ st, VOk M v) → (∀ v ∈ ls', VOk M v) ∧ ∀ v ∈ st', VOk M v)
    (hst : ∀ (p : Program) (l : Launch) (e : Env) (R : Room) (s : State) (mid : MethodId) (args : Array Value) (below : List Frame) (meth : Method) (c : Code) (D : va_G) (cA : Nat → ClassId) (A : Nat → Prop) (Qg : State → Prop), Cx m d p l R s mid args meth c D cA A →
      ∀ (φ : Nat → Nat) (H : Heap) (locs : List Loc) (cells slots : Nat) (lsA : Array Slot), Iv s D cA A φ M H locs → lv_has lsA m.2.2.1 (lp φ 0 ls) → (∀ v ∈ ls, VOk M v) → (∀ v ∈ st, VOk M v) →
      (∀ (lsB : Array Slot), lv_has lsB m.2.2.1 (lp φ 0 ls') → W p l e R s mid args below meth c H locs cells slots Qg (F0 mid pc' lsB (st'.map (cv φ)))) →
      W p l e R s mid args below meth c H locs cells slots Qg (F0 mid pc lsA (st.map (cv φ)))) : WP m d pc ls st M Q :=
  WP.gen (dk := 0) (ds := 0) k (Mono.rf M) rfl rfl hok fun p l e R s mid args below meth c D cA A Qg hc φ H locs cells slots lsA hiv hl hls hs1 _ _ kk =>
    hst p l e R s mid args below meth c D cA A Qg hc φ H locs cells slots lsA hiv hl hls hs1 fun lsB hb => kk φ H locs lsB (Ext.rf φ M) hiv hb
/-- a return -/
theorem WP.ret {m : MRec} {d pc : Nat} {ls : List Value} {M : Mem} {Q : Out → Mem → Prop} {ov : Option Value} {i : Instr} (hd : decode m.2.1 pc = .ok (i, 1)) (hr : rIn m.2.2.2.1 ov i) (hq : Q (.inl ov) M) : WP m d pc ls ov.toList M Q := by
  refine ⟨.inl ov, M, ⟨Mono.rf M, ?_⟩, hq⟩
  intro p l e R s mid args below meth c D cA A mcT msT Qg hc hmc hms φ H locs cells slots lsA hiv hl hls hst hb1 hb2 hcap
  exact hcap.1 ov rfl φ H locs cells slots pc lsA i (Ext.rf φ M) hiv (by omega) (by omega) (fun v hv => hst v (by rw [hv]; exact List.mem_cons_self)) hr hd
