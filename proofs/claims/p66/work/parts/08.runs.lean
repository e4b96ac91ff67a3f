/-! what a method does, as a fact about the machine; a walk gives it; a call uses it -/
def Rm (d mc ms : Nat) : Room := { frames := d, cells := mc, slots := ms, locals := 41 * d }
def PcR (D : va_G) (cA : Nat → ClassId) (φ : Nat → Nat) (M : Mem) (sz : Nat) (args : List Value) : Array Value → State → Prop := fun av U =>
  av = (args.map (cv φ)).toArray ∧ U.heap.size = sz ∧ Kn D cA U ∧ Rel D cA φ M U.heap ∧ Cst φ (Af φ M sz) U U.heap (mN M 27 0) (mI M 27 0) ∧ ∀ v ∈ args, VOk M v
def QcR (D : va_G) (cA : Nat → ClassId) (φ : Nat → Nat) (M : Mem) (sz : Nat) (o : Out) (M' : Mem) : Array Value → State → Outcome → State → Prop := fun _ st oc t =>
  ∃ (ov : Option Value) (φ' : Nat → Nat), o = .inl ov ∧ oc = .returned (ov.map (cv φ')) ∧ Ext φ φ' M ∧ Rel D cA φ' M' t.heap ∧ Own (Af φ M sz) φ' M' ∧ va_F (Af φ M sz) st t ∧ ∀ v, ov = some v → VOk M' v
def XcR (D : va_G) (cA : Nat → ClassId) (φ : Nat → Nat) (M : Mem) (sz : Nat) (o : Out) (M' : Mem) : String → State → State → Prop := fun E st t =>
  ∃ (φ' : Nat → Nat), o = .inr E ∧ Ext φ φ' M ∧ Rel D cA φ' M' t.heap ∧ Own (Af φ M sz) φ' M' ∧ va_F (Af φ M sz) st t
def Runs (d : Nat) (m : MRec) (args : List Value) (M : Mem) (o : Out) (M' : Mem) : Prop :=
  Mono M M' ∧ ∀ (l : Launch), l.stackTraces = false → ∀ (D : va_G) (cA : Nat → ClassId) (φ : Nat → Nat) (sz : Nat),
    vx_Met l m.1 (wcode m :: gtbl) (Rm d (mK M' - mK M) (mS M' - mS M)) (PcR D cA φ M sz args) (QcR D cA φ M sz o M') (XcR D cA φ M sz o M') (mK M' - mK M) (mS M' - mS M) (Af φ M sz)
def WPc (d : Nat) (m : MRec) (args : List Value) (M : Mem) (Q : Out → Mem → Prop) : Prop := ∃ o M', Runs d m args M o M' ∧ Q o M'
theorem WPc.mono {m : MRec} {d : Nat} {args : List Value} {M : Mem} {Q Q' : Out → Mem → Prop} (h : WPc d m args M Q) (hq : ∀ o M', Mono M M' → Q o M' → Q' o M') : WPc d m args M Q' := by
  obtain ⟨o, M', h1, h2⟩ := h
  exact ⟨o, M', h1, hq o M' h1.1 h2⟩
theorem blind_R {D : va_G} {cA : Nat → ClassId} {φ : Nat → Nat} {M : Mem} {sz : Nat} {args : List Value} : FrameBlind (PcR D cA φ M sz args) := by
  intro a U g mk h
  obtain ⟨h1, h2, h3, h4, h5, h6⟩ := h
  have hW : U.WarmedH (U.calling g mk a).vm := State.WarmedH.refl U
  exact ⟨h1, h2, h3.warm hW, h4, Cst.go (A := Af φ M sz) (H := U.heap) hW (Nat.le_refl _) (fun _ _ _ => rfl) (fun _ h => h) h5, h6⟩
theorem mm_ofW {l : Launch} {m : MRec} {ws' : List Cond} {rm : Room} {Pc : Array Value → State → Prop} {Qc : Array Value → State → Outcome → State → Prop} {XC : String → State → State → Prop} {mc ms : Nat} {free : Addr → Prop} (hy : plainFor m.1 = true)
    (body : ∀ p e s mid args below meth c s₁, BodyLoose p l m.1 (headSpec (wcode m :: ws') rm) m.2.1 m.2.2.1 m.2.2.2.1 e s mid args below meth c s₁ → c.maxLocals = m.2.2.1 → c.exceptionTable.toList.map (fun x => (x.startPc, x.endPc, x.handlerPc, x.catchType)) = m.2.2.2.2 → Pc args s →
      W p l e rm s mid args below meth c s.heap [] 0 0 (vx_MQ below Qc XC args s mc ms free) (entryFrame mid args m.2.2.1)) : vx_Met l m.1 (wcode m :: ws') rm Pc Qc XC mc ms free := by
  refine MetFree.of_bodySF (code := m.2.1) (maxLocals := m.2.2.1) (ret := m.2.2.2.1) hy ?_ ?_
  · intro args s mm h hn
    have hw := atoms_spec (ws := wcode m :: ws') h _ List.mem_cons_self
    unfold wcode at hw
    split at hw
    · obtain ⟨meth, c, h1, h2, h3, h4, h5, h6, -, -⟩ := Cond.code_spec hn hw
      exact ⟨meth, c, h1, h2, h3, h4, h5, h6⟩
    · obtain ⟨m9, meth, c, hn9, h1, h2, h3, h4, -, h5, h6, -⟩ := Cond.codeWith_spec hw
      cases hn.symm.trans hn9
      exact ⟨meth, c, h1, h2, h3, h4, h5, h6⟩
  · intro p e s mid args below meth c s₁ B hml hP _
    have hh0 : s₁.heap = s.heap := by rw [B.state]; rfl
    have ht : c.exceptionTable.toList.map (fun x => (x.startPc, x.endPc, x.handlerPc, x.catchType)) = m.2.2.2.2 := by
      have hw := atoms_spec (ws := wcode m :: ws') B.pre _ List.mem_cons_self
      unfold wcode at hw
      split at hw
      next hh =>
        obtain ⟨meth9, c9, h1, h2, -, -, -, -, h7, -⟩ := Cond.code_spec B.named hw
        cases Option.some.inj (h1.symm.trans B.method)
        cases Option.some.inj (h2.symm.trans (Stand.of_body B).code)
        rw [Array.isEmpty_iff.mp h7, hh]
        rfl
      · obtain ⟨m9, meth9, c9, hn9, h1, h2, -, -, h6, -⟩ := Cond.codeWith_spec hw
        cases Option.some.inj (hn9.symm.trans B.named)
        cases Option.some.inj (h1.symm.trans B.method)
        cases Option.some.inj (h2.symm.trans (Stand.of_body B).code)
        exact h6
    obtain ⟨t, a1, o, b1, b2, b3⟩ := body p e s mid args below meth c s₁ B hml ht hP s₁ hh0 (Stand.of_body B)
    exact ⟨t, o, a1, b1, b2, b3⟩
/-- the locals with which a method begins -/
def argl : List Value → List Value
  | [] => []
  | v :: r => if v.category = 2 then v :: UN :: argl r else v :: argl r
theorem argl_len (φ : Nat → Nat) (vs : List Value) : (lg_sl (vs.map (cv φ))).length = (argl vs).length := by
  induction vs with
  | nil => rfl
  | cons v r ih =>
    have e : lg_sl ((v :: r).map (cv φ)) = (if (cv φ v).category = 2 then [Slot.val (cv φ v), Slot.second] else [Slot.val (cv φ v)]) ++ lg_sl (r.map (cv φ)) := by simp [lg_sl]
    rw [e, cv_cat]
    unfold argl
    split <;> simp [ih]
theorem argl_mem {φ : Nat → Nat} {q : Nat × Value} {n : Nat} (vs : List Value) : ∀ i, q ∈ lp φ i (argl vs ++ List.replicate n UN) → q ∈ lv_args i (vs.map (cv φ)) := by
  have hU : ∀ (n i : Nat), lp φ i (List.replicate n UN) = [] := by
    intro n
    induction n with
    | zero => intro i; rfl
    | succ n ih => intro i; simp only [List.replicate_succ, lp, kn]; simpa using ih (i + 1)
  induction vs with
  | nil => intro i h; simp [argl, hU] at h
  | cons v r ih =>
    intro i h
    simp only [List.map_cons, lv_args, cv_cat]
    unfold argl at h
    by_cases hc : v.category = 2
    · rw [if_pos hc] at h ⊢
      have hkv : kn v = true := by cases v <;> first | rfl | (simp [Value.category] at hc)
      simp only [List.cons_append, lp] at h
      rw [if_pos hkv, if_neg (by simp [kn])] at h
      rcases List.mem_cons.mp h with h2 | h2
      · rw [h2]; exact List.mem_cons_self
      · exact List.mem_cons_of_mem _ (ih (i + 2) h2)
    · rw [if_neg hc] at h ⊢
      simp only [List.cons_append, lp] at h
      have h2 : q = (i, cv φ v) ∨ q ∈ lp φ (i + 1) (argl r ++ List.replicate n UN) := by
        split at h
        · rcases List.mem_cons.mp h with h | h
          · exact Or.inl h
          · exact Or.inr h
        · exact Or.inr h
      rcases h2 with h2 | h2
      · rw [h2]; exact List.mem_cons_self
      · exact List.mem_cons_of_mem _ (ih (i + 1) h2)
theorem argl_ok0 {M : Mem} (vs : List Value) (h : ∀ v ∈ vs, VOk M v) : ∀ v ∈ argl vs, VOk M v := by
  have hU : VOk M UN := fun _ h => nomatch h
  induction vs with
  | nil => intro v hv; simp [argl] at hv
  | cons w r ih =>
    intro v hv
    have ih' := ih (fun v hv => h v (List.mem_cons_of_mem _ hv))
    unfold argl at hv
    split at hv
    · rcases List.mem_cons.mp hv with rfl | hv
      · exact h _ List.mem_cons_self
      · rcases List.mem_cons.mp hv with rfl | hv
        · exact hU
        · exact ih' v hv
    · rcases List.mem_cons.mp hv with rfl | hv
      · exact h _ List.mem_cons_self
      · exact ih' v hv
theorem argl_ok {M : Mem} {n : Nat} (vs : List Value) (h : ∀ v ∈ vs, VOk M v) : ∀ v ∈ argl vs ++ List.replicate n UN, VOk M v := by
  have hU : VOk M UN := fun _ h => nomatch h
  intro v hv
  rcases List.mem_append.mp hv with hv | hv
  · exact argl_ok0 vs h v hv
  · rw [List.eq_of_mem_replicate hv]
    exact hU
theorem cv_ref_or {φ : Nat → Nat} {a : Nat} : cv φ (.ref a) = .null ∨ ∃ b, cv φ (.ref a) = .ref b := by
  simp only [cv]
  split
  · split
    · exact Or.inl rfl
    · exact Or.inr ⟨_, rfl⟩
  · exact Or.inr ⟨_, rfl⟩
set_option maxHeartbeats 1000000 in
theorem Runs.of {d : Nat} {m : MRec} {args ls : List Value} {M M' : Mem} {o : Out} (hy : plainFor m.1 = true) (hle : (argl args).length ≤ m.2.2.1) (hls : argl args ++ List.replicate (m.2.2.1 - (argl args).length) UN = ls) (h : WPs m d 0 ls [] M o M') : Runs d m args M o M' := by
  refine ⟨h.1, fun l htr D cA φ sz => mm_ofW hy ?_⟩
  intro p e s mid av below meth c s₁ B hml ht hP
  obtain ⟨rfl, hsz, hK, hR, hC, hok⟩ := hP
  subst hsz
  have hl := lv_entry (args.map (cv φ)) (n := m.2.2.1) (by rw [argl_len]; exact hle)
  rw [lg_entry_eq]
  have hl2 : lv_has ((lg_sl (args.map (cv φ)) ++ List.replicate (m.2.2.1 - (lg_sl (args.map (cv φ))).length) Slot.unset).toArray) m.2.2.1 (lp φ 0 ls) := has_sub hl fun q hq => argl_mem args 0 (by rw [hls]; exact hq)
  generalize (lg_sl (args.map (cv φ)) ++ List.replicate (m.2.2.1 - (lg_sl (args.map (cv φ))).length) Slot.unset).toArray = lsA at hl2 ⊢
  have hcx : Cx m d p l (Rm d (mK M' - mK M) (mS M' - mS M)) s mid (args.map (cv φ)).toArray meth c D cA (Af φ M s.heap.size) :=
    ⟨B.exec, B.bytes, hml, B.notSynchronized, findClass_of_methodNamed B.named, fun w hw => atoms_spec (ws := wcode m :: gtbl) B.pre w (List.mem_cons_of_mem _ hw), htr, fun hn => ((name_of_methodNamed B.named B.method).1).trans hn, hK, Nat.le_refl _, Nat.le_refl _, fun q hq => Or.inr hq, ht⟩
  have hm1 := h.1.1
  have hm2 := h.1.2.1
  refine h.2 p l e _ s mid _ below meth c D cA (Af φ M s.heap.size) (mK M' - mK M) (mS M' - mS M) _ hcx (Nat.le_refl _) (Nat.le_refl _) φ s.heap [] 0 0 lsA ⟨hR, fun k i hk hi => Or.inl ⟨k, i, hk, hi, rfl⟩, va_S.rf, hC⟩ hl2 (by rw [← hls]; exact argl_ok args hok) (fun v hv => by cases hv) (by omega) (by omega) ⟨?_, ?_⟩
  · intro ov ho φ' H' locs' cells' slots' pc' lsA' i hext hiv hc hs hvok hrin hd
    have hx := B.exec
    have hb := B.bytes
    have hlocks := B.notSynchronized
    have hr := B.returns
    obtain ⟨i1, i2, i3, i4⟩ := hiv
    have hq : ∀ (t : State), t.heap = H' → s.WarmedH t.vm → QcR D cA φ M s.heap.size o M' (args.map (cv φ)).toArray s (.returned (ov.map (cv φ'))) t := fun t ht _ => ⟨ov, φ', ho, rfl, hext, by rw [ht]; exact i1, i2, i3.F ht, hvok⟩
    refine W.widen hc hs (vx_ret ?_)
    cases ov with
    | none =>
      obtain ⟨rfl, hrt⟩ := hrin
      exact W.vret hx hb (hr.trans hrt) hq i3.2.2 hd hlocks
    | some v =>
      cases v with
      | int x =>
        obtain ⟨rfl, ty, hrt, hn⟩ := hrin
        exact W.zret hx hb (hr.trans hrt) hn hq i3.2.2 hd hlocks
      | long x =>
        obtain ⟨rfl, hrt⟩ := hrin
        exact W.lret hx hb (hr.trans hrt) hq i3.2.2 hd hlocks
      | float x =>
        obtain ⟨rfl, hrt⟩ := hrin
        exact W.fret hx hb (hr.trans hrt) hq i3.2.2 hd hlocks
      | double x =>
        obtain ⟨rfl, hrt⟩ := hrin
        exact W.dret hx hb (hr.trans hrt) hq i3.2.2 hd hlocks
      | retAddr x => exact hrin.elim
      | null =>
        obtain ⟨rfl, rt, hrt, hrt2⟩ := hrin
        exact W.aret hx hb (hr.trans hrt) hrt2 (Or.inl rfl) hq i3.2.2 hd hlocks
      | ref a =>
        obtain ⟨rfl, rt, hrt, hrt2⟩ := hrin
        exact W.aret hx hb (hr.trans hrt) hrt2 cv_ref_or hq i3.2.2 hd hlocks
  · intro E ho
    exact ⟨_, _, _, rfl, fun q hq => hq, fun φ' t h1 h2 h3 h4 => ⟨φ', ho, h1, h2, h3, h4⟩⟩
theorem WPc.of {d : Nat} {m : MRec} {args ls : List Value} {M : Mem} {Q : Out → Mem → Prop} (hy : plainFor m.1 = true) (hle : (argl args).length ≤ m.2.2.1) (hls : argl args ++ List.replicate (m.2.2.1 - (argl args).length) UN = ls) (h : WP m d 0 ls [] M Q) : WPc d m args M Q := by
  obtain ⟨o, M', h1, h2⟩ := h
  exact ⟨o, M', Runs.of hy hle hls h1, h2⟩
