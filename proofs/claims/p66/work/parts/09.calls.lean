/-! calls -/
def CallK (m : MRec) (d : Nat) (y : MRec) (pc : Nat) (st st' args : List Value) (M : Mem) : Prop :=
  ∀ (p : Program) (l : Launch) (e : Env) (R : Room) (s : State) (mid : MethodId) (args0 : Array Value) (below : List Frame) (meth : Method) (c : Code) (D : va_G) (cA : Nat → ClassId) (A : Nat → Prop), Cx m (d + 1) p l R s mid args0 meth c D cA A →
    ∀ (φ : Nat → Nat) (H : Heap) (locs : List Loc) (cells slots : Nat) (lsA : Array Slot), Iv s D cA A φ M H locs → lsA.size = m.2.2.1 → (∀ v ∈ st, VOk M v) →
    ∀ (Pc : Array Value → State → Prop) (Qc : Array Value → State → Outcome → State → Prop) (XC : String → State → State → Prop) (mc ms : Nat) (free : Addr → Prop), vx_Met l y.1 (wcode y :: gtbl) (Rm d mc ms) Pc Qc XC mc ms free → FrameBlind Pc → (∀ U : State, U.heap = H → s.WarmedH U.vm → Pc (args.map (cv φ)).toArray U) → cells + mc ≤ R.cells ∧ slots + ms ≤ R.slots →
      vx_Run p l e R s mid args0 below meth c H locs cells slots mc ms (F0 mid pc lsA (st.map (cv φ))) (st'.map (cv φ)) (Qc (args.map (cv φ)).toArray) XC free
/-- the world handed to a callee -/
theorem hand_over {s : State} {D : va_G} {cA : Nat → ClassId} {A : Nat → Prop} {φ : Nat → Nat} {M : Mem} {H : Heap} {locs : List Loc} {args : List Value} (hK : Kn D cA s) (hA : ∀ q, s.heap.size ≤ q → A q) (hiv : Iv s D cA A φ M H locs) (hok : ∀ v ∈ args, VOk M v) : ∀ U : State, U.heap = H → s.WarmedH U.vm → PcR D cA φ M H.size args (args.map (cv φ)).toArray U := by
  intro U hU hW
  obtain ⟨i1, i2, i3, i4⟩ := hiv
  subst hU
  refine ⟨rfl, rfl, hK.warm hW, i1, Cst.go hW i3.1 i3.2.1 (fun q hq => ?_) i4, hok⟩
  rcases hq with ⟨k, i, hk, hi, rfl⟩ | hq
  · exact i2 k i hk hi
  · exact hA q (Nat.le_trans i3.1 hq)
/-- the world that comes back -/
theorem come_back {s st₀ t T' : State} {D : va_G} {cA : Nat → ClassId} {A : Nat → Prop} {φ φ' : Nat → Nat} {M M1 : Mem} {H : Heap} {locs L : List Loc} (hA : ∀ q, s.heap.size ≤ q → A q) (hiv : Iv s D cA A φ M H locs) (hm : Mono M M1) (h0 : st₀.heap = H) (e1 : T'.heap = t.heap) (hext : Ext φ φ' M) (hrel : Rel D cA φ' M1 t.heap) (hown : Own (Af φ M H.size) φ' M1) (hF : va_F (Af φ M H.size) st₀ t) (hL : ∀ q ∈ L, Af φ M H.size q.base) : Iv s D cA A φ' M1 T'.heap (locs ++ L) := by
  obtain ⟨i1, i2, i3, i4⟩ := hiv
  have hAf : ∀ q, Af φ M H.size q → A q := by
    intro q hq
    rcases hq with ⟨k, i, hk, hi, rfl⟩ | hq
    · exact i2 k i hk hi
    · exact hA q (Nat.le_trans i3.1 hq)
  obtain ⟨f1, f2⟩ := hF
  rw [h0] at f1 f2
  refine ⟨by rw [e1]; exact hrel, fun k i hk hi => hAf _ (hown k i hk hi), ⟨by rw [e1]; exact Nat.le_trans i3.1 f1, fun q h1 h2 => ?_, fun q hq => ?_⟩, ?_⟩
  · rw [e1, f2 q (Nat.lt_of_lt_of_le h1 i3.1) (fun z => h2 (hAf q z))]
    exact i3.2.1 q h1 h2
  · rcases List.mem_append.mp hq with h | h
    · exact i3.2.2 q h
    · exact hAf _ (hL q h)
  · rw [hm.2.2.2.1, hm.2.2.2.2]
    exact Cst.ext hext.2 i4
set_option maxHeartbeats 1000000 in
theorem WP.callG {m : MRec} {d pc : Nat} {ls st st' args : List Value} {M : Mem} {y : MRec} {Q : Out → Mem → Prop} (hk : CallK m d y pc st st' args M) (hh : m.2.2.2.2 = []) (hok : ∀ v ∈ st' ++ args, v ∈ st)
    (k : WPc d y args M (fun o M1 => match o with
      | .inl r => WP m (d + 1) (pc + 3) ls (r.toList ++ st') M1 Q
      | .inr E => Q (.inr E) M1)) : WP m (d + 1) pc ls st M Q := by
  obtain ⟨o1, M1, hr, hq⟩ := k
  cases o1 with
  | inl r =>
    obtain ⟨o, M', ⟨hm, hw⟩, q⟩ := hq
    refine ⟨o, M', ⟨hr.1.tr hm, ?_⟩, q⟩
    intro p l e R s mid args0 below meth c D cA A mcT msT Qg hc hmc hms φ H locs cells slots lsA hiv hl hls hst hb1 hb2 hcap
    have hA := hc.2.2.2.2.2.2.2.2.2.2.2.1
    have z1 := hr.1.1
    have z2 := hr.1.2.1
    have z3 := hm.1
    have z4 := hm.2.1
    have hrun := hk p l e R s mid args0 below meth c D cA A hc φ H locs cells slots lsA hiv hl.1 hst _ _ _ _ _ _ (hr.2 l hc.2.2.2.2.2.2.1 D cA φ H.size) blind_R (hand_over hc.2.2.2.2.2.2.2.2.1 hA hiv (fun v hv => hst v (hok v (List.mem_append_right _ hv)))) ⟨by omega, by omega⟩
    intro T hT X
    rcases hrun T hT X with ⟨v, st₀, t, T', L, h0, X', hL, e1, e2, hQ, stp⟩ | ⟨q9, st₀, t, T', L, E, ce, h0, X', hL, e1, e2, hX, -⟩
    · obtain ⟨ov, φ', ho, hv, hext, hrel, hown, hF, hvok⟩ := hQ
      cases ho
      cases hv
      have hiv' := come_back hA hiv hr.1 h0 e1 hext hrel hown hF hL
      have hl' : lv_has lsA m.2.2.1 (lp φ' 0 ls) := by rw [lp_ext hext hls]; exact hl
      have hst2 : ∀ v ∈ r.toList ++ st', VOk M1 v := by
        intro v hv
        rcases List.mem_append.mp hv with hv | hv
        · exact hvok v (by simpa using hv)
        · exact (hst v (hok v (List.mem_append_left _ hv))).mono hr.1
      obtain ⟨t2, a1, b1⟩ := hw p l e R s mid args0 below meth c D cA A mcT msT Qg hc hmc hms φ' T'.heap (locs ++ L) (cells + (mK M1 - mK M)) (slots + (mS M1 - mS M)) lsA hiv' hl' (fun v hv => (hls v hv).mono hr.1) hst2 (by omega) (by omega) (hcap.step hr.1 hext) T' rfl X'
      refine ⟨t2, stp t2 ?_, b1⟩
      have e9 : (r.toList ++ st').map (cv φ') = (Option.map (cv φ') r).toList ++ st'.map (cv φ) := by
        rw [List.map_append, map_ext hext (fun v hv => hst v (hok v (List.mem_append_left _ hv)))]
        cases r <;> rfl
      rw [e9] at a1
      exact a1
    · obtain ⟨φ', ho, -⟩ := hX
      cases ho
  | inr E1 =>
    refine ⟨.inr E1, M1, ⟨hr.1, ?_⟩, hq⟩
    intro p l e R s mid args0 below meth c D cA A mcT msT Qg hc hmc hms φ H locs cells slots lsA hiv hl hls hst hb1 hb2 hcap
    have hA := hc.2.2.2.2.2.2.2.2.2.2.2.1
    have z1 := hr.1.1
    have z2 := hr.1.2.1
    have hrun := hk p l e R s mid args0 below meth c D cA A hc φ H locs cells slots lsA hiv hl.1 hst _ _ _ _ _ _ (hr.2 l hc.2.2.2.2.2.2.1 D cA φ H.size) blind_R (hand_over hc.2.2.2.2.2.2.2.2.1 hA hiv (fun v hv => hst v (hok v (List.mem_append_right _ hv)))) ⟨by omega, by omega⟩
    intro T hT X
    rcases hrun T hT X with ⟨v, st₀, t, T', L, h0, X', hL, e1, e2, hQ, stp⟩ | ⟨q9, st₀, t, T', L, E, ce, h0, X', hL, e1, e2, hX, hce, hcv, hcl, stp⟩
    · obtain ⟨ov, φ', ho, -⟩ := hQ
      cases ho
    · obtain ⟨φ', ho, hext, hrel, hown, hF⟩ := hX
      cases ho
      have hiv' := come_back hA hiv hr.1 h0 e1 hext hrel hown hF hL
      obtain ⟨Qc, XC, free, rfl, hfree, hx⟩ := hcap.2 _ rfl
      have hex : ∀ x ∈ c.exceptionTable.toList, covers x pc = false := by
        intro x hx
        have h1 := hc.2.2.2.2.2.2.2.2.2.2.2.2
        rw [hh] at h1
        rw [List.map_eq_nil_iff.mp h1] at hx
        cases hx
      obtain ⟨j1, j2, j3, j4⟩ := hiv'
      obtain ⟨t2, a1, b1⟩ := vx_out (pc := pc) (ls := lsA) (rest := st'.map (cv φ)) (H := T'.heap) (locs := locs ++ L) (cells := cells + (mK M1 - mK M)) (slots := slots + (mS M1 - mS M)) (mc := mcT) (ms := msT) (Qc := Qc) (XC := XC) (free := free) (E := E1) (ce := ce) (q := q9) hex hc.2.2.2.1 (by rw [e1]; exact hce) hcv hcl
        (fun t5 ht5 _ => hx φ' t5 hext (by rw [ht5]; exact j1) j2 (j3.F ht5)) (fun z hz => hfree _ (j3.2.2 z hz)) (by omega) (by omega) T' rfl X'
      exact ⟨t2, stp.trans a1, b1⟩
