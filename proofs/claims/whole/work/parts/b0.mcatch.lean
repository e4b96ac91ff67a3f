/-! methods with handlers: how they are called, what they catch -/
def CalW (y : MRec) (n : Nat) : Prop := y.2.2.2.2 ≠ [] ∧ Cond.codeWith y.1 y.2.1 y.2.2.1 y.2.2.2.1 y.2.2.2.2 ∈ gtbl ∧ (Cond.initialized y.1.cls) ∈ gtbl ∧ (y.1.cls ≠ "java/lang/invoke/MethodHandle" ∧ y.1.cls ≠ "java/lang/invoke/VarHandle" ∧ (parseMethodDescriptor y.1.desc).map (fun d => d.parameters.length) = some n) ∧ y.2.2.1 ≤ 22
theorem wc_codeW {y : MRec} (h : y.2.2.2.2 ≠ []) : wcode y = Cond.codeWith y.1 y.2.1 y.2.2.1 y.2.2.2.1 y.2.2.2.2 := by unfold wcode; rw [if_neg h]
theorem good_calW {y : MRec} {n : Nat} (h : CalW y n) : GoodIn gtbl (wcode y :: gtbl) := by
  intro w hw
  rcases List.mem_cons.mp hw with rfl | hw
  · rw [wc_codeW h.1]; exact gt_good h.2.1
  · exact gt_good hw
theorem CallK.SW {m : MRec} {d : Nat} {y : MRec} {pc n idx : Nat} {args rest : List Value} {M : Mem} (hc : CalW y n) (hl : Cond.methodLink m.1.cls idx y.1 ∈ gtbl) (hs : Cond.static y.1 ∈ gtbl) (hn : args.length = n) (hr : (rest.map fun v => v.category).sum ≤ 8) (hd : decode m.2.1 pc = .ok (.invokestatic idx, 3)) : CallK m d y pc (args.reverse ++ rest) rest args M := by
  intro p l e R s mid args0 below meth c D cA A hcx φ H locs cells slots lsA hiv hsz hst Pc Qc XC mc ms free hM hbl hpc hcs
  obtain ⟨hx, hb, hml, hlk, hown, hts, htr, hin, hK, hd1, hd2, hA, hex⟩ := hcx
  have hG : GoodIn gtbl (va_wsS m.1.cls idx y.1 (wcode y :: gtbl)) := by
    intro w hw
    unfold va_wsS at hw
    rcases List.mem_append.mp hw with hw | hw
    · simp only [List.mem_cons, List.mem_nil_iff, or_false] at hw
      rcases hw with rfl | rfl | rfl
      · exact gt_good hl
      · exact gt_good hs
      · exact gt_good hc.2.2.1
    · exact good_calW hc w hw
  rw [rev_map]
  exact vx_runSX (hh := y.2.2.2.2) (As := args.map (cv φ)) (rest := rest.map (cv φ)) (bytes := y.2.1) (maxL := y.2.2.1) (ret := y.2.2.2.1) (g := F0 mid pc lsA ((args.map (cv φ)).reverse ++ rest.map (cv φ))) (H := H) (locs := locs) (cells := cells) (slots := slots) ⟨hx, hb, hml, hown, hts⟩ hM (vx_cwSW n hts hG (by rw [wc_codeW hc.1]) rfl rfl hc.2.2.2.1 ⟨hd1, by have := hc.2.2.2.2; show 8 + (y.2.2.1 + 11) + 41 * d ≤ R.locals; omega⟩)
    ⟨hbl, hpc⟩ rfl (by rw [List.length_map]; exact hn) hsz rfl (lv_room (cat_map hr)) hd hcs
def tE4 (q : Nat × Nat × Nat × Nat) : ExceptionTableEntry := { startPc := q.1, endPc := q.2.1, handlerPc := q.2.2.1, catchType := q.2.2.2 }
theorem tE4_l (l : List ExceptionTableEntry) : (l.map (fun x => (x.startPc, x.endPc, x.handlerPc, x.catchType))).map tE4 = l := by
  induction l with
  | nil => rfl
  | cons a l ih => rw [List.map_cons, List.map_cons, ih]; rfl
theorem st_subU {φ : Nat → Nat} {ls : List Value} {i : Nat} (hi : i < ls.length) (hp : lft ls i = true) : ∀ q ∈ lp φ 0 (ls.set i UN), q ∈ (lp φ 0 ls).filter (fun q => !(q.1 == i) && !(q.1 + 1 == i && q.2.category == 2)) := by
  intro q hq
  obtain ⟨k, w, h1, h2, h3⟩ := lp_mem.mp hq
  by_cases hk : k = i
  · subst hk
    rw [List.getElem?_set_self hi] at h1
    cases h1
    exact absurd h2 (by decide)
  · rw [List.getElem?_set_ne (Ne.symm hk)] at h1
    refine List.mem_filter.mpr ⟨lp_mem.mpr ⟨k, w, h1, h2, h3⟩, ?_⟩
    have e1 : q.1 = k := by rw [h3]; simp
    have e2 : q.2.category = w.category := by rw [h3]; exact cv_cat φ w
    rw [e1, e2]
    by_cases hk2 : k + 1 = i
    · subst hk2
      simp only [lft, h1] at hp
      have : w.category = 1 := by simpa using hp
      rw [this]
      simp
    · simp [hk, hk2]
/-- the row that catches E at pc, and the walk behind it -/
def CX (m : MRec) (d pc : Nat) (ls : List Value) (E : String) (M : Mem) (Q : Out → Mem → Prop) : Prop :=
  ∃ (pre : List (Nat × Nat × Nat × Nat)) (x : Nat × Nat × Nat × Nat) (suf : List (Nat × Nat × Nat × Nat)) (n len : Nat), m.2.2.2.2 = pre ++ x :: suf ∧ (∀ z ∈ pre, covers (tE4 z) pc = false ∨ (z.2.2.2 ≠ 0 ∧ ∃ nm, Cond.classLink m.1.cls z.2.2.2 nm ∈ gtbl ∧ nm ∈ exN ∧ E ≠ nm)) ∧ covers (tE4 x) pc = true ∧ x.2.2.2 ≠ 0 ∧ Cond.classLink m.1.cls x.2.2.2 E ∈ gtbl ∧ E ∈ exN ∧ Cond.castable E E ∈ exW ∧ ((∃ k : Fin 4, (k : Nat) = n ∧ len = 1 ∧ decode m.2.1 x.2.2.1 = .ok (.astore_n k, 1)) ∨ (len = 2 ∧ decode m.2.1 x.2.2.1 = .ok (.astore n, 2))) ∧ (n < ls.length ∧ n < m.2.2.1 ∧ lft ls n = true) ∧ WP m d (x.2.2.1 + len) (ls.set n UN) [] M Q
set_option maxHeartbeats 1000000 in
theorem WP.callX {m : MRec} {d pc : Nat} {ls st st' args : List Value} {M : Mem} {y : MRec} {Q : Out → Mem → Prop} (hk : CallK m d y pc st st' args M) (hok : ∀ v ∈ st' ++ args, v ∈ st)
    (k : WPc d y args M (fun o M1 => match o with
      | .inl r => WP m (d + 1) (pc + 3) ls (r.toList ++ st') M1 Q
      | .inr E => CX m (d + 1) pc ls E M1 Q)) : WP m (d + 1) pc ls st M Q := by
  obtain ⟨o1, M1, hr, hq⟩ := k
  cases o1 with
  | inl r =>
    obtain ⟨o, M', ⟨hm, hw⟩, q⟩ := hq
    refine ⟨o, M', ⟨hr.1.tr hm, ?_⟩, q⟩
    intro p l e R s mid args0 below meth c D cA A mcT msT Qg hc hmc hms φ H locs cells slots lsA hiv hl hls hst hb1 hb2 hcap
    have hA := hc.2.2.2.2.2.2.2.2.2.2.2.1
    have z1 := hr.1.1
    have z2 := hr.1.2.1
    have z3 := hm.1
    have z4 := hm.2.1
    have hrun := hk p l e R s mid args0 below meth c D cA A hc φ H locs cells slots lsA hiv hl.1 hst _ _ _ _ _ _ (hr.2 l hc.2.2.2.2.2.2.1 D cA φ H.size) blind_R (hand_over hc.2.2.2.2.2.2.2.2.1 hA hiv (fun v hv => hst v (hok v (List.mem_append_right _ hv)))) ⟨by omega, by omega⟩
    intro T hT X
    rcases hrun T hT X with ⟨v, st₀, t, T', L, h0, X', hL, e1, e2, hQ, stp⟩ | ⟨q9, st₀, t, T', L, E, ce, h0, X', hL, e1, e2, hX, -⟩
    · obtain ⟨ov, φ', ho, hv, hext, hrel, hown, hF, hvok⟩ := hQ
      cases ho
      cases hv
      have hiv' := come_back hA hiv hr.1 h0 e1 hext hrel hown hF hL
      have hl' : lv_has lsA m.2.2.1 (lp φ' 0 ls) := by rw [lp_ext hext hls]; exact hl
      have hst2 : ∀ v ∈ r.toList ++ st', VOk M1 v := by
        intro v hv
        rcases List.mem_append.mp hv with hv | hv
        · exact hvok v (by simpa using hv)
        · exact (hst v (hok v (List.mem_append_left _ hv))).mono hr.1
      obtain ⟨t2, a1, b1⟩ := hw p l e R s mid args0 below meth c D cA A mcT msT Qg hc hmc hms φ' T'.heap (locs ++ L) (cells + (mK M1 - mK M)) (slots + (mS M1 - mS M)) lsA hiv' hl' (fun v hv => (hls v hv).mono hr.1) hst2 (by omega) (by omega) (hcap.step hr.1 hext) T' rfl X'
      refine ⟨t2, stp t2 ?_, b1⟩
      have e9 : (r.toList ++ st').map (cv φ') = (Option.map (cv φ') r).toList ++ st'.map (cv φ) := by
        rw [List.map_append, map_ext hext (fun v hv => hst v (hok v (List.mem_append_left _ hv)))]
        cases r <;> rfl
      rw [e9] at a1
      exact a1
    · obtain ⟨φ', ho, -⟩ := hX
      cases ho
  | inr E1 =>
    obtain ⟨pre, x, suf, n, len, hsp, hpass, hcov, hx0, hlk, hE, hcs, hdec, ⟨hn1, hn2, hn3⟩, ⟨o, M', ⟨hm, hw⟩, q⟩⟩ := hq
    refine ⟨o, M', ⟨hr.1.tr hm, ?_⟩, q⟩
    intro p l e R s mid args0 below meth c D cA A mcT msT Qg hc hmc hms φ H locs cells slots lsA hiv hl hls hst hb1 hb2 hcap
    have hA := hc.2.2.2.2.2.2.2.2.2.2.2.1
    have hKn := hc.2.2.2.2.2.2.2.2.1
    have z1 := hr.1.1
    have z2 := hr.1.2.1
    have z3 := hm.1
    have z4 := hm.2.1
    have hrun := hk p l e R s mid args0 below meth c D cA A hc φ H locs cells slots lsA hiv hl.1 hst _ _ _ _ _ _ (hr.2 l hc.2.2.2.2.2.2.1 D cA φ H.size) blind_R (hand_over hc.2.2.2.2.2.2.2.2.1 hA hiv (fun v hv => hst v (hok v (List.mem_append_right _ hv)))) ⟨by omega, by omega⟩
    intro T hT X
    rcases hrun T hT X with ⟨v, st₀, t, T', L, h0, X', hL, e1, e2, hQ, stp⟩ | ⟨q9, st₀, t, T', L, E, ce, h0, X', hL, e1, e2, hX, hce, hcv, hcl, stp⟩
    · obtain ⟨ov, φ', ho, -⟩ := hQ
      cases ho
    · obtain ⟨φ', ho, hext, hrel, hown, hF⟩ := hX
      cases ho
      have hiv' := come_back hA hiv hr.1 h0 e1 hext hrel hown hF hL
      have hl' : lv_has lsA m.2.2.1 (lp φ' 0 ls) := by rw [lp_ext hext hls]; exact hl
      have hUok : ∀ v ∈ ls.set n UN, VOk M1 v := by
        intro v hv
        rcases List.mem_or_eq_of_mem_set hv with h | h
        · exact (hls v h).mono hr.1
        · rw [h]; exact fun _ h => nomatch h
      have fin : ∀ lsB : Array Slot, lv_has lsB m.2.2.1 ((n, Value.ref q9) :: (lp φ' 0 ls).filter (fun q => !(q.1 == n) && !(q.1 + 1 == n && q.2.category == 2))) → W p l e R s mid args0 below meth c T'.heap (locs ++ L) (cells + (mK M1 - mK M)) (slots + (mS M1 - mS M)) Qg (F0 mid (x.2.2.1 + len) lsB []) := fun lsB hB =>
        hw p l e R s mid args0 below meth c D cA A mcT msT Qg hc hmc hms φ' T'.heap (locs ++ L) (cells + (mK M1 - mK M)) (slots + (mS M1 - mS M)) lsB hiv' (has_sub hB (fun q hq => List.mem_cons_of_mem _ (st_subU hn1 hn3 q hq))) hUok (fun v hv => by cases hv) (by omega) (by omega) (hcap.step hr.1 hext)
      have kk : W p l e R s mid args0 below meth c T'.heap (locs ++ L) (cells + (mK M1 - mK M)) (slots + (mS M1 - mS M)) Qg (F0 mid (tE4 x).handlerPc lsA [.ref q9]) := by
        rcases hdec with ⟨k9, hk9, rfl, hd9⟩ | ⟨rfl, hd9⟩
        · exact lv_astore_n hc.1 hc.2.1 hd9 hk9 hl' hn2 rfl fin
        · exact lv_astore hc.1 hc.2.1 hd9 hl' hn2 rfl fin
      have htab : c.exceptionTable.toList = pre.map tE4 ++ tE4 x :: suf.map tE4 := by
        have h1 := hc.2.2.2.2.2.2.2.2.2.2.2.2
        rw [← tE4_l c.exceptionTable.toList, h1, hsp, List.map_append, List.map_cons]
      obtain ⟨t2, a1, b1⟩ := vx_catch (pc := pc) (ls := lsA) (rest := st'.map (cv φ)) (own := m.1.cls) (name := E1) (E := E1) (ce := ce) (q := q9) hc.2.2.2.2.1 (pre.map tE4) (tE4 x) (suf.map tE4) htab (fun z hz => by
        obtain ⟨z9, hz9, rfl⟩ := List.mem_map.mp hz
        rcases hpass z9 hz9 with h | ⟨h1, nm, h2, h3, h4⟩
        · exact Or.inl h
        · exact Or.inr ⟨h1, nm, hc.2.2.2.2.2.1 _ h2, hKn.2.2.2.1 E1 hE nm h3 h4⟩) hcov hx0 (hc.2.2.2.2.2.1 _ hlk) (hKn.2.2.1 _ hcs) (by rw [e1]; exact hce) hcv hcl kk T' rfl X'
      exact ⟨t2, stp.trans a1, b1⟩
