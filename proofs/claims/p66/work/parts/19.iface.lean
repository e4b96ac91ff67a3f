/-! rows that the law and its lists need: calls through an interface, casts, references stored and copied -/
theorem met_of {l : Launch} {y : MethodName} {ws : List Cond} {rm : Room} {Pc : Array Value → State → Prop} {Qc : Array Value → State → Outcome → State → Prop} {XC : String → State → State → Prop} {mc ms : Nat} {free : Addr → Prop} (h : vx_Met l y ws rm Pc Qc XC mc ms free) (hx : ∀ E st t, ¬ XC E st t) : Met l y ws rm Pc Qc mc ms free := by
  intro p e h1 h2 h3 s m args below h4 h5 h6 h7
  obtain ⟨n, o, a, b, c, q⟩ := h p e h1 h2 h3 s m args below h4 h5 h6 h7
  refine ⟨n, o, a, b, c, ?_⟩
  rcases q with q | ⟨q9, -, E, ce, L, hX, -⟩
  · exact q
  · exact (hx _ _ _ hX).elim
theorem rcv_int {M : Mem} {j : Nat} (h : j < 256) : RcvOk M "java/lang/Integer" (rf 28 j) := by
  intro s D cA A φ H locs hK hiv hv
  obtain ⟨-, -, i3, i4⟩ := hiv
  obtain ⟨cell, h1, h2, h3, -⟩ := ((i4.2.2.2.2.1.1 j h).1).kept i3.2.1
  exact ⟨_, cell, cv_rg (by omega), h1, h2, h3⟩
/-- what an array of the lists may hold -/
def ElOk (M : Mem) (a : Nat) : Prop := ∃ C, RcvOk M C a ∧ Cond.castable C "java/lang/Object" ∈ exW
theorem el_cr {M : Mem} {i : Nat} : ElOk M (rf 11 i) := ⟨_, rcv_own (k := 11) rfl, by decide +kernel⟩
theorem el_in {M : Mem} {i : Nat} : ElOk M (rf 35 i) := ⟨_, rcv_own (k := 35) rfl, by decide +kernel⟩
theorem el_ic {M : Mem} {j : Nat} (h : j < 256) : ElOk M (rf 28 j) := ⟨_, rcv_int h, by decide +kernel⟩
section LR
variable {m : MRec} {d pc : Nat} {ls st : List Value} {M : Mem} {Q : Out → Mem → Prop}
set_option maxHeartbeats 1000000 in
theorem WP.callF {idx cnt n k i : Nat} {rest args : List Value} {y : MRec} {x : MethodName} {q : vw_C} (hq : kq k = some q) (hc : CalOk y n) (hl : Cond.methodLink m.1.cls idx x ∈ gtbl) (hF : (q.1, x, y.1) ∈ ifN) (hs : Cond.selects q.1 x y.1 ∈ gtbl) (hi : Cond.instanceMethod y.1 ∈ gtbl) (hdsc : (parseMethodDescriptor x.desc).map (fun d => d.parameters.length) = some n) (hn : args.length = n) (hr : (rest.map fun v => v.category).sum ≤ 8) (hd : decode m.2.1 pc = .ok (.invokeinterface idx cnt, 5))
    (k9 : WPc d y (.ref (rf k i) :: args) M (fun o M1 => ∃ r, o = .inl r ∧ WP m (d + 1) (pc + 5) ls (r.toList ++ rest) M1 Q)) : WP m (d + 1) pc ls (args.reverse ++ .ref (rf k i) :: rest) M Q := by
  obtain ⟨o1, M1, hr1, r, rfl, hq9⟩ := k9
  obtain ⟨o, M', ⟨hm, hw⟩, q9⟩ := hq9
  refine ⟨o, M', ⟨hr1.1.tr hm, ?_⟩, q9⟩
  intro p l e R s mid args0 below meth c D cA A mcT msT Qg hcx hmc hms φ H locs cells slots lsA hiv hl2 hls hst hb1 hb2 hcap
  have hcx' := hcx
  obtain ⟨hx, hb, hml, hlk, hown, hts, htr, hin, hK, hd1, hd2, hA, hex⟩ := hcx
  have z1 := hr1.1.1
  have z2 := hr1.1.2.1
  have z3 := hm.1
  have z4 := hm.2.1
  obtain ⟨b, cellB, eb, hcB, hoB, hclB⟩ := rcv_own (T := q.2.1) (N := q.2.2) hq s D cA A φ H locs hK hiv (hst (.ref (rf k i)) (by simp) _ rfl)
  have hargs : ∀ v ∈ Value.ref (rf k i) :: args, VOk M v := by
    intro v hv
    rcases List.mem_cons.mp hv with rfl | hv
    · exact hst _ (by simp)
    · exact hst v (by simp [hv])
  have hrest : ∀ v ∈ rest, VOk M v := fun v hv => hst v (by simp [hv])
  have hG : GoodIn gtbl (va_wsF m.1.cls idx q.1 x y.1 (wcode y :: gtbl)) := by
    intro w hw
    unfold va_wsF at hw
    rcases List.mem_append.mp hw with hw | hw
    · simp only [List.mem_cons, List.mem_nil_iff, or_false] at hw
      rcases hw with rfl | rfl | rfl | rfl
      · exact gt_good hl
      · exact gt_good hs
      · exact gt_good hi
      · exact gt_good hc.2.2.1
    · exact good_cal hc w hw
  have hM := met_of (hr1.2 l htr D cA φ H.size) (fun E st t h => by obtain ⟨φ', ho, -⟩ := h; cases ho)
  have hh := hand_over hK hA hiv hargs
  rw [List.map_cons, eb] at hh
  have hrun := va_runF (e := e) (below := below) (meth := meth) (As := args.map (cv φ)) (rest := rest.map (cv φ)) (b := b) (bytes := y.2.1) (maxL := y.2.2.1) (ret := y.2.2.2.1) (g := F0 mid pc lsA ((args.map (cv φ)).reverse ++ Value.ref b :: rest.map (cv φ))) (H := H) (locs := locs) (cells := cells) (slots := slots) (hK.1.1 (kx k) q hq).2 ⟨hx, hb, hml, hown, hts⟩ hM (va_cwF n hts hG (by rw [wc_code hc.1]) rfl rfl (hK.2.2.2.1 _ hF) ⟨(ifN_mh _ hF).1, (ifN_mh _ hF).2, hdsc⟩ ⟨hd1, by have := hc.2.2.2.2; show 8 + (y.2.2.1 + 11) + 41 * d ≤ R.locals; omega⟩)
    ⟨blind_R, ⟨cellB, hcB, hoB, hclB⟩, hh⟩ rfl (by rw [List.length_map]; exact hn) hl2.1 rfl (lv_room (cat_map hr)) hd ⟨by omega, by omega⟩
  rw [rev_map, List.map_cons, eb]
  intro T hT X
  obtain ⟨v, st₀, t, T', L, h0, X', hL, e1, e2, hQ, stp⟩ := hrun T hT X
  obtain ⟨ov, φ', ho, hv, hext, hrel, hown', hF', hvok⟩ := hQ
  cases ho
  cases hv
  have hiv' := come_back hA hiv hr1.1 h0 e1 hext hrel hown' hF' hL
  have hl' : lv_has lsA m.2.2.1 (lp φ' 0 ls) := by rw [lp_ext hext hls]; exact hl2
  have hst2 : ∀ v ∈ r.toList ++ rest, VOk M1 v := by
    intro v hv
    rcases List.mem_append.mp hv with hv | hv
    · exact hvok v (by simpa using hv)
    · exact (hrest v hv).mono hr1.1
  obtain ⟨t2, a1, b1⟩ := hw p l e R s mid args0 below meth c D cA A mcT msT Qg hcx' hmc hms φ' T'.heap (locs ++ L) (cells + (mK M1 - mK M)) (slots + (mS M1 - mS M)) lsA hiv' hl' (fun v hv => (hls v hv).mono hr1.1) hst2 (by omega) (by omega) (hcap.step hr1.1 hext) T' rfl X'
  refine ⟨t2, stp t2 ?_, b1⟩
  have e9 : (r.toList ++ rest).map (cv φ') = (Option.map (cv φ') r).toList ++ rest.map (cv φ) := by
    rw [List.map_append, map_ext hext hrest]
    cases r <;> rfl
  rw [e9] at a1
  exact a1
/-- a cast to the thing's own class -/
theorem R.cast {a idx k0 : Nat} {q : vw_C} (hq : kq k0 = some q) (hrc : RcvOk M q.1 a) (hw : Cond.classLink m.1.cls idx q.1 ∈ gtbl) (hd : decode m.2.1 pc = .ok (.checkcast idx, 3)) (kn9 : WP m d (pc + 3) ls (.ref a :: st) M Q) : WP m d pc ls (.ref a :: st) M Q :=
  WP.pure kn9 (fun _ hl hs => ⟨hl, hs⟩) (fun p l e R s mid args below meth c D cA A Qg hc φ H locs cells slots lsA hiv hlv hls hst kk => by
    obtain ⟨hx, hb, hml, hlk, hown, hts, htr, hin, hK, hd1, hd2, hA, hex⟩ := hc
    obtain ⟨b, cellB, eb, hcB, hoB, hclB⟩ := hrc s D cA A φ H locs hK hiv (hst (.ref a) List.mem_cons_self _ rfl)
    have k1 := kk lsA hlv
    rw [List.map_cons, eb] at k1 ⊢
    exact va_castS hx hb hown (hts _ hw) (hK.1.1 (kx k0) q hq).2 ⟨cellB, hcB, hoB, hclB⟩ hd k1)
/-- the class object of Object[] -/
theorem R.ldcM {idx : Nat} (hw : Cond.classLink m.1.cls idx "[Ljava/lang/Object;" ∈ gtbl) (hd : decode m.2.1 pc = .ok (.ldc idx, 2)) (kn9 : WP m d (pc + 2) ls (.ref (rf 25 0) :: st) M Q) : WP m d pc ls st M Q :=
  WP.pure kn9 (fun _ hl hs => ⟨hl, ok_c (VOk_c (by omega)) hs⟩) (fun p l e R s mid args below meth c D cA A Qg hc φ H locs cells slots lsA hiv hlv hls hst kk => by
    have k1 := kk lsA hlv
    rw [List.map_cons, cv_rg (by omega)] at k1
    exact va_ldcM hc.1 hc.2.1 hc.2.2.2.2.1 (hc.2.2.2.2.2.1 _ hw) hiv.2.2.2.2.2.2.2.1.2 hd k1)
theorem R.getC {i idx : Nat} (hw : Cond.methodLink m.1.cls idx ⟨"java/lang/Object", "getClass", "()Ljava/lang/Class;"⟩ ∈ gtbl) (hdp : 1 ≤ d) (hr : (st.map fun v => v.category).sum ≤ 8) (hd : decode m.2.1 pc = .ok (.invokevirtual idx, 3)) (kn9 : WP m d (pc + 3) ls (.ref (rf 25 0) :: st) M Q) : WP m d pc ls (.ref (rf 16 i) :: st) M Q :=
  WP.pure kn9 (fun _ hl hs => ⟨hl, ok_c (VOk_c (by omega)) (ok_t hs)⟩) (fun p l e R s mid args below meth c D cA A Qg hc φ H locs cells slots lsA hiv hlv hls hst kk => by
    obtain ⟨hx, hb, hml, hlk, hown, hts, htr, hin, hK, hd1, hd2, hA, hex⟩ := hc
    have k1 := kk lsA hlv
    have hcat := cat_map (φ := φ) hr
    rw [List.map_cons, cv_rg (by omega)] at k1
    rw [List.map_cons, cv_rg (by omega)]
    have h9 : va_RA s (cA 16) (.object "java/lang/Object") := (arr_of hK (k := 16) (by omega) (by omega)).2
    exact va_getC hx hb (hml.trans hlv.1.symm) hown (hts _ hw) (va_Nw.use rfl (hK.2.2.1 _ (List.mem_of_getElem? (i := 11) (by decide +kernel)))) (hts _ (gt_i 1732 (by decide +kernel) rfl)) (hts _ (gt_i 1334 (by decide +kernel) rfl)) (hts _ (gt_i 1359 (by decide +kernel) rfl)) hiv.2.2.2.2.2.2.2.1.2 ⟨_, hiv.1.2.1 16 i (by omega) (by omega) (VA_i (by omega) (hst (.ref (rf 16 i)) List.mem_cons_self _ rfl)), rfl, va_nmO h9 rfl⟩ (by omega) (by omega) hd k1)
theorem R.acmpEqS {k i : Nat} {off : Int} {tgt : Nat} (hk : k < 64 ∧ k ≠ 29) (hd : decode m.2.1 pc = .ok (.if_acmp .eq off, 3)) (ht : (pc : Int) + off = (tgt : Int)) (kn9 : WP m d tgt ls st M Q) : WP m d pc ls (.ref (rf k i) :: .ref (rf k i) :: st) M Q :=
  WP.pure kn9 (fun _ hl hs => ⟨hl, ok_t (ok_t hs)⟩) (fun p l e R s mid args below meth c D cA A Qg hc φ H locs cells slots lsA hiv hlv hls hst kk => by
    rw [List.map_cons, List.map_cons, cv_rg hk]
    exact lv_acmp_eq (rx := some _) (ry := some _) hc.1 hc.2.1 hd ht (fun _ => kk lsA hlv) (fun q => absurd rfl q))
theorem R.acmpNeS {k i : Nat} {off : Int} {tgt : Nat} (hk : k < 64 ∧ k ≠ 29) (hd : decode m.2.1 pc = .ok (.if_acmp .ne off, 3)) (ht : (pc : Int) + off = (tgt : Int)) (kn9 : WP m d (pc + 3) ls st M Q) : WP m d pc ls (.ref (rf k i) :: .ref (rf k i) :: st) M Q :=
  WP.pure kn9 (fun _ hl hs => ⟨hl, ok_t (ok_t hs)⟩) (fun p l e R s mid args below meth c D cA A Qg hc φ H locs cells slots lsA hiv hlv hls hst kk => by
    rw [List.map_cons, List.map_cons, cv_rg hk]
    exact lv_acmp_ne (rx := some _) (ry := some _) hc.1 hc.2.1 hd ht (fun q => absurd rfl q) (fun _ => kk lsA hlv))
/-- an element into an array of the lists -/
theorem R.aastO {i a : Nat} {x : Int32} (hel : ElOk M a) (hd : decode m.2.1 pc = .ok (.aastore, 1)) (h0 : ¬ x < 0) (h1 : x.toNatClampNeg < mN M 16 i) (kn9 : WP m d (pc + 1) ls st (sR M 16 i x.toNatClampNeg (some a)) Q) : WP m d pc ls (.ref a :: .int x :: .ref (rf 16 i) :: st) M Q :=
  have hg : Chg M (sR M 16 i x.toNatClampNeg (some a)) 16 i x.toNatClampNeg (.ref a) := chgR (x := some a) rfl
  WP.gen (dk := 0) (ds := 0) kn9 hg.mono hg.2.2.1 hg.2.2.2.1 (fun _ hl hs => ⟨fun w hw => (hl w hw).mono hg.mono, fun w hw => (hs w (by simp [hw])).mono hg.mono⟩) (fun p l e R s mid args below meth c D cA A Qg hc φ H locs cells slots lsA hiv hlv hls hst _ _ kk => by
    obtain ⟨C, hrc, hcw⟩ := hel
    obtain ⟨hx, hb, hml, hlk, hown, hts, htr, hin, hK, hd1, hd2, hA, hex⟩ := hc
    have hi := VA_i (by omega) (hst (.ref (rf 16 i)) (by simp) _ rfl)
    obtain ⟨b, cellB, eb, hcB, hoB, hclB⟩ := hrc s D cA A φ H locs hK hiv (hst (.ref a) List.mem_cons_self _ rfl)
    rw [List.map_cons, List.map_cons, List.map_cons, cv_rg (by omega), eb]
    obtain ⟨kA, comp, k1, k2, k3, -⟩ : va_RA s (cA 16) (.object "java/lang/Object") := (arr_of hK (k := 16) (by omega) (by omega)).2
    obtain ⟨c0, t0, f1, f2, f3⟩ := Cond.castable_spec (va_Nw.use (A := args) rfl (hK.2.2.1 _ hcw))
    cases hclB.symm.trans f1
    cases k3.symm.trans f2
    obtain ⟨kC, hkC, -⟩ := Vm.findClass_spec hclB
    obtain ⟨kE, hkE, -⟩ := Vm.findClass_spec k3
    refine W.aast hx hb (hiv.1.2.1 16 i (by omega) (by omega) hi) (fun q h => by cases h) (fun h => by cases h) k1 k2 rfl hkE ⟨h0, by rw [arrV_size]; exact h1⟩ hcB (fun q h => by rw [h] at hoB; cases hoB) hkC f3 rfl rfl hd fun H' e z oq => ?_
    exact kk φ H' _ lsA (Ext.rf φ M) (hiv.aput hg (hst _ (by simp)) (by omega) (by omega) hi (by rw [eb]; exact e) z oq) hlv)
theorem R.aastN {i : Nat} {x : Int32} (hd : decode m.2.1 pc = .ok (.aastore, 1)) (h0 : ¬ x < 0) (h1 : x.toNatClampNeg < mN M 16 i) (kn9 : WP m d (pc + 1) ls st (sR M 16 i x.toNatClampNeg none) Q) : WP m d pc ls (.null :: .int x :: .ref (rf 16 i) :: st) M Q :=
  have hg : Chg M (sR M 16 i x.toNatClampNeg none) 16 i x.toNatClampNeg .null := chgR (x := none) rfl
  WP.gen (dk := 0) (ds := 0) kn9 hg.mono hg.2.2.1 hg.2.2.2.1 (fun _ hl hs => ⟨fun w hw => (hl w hw).mono hg.mono, fun w hw => (hs w (by simp [hw])).mono hg.mono⟩) (fun p l e R s mid args below meth c D cA A Qg hc φ H locs cells slots lsA hiv hlv hls hst _ _ kk => by
    obtain ⟨hx, hb, hml, hlk, hown, hts, htr, hin, hK, hd1, hd2, hA, hex⟩ := hc
    have hi := VA_i (by omega) (hst (.ref (rf 16 i)) (by simp) _ rfl)
    rw [List.map_cons, List.map_cons, List.map_cons, cv_rg (by omega)]
    refine va_WaastN (C := "java/lang/Object") hx hb (hiv.1.2.1 16 i (by omega) (by omega) hi) ((arr_of hK (k := 16) (by omega) (by omega)).1 _ _) (fun h => by cases h) (hin_of h0 h1) rfl rfl hd fun H' e z oq => ?_
    exact kk φ H' _ lsA (Ext.rf φ M) (hiv.aput hg (VOk.null _) (by omega) (by omega) hi e z oq) hlv)
/-- references copied from array v to array w -/
def cpR (M : Mem) (v sp w dp n : Nat) : Mem := (M.1, M.2.1, (fun k i f => if k = 16 ∧ i = w ∧ dp ≤ f ∧ f < dp + n then M.2.2.1 16 v (sp + (f - dp)) else M.2.2.1 k i f), M.2.2.2)
theorem mR_cpR (M : Mem) (v sp w dp n k i f : Nat) : mR (cpR M v sp w dp n) k i f = if k = 16 ∧ i = w ∧ dp ≤ f ∧ f < dp + n then mR M 16 v (sp + (f - dp)) else mR M k i f := rfl
theorem ev_cpR (M : Mem) (v sp w dp n k i f : Nat) : ev (cpR M v sp w dp n) k i f = if k = 16 ∧ i = w ∧ dp ≤ f ∧ f < dp + n then ev M 16 v (sp + (f - dp)) else ev M k i f := by
  by_cases h : k = 16 ∧ i = w ∧ dp ≤ f ∧ f < dp + n
  · rw [if_pos h]
    obtain ⟨rfl, rfl, hf⟩ := h
    show va_rf (mR (cpR M v sp i dp n) 16 i f) = va_rf (mR M 16 v (sp + (f - dp)))
    rw [mR_cpR, if_pos ⟨rfl, rfl, hf⟩]
  · rw [if_neg h]
    unfold ev
    have e : mR (cpR M v sp w dp n) k i f = mR M k i f := by rw [mR_cpR, if_neg h]
    rw [e]
    rfl
theorem cpR_mono (M : Mem) (v sp w dp n : Nat) : Mono M (cpR M v sp w dp n) := ⟨Nat.le_refl _, Nat.le_refl _, fun _ => Nat.le_refl _, rfl, rfl⟩
theorem Iv.rcpy {s : State} {D : va_G} {cA : Nat → ClassId} {A : Nat → Prop} {φ : Nat → Nat} {M : Mem} {H H' : Heap} {locs locs' : List Loc} {v sp w dp n : Nat} (hiv : Iv s D cA A φ M H locs) (hv : v < mC M 16) (hi : w < mC M 16) (hl : ∀ q ∈ locs', q.base = φ (rf 16 w)) (h1 : H'[φ (rf 16 w)]? = some (arrV (cA 16) (mN M 16 w) (fun f => if dp ≤ f ∧ f < dp + n then cv φ (ev M 16 v (sp + (f - dp))) else cv φ (ev M 16 w f)))) (h2 : H'.size = H.size) (h3 : ∀ a, a ≠ φ (rf 16 w) → H'[a]? = H[a]?) : Iv s D cA A φ (cpR M v sp w dp n) H' (locs ++ locs') := by
  obtain ⟨⟨r1, r2, r3, r4⟩, i2, i3, i4⟩ := hiv
  have hm := (cpR_mono M v sp w dp n).2.2.2.2
  have hA : A (φ (rf 16 w)) := i2 16 w (by omega) hi
  refine ⟨⟨fun k' i' q' hq' hi' => ?_, fun k' i' hk1' hk2' hi' => ?_, r3, fun k' i' f a hk' hi' ha => ?_⟩, i2, ⟨by rw [h2]; exact i3.1, fun q g1 g2 => ?_, fun q hq => ?_⟩, by rw [hm]; exact i4⟩
  · have hk := kq_lt hq'
    have hne : φ (rf k' i') ≠ φ (rf 16 w) := fun h => by
      have h5 := r3 k' i' 16 w (by omega) hi' (by omega) hi h
      omega
    refine ((r1 k' i' q' hq' hi').kept (h3 _ hne)).to fun f _ => ?_
    rw [ev_cpR, if_neg (by omega)]
  · by_cases he : k' = 16 ∧ i' = w
    · obtain ⟨rfl, rfl⟩ := he
      rw [h1]
      show some (arrV (cA 16) (mN M 16 i') _) = some (arrV (cA 16) (mN M 16 i') _)
      congr 2
      funext x
      rw [ev_cpR]
      by_cases hx : dp ≤ x ∧ x < dp + n
      · rw [if_pos hx, if_pos ⟨rfl, rfl, hx⟩]
      · rw [if_neg hx, if_neg (fun h => hx h.2.2)]
    · have hne : φ (rf k' i') ≠ φ (rf 16 w) := fun h => he (r3 k' i' 16 w (Or.inl hk2') hi' (by omega) hi h)
      rw [h3 _ hne, r2 k' i' hk1' hk2' hi']
      show some (arrV (cA k') (mN M k' i') _) = some (arrV (cA k') (mN M k' i') _)
      congr 2
      funext x
      rw [ev_cpR, if_neg (by intro h; exact he ⟨h.1, h.2.1⟩)]
  · rw [mR_cpR] at ha
    split at ha
    · exact r4 16 v _ a (by omega) hv ha
    · exact r4 k' i' f a hk' hi' ha
  · rw [h3 q (fun e => g2 (by rw [e]; exact hA))]
    exact i3.2.1 q g1 g2
  · rcases List.mem_append.mp hq with h | h
    · exact i3.2.2 q h
    · rw [hl q h]; exact hA
set_option maxHeartbeats 1000000 in
/-- System.arraycopy of references -/
theorem R.rcopy {v w a b N idx : Nat} (hd : decode m.2.1 pc = .ok (.invokestatic idx, 3)) (hlk : Cond.methodLink m.1.cls idx arraycopyName ∈ gtbl) (ha : a < 2 ^ 31) (hb9 : b < 2 ^ 31) (hN : N < 2 ^ 31) (hv : a + N ≤ mN M 16 v) (hw : b + N ≤ mN M 16 w) (hel : ∀ j, j < N → ∀ y, mR M 16 v (a + j) = some y → ElOk M y) (hdp : 1 ≤ d) (hr : (st.map fun v => v.category).sum ≤ 8)
    (kn9 : WP m d (pc + 3) ls st (cpR M v a w b N) Q) : WP m d pc ls (.int (nI N) :: .int (nI b) :: .ref (rf 16 w) :: .int (nI a) :: .ref (rf 16 v) :: st) M Q :=
  WP.gen (dk := 0) (ds := 0) kn9 (cpR_mono M v a w b N) rfl rfl (fun _ hl hs => ⟨fun z hz => (hl z hz).mono (cpR_mono M v a w b N), fun z hz => (hs z (by simp [hz])).mono (cpR_mono M v a w b N)⟩) (fun p l e R s mid args below meth c D cA A Qg hc φ H locs cells slots lsA hiv hlv hls hst _ _ kk => by
    obtain ⟨hx, hb, hml, hlocks, hown, hts, htr, hin, hK, hd1, hd2, hA, hex⟩ := hc
    have hi := VA_i (by omega) (hst (.ref (rf 16 w)) (by simp) _ rfl)
    have hj := VA_i (by omega) (hst (.ref (rf 16 v)) (by simp) _ rfl)
    have hcat := cat_map (φ := φ) hr
    simp only [List.map_cons]
    rw [cv_rg (by omega), cv_rg (by omega)]
    intro T hT X
    have hc0 := hiv.1.2.1 16 v (by omega) (by omega) hj
    have hc1 := hiv.1.2.1 16 w (by omega) (by omega) hi
    obtain ⟨-, k0, hk0, cm0, hkk0⟩ := (arr_of hK (k := 16) (by omega) (by omega)).1 (mN M 16 v) (fun j => cv φ (ev M 16 v j))
    obtain ⟨-, k1, hk1, cm1, hkk1⟩ := (arr_of hK (k := 16) (by omega) (by omega)).1 (mN M 16 w) (fun j => cv φ (ev M 16 w j))
    have hra : va_RA s (cA 16) (.object "java/lang/Object") := (arr_of hK (k := 16) (by omega) (by omega)).2
    obtain ⟨vm', X', step⟩ := X.arraycopy hx hown (hts _ hlk) (hts _ (gt_i 1298 (by decide +kernel) rfl)) (hts _ (gt_i 1297 (by decide +kernel) rfl)) (hts _ (gt_i 28 (by decide +kernel) rfl)) (src := φ (rf 16 v)) (dst := φ (rf 16 w)) (cs := arrV (cA 16) (mN M 16 v) (fun j => cv φ (ev M 16 v j))) (cd := arrV (cA 16) (mN M 16 w) (fun j => cv φ (ev M 16 w j))) (srcPos := nI a) (destPos := nI b) (n := nI N) (by rw [hT]; exact hc0) (by rw [hT]; exact hc1)
      (fun _ h => by cases h) (fun _ h => by cases h) (fun h => by cases h) (fun h => by cases h) hk0 hk1 hkk0 hkk1 rfl (nI_pos ha) (nI_pos hb9) (nI_pos hN)
      (by rw [nI_toInt hN, nI_toInt ha, arrV_size]; omega)
      (by rw [nI_toInt hN, nI_toInt hb9, arrV_size]; omega)
      (fun vm₁ hal j hj2 => by
        rw [nI_clamp hN] at hj2
        have e : (arrV (cA 16) (mN M 16 v) (fun j => cv φ (ev M 16 v j))).slots.getD ((nI a).toNatClampNeg + j) .null = cv φ (va_rf (mR M 16 v (a + j))) := by
          rw [nI_clamp ha, Array.getD_eq_getD_getElem?, arrV_read _ _ (by omega)]
          rfl
        rw [e]
        cases hy : mR M 16 v (a + j) with
        | none => exact ⟨rfl, trivial⟩
        | some y =>
          obtain ⟨C, hrc, hcw⟩ := hel j hj2 y hy
          obtain ⟨b2, cellV, eb, g1, g2, g3⟩ := hrc s D cA A φ H locs hK hiv (hiv.1.2.2.2 16 v (a + j) y (by omega) hj hy)
          obtain ⟨kA, comp, r1, r2, r3, -⟩ := hra
          cases hk1.symm.trans r1
          cases hkk1.symm.trans r2
          obtain ⟨c0, t0, f1, f2, f3⟩ := Cond.castable_spec (va_Nw.use (A := args) rfl (hK.2.2.1 _ hcw))
          cases g3.symm.trans f1
          cases r3.symm.trans f2
          obtain ⟨kC, hkC, -⟩ := Vm.findClass_spec g3
          obtain ⟨kE, hkE, -⟩ := Vm.findClass_spec r3
          obtain ⟨kC', hkC', -⟩ := hal.2.2 _ _ hkC
          obtain ⟨kE', hkE', -⟩ := hal.2.2 _ _ hkE
          rw [show cv φ (va_rf (some y)) = cv φ (.ref y) from rfl, eb]
          refine ⟨rfl, cellV, (show T.heap[b2]? = some cellV by rw [hT]; exact g1), (fun q h => by rw [h] at g2; cases g2), ⟨kC', hkC'⟩, ⟨kE', hkE'⟩, ?_⟩
          show vm₁.assignable _ _ = true
          rw [hal.assignable]
          exact f3)
      (g := F0 mid pc lsA (.int (nI N) :: .int (nI b) :: .ref (φ (rf 16 w)) :: .int (nI a) :: .ref (φ (rf 16 v)) :: st.map (cv φ))) rfl (hlv.1.trans hml.symm) (rest := st.map (cv φ)) rfl (by rw [hb]; exact hd) (by omega) (by
        have h9 : nativeFrameWords "java/lang/System" "arraycopy" 5 + 11 ≤ 33 := by decide
        show 2 * 0 + _ + _ ≤ _
        omega)
    have e1 : copied (arrV (cA 16) (mN M 16 v) (fun j => cv φ (ev M 16 v j))) (arrV (cA 16) (mN M 16 w) (fun j => cv φ (ev M 16 w j))) (nI a) (nI b) (nI N) = arrV (cA 16) (mN M 16 w) (fun f => if b ≤ f ∧ f < b + N then cv φ (ev M 16 v (a + (f - b))) else cv φ (ev M 16 w f)) := by
      have h4 : (nI a).toNatClampNeg + (nI N).toNatClampNeg ≤ mN M 16 v := by rw [nI_clamp hN, nI_clamp ha]; omega
      have h5 := va_copied (fun z => z) (cA 16) (cA 16) (fun j => cv φ (ev M 16 v j)) (fun j => cv φ (ev M 16 w j)) (n1 := mN M 16 w) (dp := (nI b).toNatClampNeg) h4
      refine Eq.trans h5 ?_
      congr 1
      funext j
      rw [nI_clamp hN, nI_clamp ha, nI_clamp hb9]
      unfold va_cpy
      by_cases z : b ≤ j ∧ j < b + N
      · first | rw [if_pos z, if_pos z] | rw [if_pos z]
      · first | rw [if_neg z, if_neg z] | rw [if_neg z]
    rw [e1] at X' step
    have hl : φ (rf 16 w) < H.size := (Array.getElem?_eq_some_iff.mp hc1).1
    generalize hcl : arrV (cA 16) (mN M 16 w) (fun f => if b ≤ f ∧ f < b + N then cv φ (ev M 16 v (a + (f - b))) else cv φ (ev M 16 w f)) = cl9 at X' step
    have hheap : ((T.setVm vm').setCell (φ (rf 16 w)) cl9).heap = H.setIfInBounds (φ (rf 16 w)) cl9 := by rw [← hT]; rfl
    have oq : ∀ q : Nat, q ≠ φ (rf 16 w) → (H.setIfInBounds (φ (rf 16 w)) cl9)[q]? = H[q]? := fun q hq => by simp [Array.getElem?_setIfInBounds, Ne.symm hq]
    obtain ⟨t, a1, b1⟩ := kk φ (H.setIfInBounds (φ (rf 16 w)) cl9) _ lsA (Ext.rf φ M) (hiv.rcpy hj hi (locs' := _) (fun q hq => by
      obtain ⟨z, -, hz⟩ := List.mem_map.mp hq
      rw [← hz]) (by rw [hcl]; simp [Array.getElem?_setIfInBounds, hl]) (by simp) oq) hlv _ hheap X'
    exact ⟨t, step t a1, b1⟩)
end LR
