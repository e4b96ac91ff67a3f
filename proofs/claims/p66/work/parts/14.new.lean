/-! rows that make cells, throw, and read what never changes -/
section NW
variable {m : MRec} {d pc : Nat} {ls st : List Value} {M : Mem} {Q : Out → Mem → Prop}
theorem al_C (M : Mem) (k n sl k' : Nat) : mC (al M k n sl) k' = if k' = k then mC M k + 1 else mC M k' := rfl
theorem al_mono {M : Mem} {k n sl : Nat} (hk : KO k) : Mono M (al M k n sl) := by
  refine ⟨Nat.le_succ _, Nat.le_add_right _ _, fun k' => ?_, ?_, ?_⟩
  · rw [al_C]; split
    · next h => subst h; omega
    · exact Nat.le_refl _
  · show (if 27 = k ∧ 0 = mC M k then n else mN M 27 0) = _
    rw [if_neg (by omega)]
  · funext j
    show up2 M.1 k (mC M k) 0 27 0 j = _
    unfold up2; rw [if_neg (by omega)]; rfl
theorem al_ev (M : Mem) (k n sl k' i' f : Nat) : ev (al M k n sl) k' i' f = if k' = k ∧ i' = mC M k then defaultValue (tyk k f) else ev M k' i' f := by
  have e1 : mI (al M k n sl) k' i' f = if k' = k ∧ i' = mC M k then 0 else mI M k' i' f := rfl
  have e2 : mL (al M k n sl) k' i' f = if k' = k ∧ i' = mC M k then 0 else mL M k' i' f := rfl
  have e3 : mR (al M k n sl) k' i' f = if k' = k ∧ i' = mC M k then none else mR M k' i' f := rfl
  have e4 : mD (al M k n sl) k' i' f = if k' = k ∧ i' = mC M k then 0 else mD M k' i' f := rfl
  unfold ev
  rw [e1, e2, e3, e4]
  by_cases h : k' = k ∧ i' = mC M k
  · obtain ⟨rfl, rfl⟩ := h
    simp only [and_self, if_true]
    cases tyk k' f <;> rfl
  · simp only [if_neg h]
theorem ev_ok {M : Mem} {k i f : Nat} (hcl : Cl M) (hk : KO k) (hi : i < mC M k) : VOk M (ev M k i f) := by
  intro a h
  unfold ev at h
  split at h <;> first | (cases h; done) | skip
  all_goals
    cases hr : mR M k i f with
    | none => rw [hr] at h; cases h
    | some b =>
      rw [hr] at h
      cases h
      exact hcl k i f _ hk hi hr
theorem cv_def (φ : Nat → Nat) (t : FieldType) : cv φ (defaultValue t) = defaultValue t := by cases t <;> rfl
theorem Rel.kept {D : va_G} {cA : Nat → ClassId} {φ : Nat → Nat} {H H' : Heap} (h : Rel D cA φ M H) (hk : ∀ q, q < H.size → H'[q]? = H[q]?) : Rel D cA φ M H' := by
  refine ⟨fun k i q hq hi => ?_, fun k i h1 h2 hi => ?_, h.2.2.1, h.2.2.2⟩
  · have h5 := h.1 k i q hq hi
    have hlt : φ (rf k i) < H.size := by
      obtain ⟨cell, e, -⟩ := h5
      exact (Array.getElem?_eq_some_iff.mp e).1
    exact h5.kept (hk _ hlt)
  · have h5 := h.2.1 k i h1 h2 hi
    rw [hk _ (Array.getElem?_eq_some_iff.mp h5).1]
    exact h5
theorem Rel.lt {D : va_G} {cA : Nat → ClassId} {φ : Nat → Nat} {H : Heap} (h : Rel D cA φ M H) {k i : Nat} (hk : KO k) (hi : i < mC M k) : φ (rf k i) < H.size := by
  by_cases h13 : 13 ≤ k ∧ k < 21
  · exact (Array.getElem?_eq_some_iff.mp (h.2.1 k i h13.1 h13.2 hi)).1
  · have hlt : kx k < kcl.length := by
      show kx k < 18
      unfold kx
      split
      · omega
      · split <;> omega
    obtain ⟨cell, e, -⟩ := h.1 k i kcl[kx k] (List.getElem?_eq_getElem hlt) hi
    exact (Array.getElem?_eq_some_iff.mp e).1
/-- a new cell: the addresses and the world that go on -/
theorem Iv.new {s : State} {D : va_G} {cA : Nat → ClassId} {A : Nat → Prop} {φ : Nat → Nat} {H H' : Heap} {locs : List Loc} {k n sl : Nat} (hiv : Iv s D cA A φ M H locs) (hA : ∀ q, s.heap.size ≤ q → A q) (hk : KO k) (h2 : H'.size = H.size + 1) (h3 : ∀ a, a < H.size → H'[a]? = H[a]?) (hob : ∀ q, kq k = some q → t_OB H.size (D.1 (kx k)) q.2.2 (D.2 (kx k)) H' (fun f => defaultValue (tyk k f))) (har : 13 ≤ k → k < 21 → H'[H.size]? = some (arrV (cA k) n (fun _ => defaultValue (tyk k 0)))) :
    ∃ φ1, φ1 (rf k (mC M k)) = H.size ∧ Ext φ φ1 M ∧ Iv s D cA A φ1 (al M k n sl) H' locs := by
  have hcl : Cl M := hiv.1.2.2.2
  obtain ⟨hR, i2, i3, i4⟩ := hiv
  obtain ⟨φ1, e1⟩ : ∃ φ1 : Nat → Nat, φ1 = fun a => if a = rf k (mC M k) then H.size else φ a := ⟨_, rfl⟩
  have en : φ1 (rf k (mC M k)) = H.size := by rw [e1]; simp
  have eo : ∀ k' i', k' < 64 → ¬ (k' = k ∧ i' = mC M k) → φ1 (rf k' i') = φ (rf k' i') := by
    intro k' i' hk' hne
    rw [e1]
    show (if _ then _ else _) = _
    rw [if_neg (fun h => hne (rf_inj hk' (by omega) h))]
  have hext : Ext φ φ1 M := ⟨fun k' i' hk' hi' => eo k' i' (by omega) (by rintro ⟨rfl, rfl⟩; omega), fun k' i' hk' hk2 => eo k' i' hk2 (by rintro ⟨rfl, rfl⟩; omega)⟩
  have hin : ∀ k' i', i' < mC (al M k n sl) k' → (k' = k ∧ i' = mC M k) ∨ (¬ (k' = k ∧ i' = mC M k) ∧ i' < mC M k') := by
    intro k' i' hi'
    rw [al_C] at hi'
    by_cases hkk : k' = k
    · subst hkk
      rw [if_pos rfl] at hi'
      by_cases hh : i' = mC M k'
      · exact Or.inl ⟨rfl, hh⟩
      · exact Or.inr ⟨by rintro ⟨-, h⟩; exact hh h, by omega⟩
    · rw [if_neg hkk] at hi'
      exact Or.inr ⟨by rintro ⟨h, -⟩; exact hkk h, hi'⟩
  have hm := al_mono (M := M) (n := n) (sl := sl) hk
  refine ⟨φ1, en, hext, ⟨⟨fun k' i' q hq hi' => ?_, fun k' i' h1' h2' hi' => ?_, fun k1 i1 k2 i2' a b c d e => ?_, fun k' i' f a hk' hi' ha => ?_⟩, fun k' i' hk' hi' => ?_, ⟨by rw [h2]; exact Nat.le_trans i3.1 (Nat.le_succ _), fun q hq hn => (h3 q (Nat.lt_of_lt_of_le hq i3.1)).trans (i3.2.1 q hq hn), i3.2.2⟩, ?_⟩⟩
  · rcases hin k' i' hi' with ⟨rfl, rfl⟩ | ⟨hne, hi2⟩
    · rw [en]
      refine (hob q hq).to fun f _ => ?_
      rw [al_ev, if_pos ⟨rfl, rfl⟩, cv_def]
    · have hk' := kq_lt hq
      rw [eo k' i' (by omega) hne]
      refine ((hR.1 k' i' q hq hi2).kept (h3 _ (hR.lt (by omega) hi2))).to fun f _ => ?_
      rw [al_ev, if_neg hne, cv_ext hext (ev_ok hcl (by omega) hi2)]
  · rcases hin k' i' hi' with ⟨rfl, rfl⟩ | ⟨hne, hi2⟩
    · rw [en, har h1' h2']
      have e5 : mN (al M k' n sl) k' (mC M k') = n := by show (if _ then _ else _) = _; rw [if_pos ⟨rfl, rfl⟩]
      rw [e5]
      congr 2
      funext j
      rw [al_ev, if_pos ⟨rfl, rfl⟩, cv_def, tyk_arr h1' h2' j]
    · rw [eo k' i' (by omega) hne, h3 _ (hR.lt (Or.inl h2') hi2), hR.2.1 k' i' h1' h2' hi2]
      have e5 : mN (al M k n sl) k' i' = mN M k' i' := by show (if _ then _ else _) = _; rw [if_neg hne]
      rw [e5]
      congr 2
      funext j
      rw [al_ev, if_neg hne, cv_ext hext (ev_ok hcl (Or.inl h2') hi2)]
  · rcases hin k1 i1 b with ⟨rfl, rfl⟩ | ⟨hne, hi2⟩ <;> rcases hin k2 i2' d with ⟨rfl, rfl⟩ | ⟨hne2, hi3⟩
    · exact ⟨rfl, rfl⟩
    · rw [en, eo k2 i2' (by omega) hne2] at e
      have := hR.lt c hi3
      omega
    · rw [en, eo k1 i1 (by omega) hne] at e
      have := hR.lt a hi2
      omega
    · rw [eo k1 i1 (by omega) hne, eo k2 i2' (by omega) hne2] at e
      exact hR.2.2.1 k1 i1 k2 i2' a hi2 c hi3 e
  · have e3 : mR (al M k n sl) k' i' f = if k' = k ∧ i' = mC M k then none else mR M k' i' f := rfl
    rw [e3] at ha
    rcases hin k' i' hi' with ⟨rfl, rfl⟩ | ⟨hne, hi2⟩
    · rw [if_pos ⟨rfl, rfl⟩] at ha; cases ha
    · rw [if_neg hne] at ha
      exact VA.mono hm (hcl k' i' f a hk' hi2 ha)
  · rcases hin k' i' hi' with ⟨rfl, rfl⟩ | ⟨hne, hi2⟩
    · rw [en]; exact hA _ i3.1
    · rw [eo k' i' (by omega) hne]; exact i2 k' i' hk' hi2
  · rw [hm.2.2.2.1, hm.2.2.2.2]
    exact Cst.ext hext.2 i4
theorem va_new_ok {M : Mem} {k n sl : Nat} (hk : KO k) : VOk (al M k n sl) (.ref (rf k (mC M k))) := by
  intro a ha
  cases ha
  exact i_VA hk (by rw [al_C, if_pos rfl]; omega)
theorem ok_al {M : Mem} {k n sl : Nat} {st : List Value} (hk : KO k) (hs : ∀ v ∈ st, VOk M v) : ∀ v ∈ st, VOk (al M k n sl) v := fun v hv => (hs v hv).mono (al_mono hk)
theorem R.new {k idx : Nat} {q : vw_C} (hq : kq k = some q) (hw1 : Cond.classLink m.1.cls idx q.1 ∈ gtbl) (hw2 : Cond.instantiable q.1 q.2.2 ∈ gtbl) (hw3 : Cond.initialized q.1 ∈ gtbl) (hd : decode m.2.1 pc = .ok (.new idx, 3)) (kn9 : WP m d (pc + 3) ls (.ref (rf k (mC M k)) :: st) (al M k 0 q.2.2) Q) : WP m d pc ls st M Q :=
  have hk : KO k := by have := kq_lt hq; omega
  WP.gen (dk := 1) (ds := q.2.2) kn9 (al_mono hk) rfl rfl (fun _ hl hs => ⟨ok_al hk hl, ok_c (va_new_ok hk) (ok_al hk hs)⟩) (fun p l e R s mid args below meth c D cA A Qg hc φ H locs cells slots lsA hiv hlv hls hst hb1 hb2 kk => by
    have hc' := hc
    obtain ⟨hx, hb, hml, hlk, hown, hts, htr, hin, hK, hd1, hd2, hA, hex⟩ := hc
    have hin9 := kclOk q (List.mem_of_getElem? (i := kx k) hq)
    have hKn := hK.1.1 (kx k) _ hq
    refine W.newcK hx hb hown (hts _ hw1) (hts _ hw2) (hts _ hw3) rfl hd hb1 hb2 hKn.2.1 rfl fun H1 kC hkC e1 z1 o1 => ?_
    obtain ⟨φ1, en, hext, hiv1⟩ := hiv.new (n := 0) (sl := q.2.2) hA hk z1 o1 (fun q' hq' => by
      cases hq.symm.trans hq'
      exact u_born (tyk k) hts hin9 hKn hkC e1 (kinf k q hq).1) (fun h13 h21 => by have := kq_lt hq; omega)
    have k1 := kk φ1 H1 locs lsA hext hiv1 (by rw [lp_ext hext hls]; exact hlv)
    rw [List.map_cons, cv_rg (by omega), en, map_ext hext hst] at k1
    exact k1)
theorem R.newarr {k N : Nat} {n : Int32} {at9 : ArrayType} (h1 : 13 ≤ k) (h2 : k < 16) (ht : newarray.typeOf at9 = tyk k 0) (hw : Cond.arrayClass (tyk k 0) ∈ gtbl) (hn : ¬ n < 0) (hN : n.toNatClampNeg = N) (hby : N * 8 ≤ 536870912) (hd : decode m.2.1 pc = .ok (.newarray at9, 2)) (kn9 : WP m d (pc + 2) ls (.ref (rf k (mC M k)) :: st) (al M k N N) Q) : WP m d pc ls (.int n :: st) M Q :=
  have hk : KO k := by omega
  WP.gen (dk := 1) (ds := N) kn9 (al_mono hk) rfl rfl (fun _ hl hs => ⟨ok_al hk hl, ok_c (va_new_ok hk) (ok_al hk (ok_t hs))⟩) (fun p l e R s mid args below meth c D cA A Qg hc φ H locs cells slots lsA hiv hlv hls hst hb1 hb2 kk => by
    obtain ⟨hx, hb, hml, hlk, hown, hts, htr, hin, hK, hd1, hd2, hA, hex⟩ := hc
    refine va_newaK hx hb (by rw [ht]; exact hts _ hw) rfl hd rfl hn hN (by rw [ht]; rcases (by omega : k = 13 ∨ k = 14 ∨ k = 15) with rfl | rfl | rfl <;> (show N * componentBytes _ ≤ _; simp only [componentBytes, tyk]; omega)) hb1 hb2 rfl fun H1 cA1 e1 z1 o1 _ hfc => ?_
    have hcA : cA1 = cA k := by
      have h9 := (arr_of hK h1 (by omega)).2
      rw [ht] at hfc
      rcases (by omega : k = 13 ∨ k = 14 ∨ k = 15) with rfl | rfl | rfl <;> exact Option.some.inj (hfc.symm.trans h9)
    subst hcA
    obtain ⟨φ1, en, hext, hiv1⟩ := hiv.new (n := N) (sl := N) hA hk z1 o1 (fun q' hq' => by have := kq_lt hq'; omega) (fun _ _ => by rw [e1, ht])
    have k1 := kk φ1 H1 locs lsA hext hiv1 (by rw [lp_ext hext hls]; exact hlv)
    rw [List.map_cons, cv_rg (by omega), en, map_ext hext (ok_t hst)] at k1
    exact k1)
theorem R.anewarr {k N idx : Nat} {n : Int32} {C : String} (h1 : 16 ≤ k) (h2 : k < 21) (ht : tyk k 0 = .object C) (hw1 : Cond.classLink m.1.cls idx C ∈ gtbl) (hw2 : C ∈ arN) (hn : ¬ n < 0) (hN : n.toNatClampNeg = N) (hby : N * 4 ≤ 536870912) (hd : decode m.2.1 pc = .ok (.anewarray idx, 3)) (kn9 : WP m d (pc + 3) ls (.ref (rf k (mC M k)) :: st) (al M k N N) Q) : WP m d pc ls (.int n :: st) M Q :=
  WP.gen (dk := 1) (ds := N) kn9 (al_mono (Or.inl h2)) rfl rfl (fun _ hl hs => ⟨ok_al (Or.inl h2) hl, ok_c (va_new_ok (Or.inl h2)) (ok_al (Or.inl h2) (ok_t hs))⟩) (fun p l e R s mid args below meth c D cA A Qg hc φ H locs cells slots lsA hiv hlv hls hst hb1 hb2 kk => by
    obtain ⟨hx, hb, hml, hlk, hown, hts, htr, hin, hK, hd1, hd2, hA, hex⟩ := hc
    subst hN
    refine W.anew hx hb hown (hts _ hw1) (va_AO.use (hK.2.2.2.2 C hw2)) rfl hd rfl hn hby hb1 hb2 fun cA1 kA comp e1 e2 e3 e4 => ?_
    have hcA : cA1 = cA k := by
      have h9 := (arr_of hK (by omega) h2).2
      rw [ht] at h9
      obtain ⟨_, _, -, -, -, h5⟩ := h9
      exact Option.some.inj (e1.symm.trans h5)
    subst hcA
    obtain ⟨φ1, en, hext, hiv1⟩ := hiv.new (H' := H.push { cls := cA k, slots := Array.replicate n.toNatClampNeg .null, vm := .none }) (n := n.toNatClampNeg) (sl := n.toNatClampNeg) hA (Or.inl h2) (by simp) (fun a ha => by rw [Array.getElem?_push, if_neg (Nat.ne_of_lt ha)]) (fun q' hq' => by have := kq_lt hq'; omega) (fun _ _ => by rw [arrV_new, ht]; simp [defaultValue])
    have k1 := kk φ1 _ locs lsA hext hiv1 (by rw [lp_ext hext hls]; exact hlv)
    rw [List.map_cons, cv_rg (by omega), en, map_ext hext (ok_t hst)] at k1
    exact k1)
theorem R.aast {k i ko jo : Nat} {x : Int32} {q : vw_C} (hk1 : 17 ≤ k) (hk2 : k < 21) (hq : kq ko = some q) (ht : tyk k 0 = .object q.1) (hd : decode m.2.1 pc = .ok (.aastore, 1)) (h0 : ¬ x < 0) (h1 : x.toNatClampNeg < mN M k i) (kn9 : WP m d (pc + 1) ls st (sR M k i x.toNatClampNeg (some (rf ko jo))) Q) : WP m d pc ls (.ref (rf ko jo) :: .int x :: .ref (rf k i) :: st) M Q :=
  have hg : Chg M (sR M k i x.toNatClampNeg (some (rf ko jo))) k i x.toNatClampNeg (.ref (rf ko jo)) := chgR (x := some (rf ko jo)) (by rw [tyk_arr (by omega) hk2, ht]; rfl)
  WP.gen (dk := 0) (ds := 0) kn9 hg.mono hg.2.2.1 hg.2.2.2.1 (fun _ hl hs => ⟨fun w hw => (hl w hw).mono hg.mono, fun w hw => (hs w (by simp [hw])).mono hg.mono⟩) (fun p l e R s mid args below meth c D cA A Qg hc φ H locs cells slots lsA hiv hlv hls hst _ _ kk => by
    have hko := kq_lt hq
    have hi := VA_i (Or.inl hk2) (hst (.ref (rf k i)) (by simp) _ rfl)
    have hj := VA_i (by omega) (hst (.ref (rf ko jo)) (by simp) _ rfl)
    rw [List.map_cons, List.map_cons, List.map_cons, cv_rg (by omega), cv_rg (by omega)]
    obtain ⟨hx, hb, hml, hlk, hown, hts, htr, hin, hK, hd1, hd2, hA, hex⟩ := hc
    obtain ⟨cellV, g1, g2, g3, -⟩ := hiv.1.1 ko jo q hq hj
    have hcls := (hK.1.1 (kx ko) q hq).2
    have h9 := (arr_of hK (by omega) hk2).2
    rw [ht] at h9
    obtain ⟨kA, comp, k1, k2, k3, -⟩ := h9
    have hcomp : comp = D.1 (kx ko) := Option.some.inj (k3.symm.trans hcls.1)
    subst hcomp
    obtain ⟨kC, hkC, -⟩ := hcls.2
    refine W.aast hx hb (hiv.1.2.1 k i (by omega) hk2 hi) (fun q h => by cases h) (fun h => by cases h) k1 k2 rfl hkC ⟨h0, by rw [arrV_size]; exact h1⟩ g1 (fun q h => by rw [g3] at h; cases h) (by rw [g2]; exact hkC) (by rw [g2]; exact va_assign hcls) rfl rfl hd fun H' e z oq => ?_
    exact kk φ H' _ lsA (Ext.rf φ M) (hiv.aput hg (hst _ (by simp)) (by omega) hk2 hi (by rw [cv_rg (by omega)]; exact e) z oq) hlv)
/-- throw new X(text), nothing here catches it -/
def ThW (own cls text : String) (ik is ic si : Nat) : Prop :=
  Cond.classLink own ik cls ∈ gtbl ∧ Cond.initialized cls ∈ gtbl ∧ sTab[si]? = some (own, is, text) ∧ (∀ w ∈ (vx_atS own ic cls ["java/lang/RuntimeException", "java/lang/Exception"]).filter goodWord, w ∈ gtbl) ∧ (∀ w ∈ (vx_atS own ic cls ["java/lang/RuntimeException", "java/lang/Exception"]).filter (fun w => !goodWord w), w ∈ exW) ∧ (∀ w ∈ Cond.classLink own ik cls :: Cond.initialized cls :: vx_atS own ic cls ["java/lang/RuntimeException", "java/lang/Exception"], vx_ot w = true) ∧ cls ∈ exN ∧ Bundle.fit cls = true
theorem ax_mono : Mono M (ax M) := ⟨Nat.le_succ _, Nat.le_add_right _ _, fun _ => Nat.le_refl _, rfl, rfl⟩
theorem R.throwW {cls text : String} {ik is ic si : Nat} (hw : ThW m.1.cls cls text ik is ic si) (hh : m.2.2.2.2 = []) (hdp : 6 ≤ d) (hr : (st.map fun v => v.category).sum ≤ 8)
    (d0 : decode m.2.1 pc = .ok (.new ik, 3)) (d3 : decode m.2.1 (pc + 3) = .ok (.dup, 1)) (d4 : decode m.2.1 (pc + 4) = .ok (.ldc_w is, 3)) (d7 : decode m.2.1 (pc + 7) = .ok (.invokespecial ic, 3)) (d10 : decode m.2.1 (pc + 10) = .ok (.athrow, 1)) (hq : Q (.inr cls) (ax M)) : WP m d pc ls st M Q := by
  refine ⟨.inr cls, ax M, ⟨ax_mono, ?_⟩, hq⟩
  intro p l e R s mid args below meth c D cA A mcT msT Qg hc hmc hms φ H locs cells slots lsA hiv hl hls hst hb1 hb2 hcap
  obtain ⟨w1, w2, w3, w4, w5, w6, w7, w8⟩ := hw
  obtain ⟨hx, hb, hml, hlk, hown, hts, htr, hin, hK, hd1, hd2, hA, hex⟩ := hc
  obtain ⟨Qc, XC, free, rfl, hfree, hX⟩ := hcap.2 cls rfl
  obtain ⟨i1, i2, i3, i4⟩ := hiv
  have hex2 : ∀ x ∈ c.exceptionTable.toList, covers x (pc + 10) = false := by
    intro x hx
    rw [hh] at hex
    rw [List.map_eq_nil_iff.mp hex] at hx
    cases hx
  have e1 : mK (ax M) = mK M + 1 := rfl
  have e2 : mS (ax M) = mS M + 6 := rfl
  have hcat := cat_map (φ := φ) hr
  exact vx_throwSW hx hb htr hown w8 (by decide) (hts _ w1) (hts _ w2) (i4.1 si _ w3).2 (vx_hat (fun w hw => hts _ (w4 w hw)) w5 (fun w hw => va_Nw.use (exW_ot w hw) (hK.2.2.1 w hw))) w6 i4.2.2.2.2.2.2.2.2.2.1.1 i4.2.2.2.2.2.2.2.2.2.1.2 i3 (hl.1.trans hml.symm) d0 d3 d4 d7 d10 hex2 (by simp; omega) (by simp only [List.length_cons, List.length_nil]; omega) (by omega) (by omega) hlk
    (fun t _ hsz hsame => hX φ t (Ext.rf φ M) (i1.kept hsame) i2 ⟨Nat.le_trans i3.1 hsz, fun q h1 h2 => (hsame q (Nat.lt_of_lt_of_le h1 i3.1)).trans (i3.2.1 q h1 h2)⟩) (fun z hz => hfree _ (i3.2.2 z hz)) (by omega) (by omega)
theorem R.objInit {k i idx : Nat} (hk : k < 64 ∧ k ≠ 29) (hw1 : Cond.methodLink m.1.cls idx Lib.objectInit ∈ gtbl) (hw2 : Cond.instanceMethod Lib.objectInit ∈ gtbl) (hw3 : Cond.code Lib.objectInit ⟨#[0xb1]⟩ 1 none ∈ gtbl) (hdp : 2 ≤ d) (hr : (st.map fun v => v.category).sum ≤ 8) (hd : decode m.2.1 pc = .ok (.invokespecial idx, 3)) (kn9 : WP m d (pc + 3) ls st M Q) : WP m d pc ls (.ref (rf k i) :: st) M Q :=
  WP.pure kn9 (fun _ hl hs => ⟨hl, ok_t hs⟩) (fun p l e R s mid args below meth c D cA A Qg hc φ H locs cells slots lsA hiv hlv hls hst kk => by
    obtain ⟨hx, hb, hml, hlk, hown, hts, htr, hin, hK, hd1, hd2, hA, hex⟩ := hc
    have hcat := cat_map (φ := φ) hr
    rw [List.map_cons, cv_rg hk]
    exact W.objInit hx hb hown (hts _ hw1) (hts _ hw2) (hts _ hw3) rfl (by rw [hml]; exact hlv.1) rfl hd (by omega) (by show 2 * 0 + _ + 12 ≤ _; omega) (kk lsA hlv))
end NW
