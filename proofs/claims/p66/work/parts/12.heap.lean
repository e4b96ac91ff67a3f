/-! rows that read and write the walk's own cells -/
theorem kclOk : ∀ q ∈ kcl, ∀ w ∈ u_ws q.1 q.2.1 q.2.2, w ∈ gtbl := by decide +kernel
def isI : FieldType → Bool
  | .int => true | .boolean => true | .byte => true | .short => true | .char => true | _ => false
def isRf : FieldType → Bool
  | .object _ => true | .array _ => true | _ => false
theorem ev_I {M : Mem} {k i f : Nat} (h : isI (tyk k f) = true) : ev M k i f = .int (mI M k i f) := by
  unfold ev
  cases hk : tyk k f <;> rw [hk] at h <;> first | rfl | cases h
theorem ev_R {M : Mem} {k i f : Nat} (h : isRf (tyk k f) = true) : ev M k i f = va_rf (mR M k i f) := by
  unfold ev
  cases hk : tyk k f <;> rw [hk] at h <;> first | rfl | cases h
theorem ev_L {M : Mem} {k i f : Nat} (h : tyk k f = .long) : ev M k i f = .long (mL M k i f) := by
  unfold ev; rw [h]
theorem ev_D {M : Mem} {k i f : Nat} (h : tyk k f = .double) : ev M k i f = .double (mD M k i f) := by
  unfold ev; rw [h]
/-- the entry of a class's pool that names field f of kind k -/
def FL (own : String) (idx k f : Nat) : Prop := ∃ q, kq k = some q ∧ f < q.2.2 ∧ ((∃ ref, (ref = (q.2.1 f).1 ∨ Cond.sameField ref (q.2.1 f).1 (q.2.1 f).2.1 (q.2.1 f).2.2.1 ∈ gtbl) ∧ Cond.fieldLink own idx ref (q.2.1 f).2.1 (q.2.1 f).2.2.1 ∈ gtbl) ∨ ∃ host, own ≠ (q.2.1 f).1 ∧ Cond.fieldLinkNest own idx (q.2.1 f).1 (q.2.1 f).2.1 (q.2.1 f).2.2.1 host ∈ exW)
theorem VA_i {M : Mem} {k i : Nat} (hk : KO k) (h : VA M (rf k i)) : i < mC M k := by
  have := h (by rw [kd_rf k i (by omega)]; exact hk)
  rwa [kd_rf k i (by omega), ix_rf k i (by omega)] at this
theorem i_VA {M : Mem} {k i : Nat} (hk : KO k) (h : i < mC M k) : VA M (rf k i) := by
  intro _
  rw [kd_rf k i (by omega), ix_rf k i (by omega)]
  exact h
section HR
variable {m : MRec} {d pc : Nat} {ls st : List Value} {M : Mem} {Q : Out → Mem → Prop}
theorem get_W {p : Program} {l : Launch} {e : Env} {R : Room} {s : State} {mid : MethodId} {args : Array Value} {below : List Frame} {meth : Method} {c : Code} {D : va_G} {cA : Nat → ClassId} {A : Nat → Prop} {φ : Nat → Nat} {H : Heap} {locs : List Loc} {cells slots : Nat} {Qg : State → Prop} {lsA : Array Slot} {rest : List Value} {k i f idx : Nat}
    (hc : Cx m d p l R s mid args meth c D cA A) (hiv : Iv s D cA A φ M H locs) (hf : FL m.1.cls idx k f) (hi : i < mC M k) (hdg : decode m.2.1 pc = .ok (.getfield idx, 3))
    (kk : W p l e R s mid args below meth c H locs cells slots Qg (F0 mid (pc + 3) lsA (cv φ (ev M k i f) :: rest))) : W p l e R s mid args below meth c H locs cells slots Qg (F0 mid pc lsA (.ref (φ (rf k i)) :: rest)) := by
  obtain ⟨q, hq, hfN, hlink⟩ := hf
  obtain ⟨hx, hb, hml, hlk, hown, hts, htr, hin, hK, hd1, hd2, hA, hex⟩ := hc
  obtain ⟨cell, q1, q2, q3, q4⟩ := hiv.1.1 k i q hq hi
  obtain ⟨hS, hfc, kC, hkC, hkind⟩ := hK.1.1 (kx k) _ hq
  obtain ⟨cf, kf, fi, fd, hi', hsl⟩ := hS f hfN
  have hst9 := (u_facts hfc hkC (u_lays hts (kclOk q (List.mem_of_getElem? (i := kx k) hq)) hfN) hi').1
  rcases hlink with ⟨ref, href, hl⟩ | ⟨host, -, hl⟩
  · have hsame : s.fieldFound? ref (q.2.1 f).2.1 (q.2.1 f).2.2.1 = some (cf, kf, fi, fd) := by
      rcases href with rfl | h
      · exact hi'
      · exact u_same (hts _ h) _ hi'
    exact W.getf hx hb hown (hts _ hl) hsame hst9 q1 (by rw [q3]; exact fun h => by cases h) (v := cv φ (ev M k i f)) (by rw [hsl]; exact q4 f hfN) rfl rfl hdg kk
  · exact va_Wgetf hx hb hown (va_Nw.use (exW_ot _ hl) (hK.2.2.1 _ hl)) hi' hst9 q1 (by rw [q3]; exact fun h => by cases h) (v := cv φ (ev M k i f)) (by rw [hsl]; exact q4 f hfN) rfl rfl hdg kk
theorem R.getI {k i f idx : Nat} (hd : decode m.2.1 pc = .ok (.getfield idx, 3)) (hf : FL m.1.cls idx k f) (hk : KO k) (ht : isI (tyk k f) = true) (kn9 : WP m d (pc + 3) ls (.int (mI M k i f) :: st) M Q) : WP m d pc ls (.ref (rf k i) :: st) M Q :=
  WP.pure kn9 (fun _ hl hs => ⟨hl, ok_c (VOk.int _ _) (ok_t hs)⟩) (fun p l e R s mid args below meth c D cA A Qg hc φ H locs cells slots lsA hiv hlv hls hst kk => by
    have k1 := kk lsA hlv
    rw [List.map_cons, ← ev_I ht] at k1
    rw [List.map_cons, cv_rg (by omega)]
    exact get_W hc hiv hf (VA_i hk (hst (.ref (rf k i)) List.mem_cons_self _ rfl)) hd k1)
theorem R.getL {k i f idx : Nat} (hd : decode m.2.1 pc = .ok (.getfield idx, 3)) (hf : FL m.1.cls idx k f) (hk : KO k) (ht : tyk k f = .long) (kn9 : WP m d (pc + 3) ls (.long (mL M k i f) :: st) M Q) : WP m d pc ls (.ref (rf k i) :: st) M Q :=
  WP.pure kn9 (fun _ hl hs => ⟨hl, ok_c (VOk.long _ _) (ok_t hs)⟩) (fun p l e R s mid args below meth c D cA A Qg hc φ H locs cells slots lsA hiv hlv hls hst kk => by
    have k1 := kk lsA hlv
    rw [List.map_cons, ← ev_L ht] at k1
    rw [List.map_cons, cv_rg (by omega)]
    exact get_W hc hiv hf (VA_i hk (hst (.ref (rf k i)) List.mem_cons_self _ rfl)) hd k1)
theorem R.getR {k i f idx : Nat} (hd : decode m.2.1 pc = .ok (.getfield idx, 3)) (hf : FL m.1.cls idx k f) (hk : KO k) (ht : isRf (tyk k f) = true) (kn9 : WP m d (pc + 3) ls (va_rf (mR M k i f) :: st) M Q) : WP m d pc ls (.ref (rf k i) :: st) M Q :=
  WP.pure kn9 (fun hcl hl hs => ⟨hl, ok_c (fun a ha => by
      cases hr : mR M k i f with
      | none => rw [hr] at ha; cases ha
      | some b =>
        rw [hr] at ha
        cases ha
        exact hcl k i f _ hk (VA_i hk (hs (.ref (rf k i)) List.mem_cons_self _ rfl)) hr) (ok_t hs)⟩) (fun p l e R s mid args below meth c D cA A Qg hc φ H locs cells slots lsA hiv hlv hls hst kk => by
    have k1 := kk lsA hlv
    rw [List.map_cons, ← ev_R ht] at k1
    rw [List.map_cons, cv_rg (by omega)]
    exact get_W hc hiv hf (VA_i hk (hst (.ref (rf k i)) List.mem_cons_self _ rfl)) hd k1)
/-- the memory after one place has been written -/
def Chg (M M1 : Mem) (k i f : Nat) (v : Value) : Prop := mC M1 = mC M ∧ mN M1 = mN M ∧ mK M1 = mK M ∧ mS M1 = mS M ∧ (mI M1 27 0 = mI M 27 0) ∧ (∀ k' i' f', ev M1 k' i' f' = if k' = k ∧ i' = i ∧ f' = f then v else ev M k' i' f') ∧ (∀ k' i' f' a, mR M1 k' i' f' = some a → mR M k' i' f' = some a ∨ v = .ref a)
theorem chgI {k i f : Nat} {x : Int32} (hk : KO k) (h : isI (tyk k f) = true) : Chg M (sI M k i f x) k i f (.int x) := by
  refine ⟨rfl, rfl, rfl, rfl, ?_, fun k' i' f' => ?_, fun k' i' f' a h => Or.inl h⟩
  · funext j
    show up3 M.1 k i f x 27 0 j = M.1 27 0 j
    unfold up3; rw [if_neg (by omega)]
  · by_cases hh : k' = k ∧ i' = i ∧ f' = f
    · obtain ⟨rfl, rfl, rfl⟩ := hh
      rw [ev_I h, if_pos ⟨rfl, rfl, rfl⟩]
      show Value.int (up3 M.1 k' i' f' x k' i' f') = _
      unfold up3; rw [if_pos ⟨rfl, rfl, rfl⟩]
    · rw [if_neg hh]
      unfold ev
      have e : mI (sI M k i f x) k' i' f' = mI M k' i' f' := by show up3 M.1 k i f x k' i' f' = _; unfold up3; rw [if_neg hh]; rfl
      rw [e]; rfl
theorem chgL {k i f : Nat} {x : Int64} (h : tyk k f = .long) : Chg M (sL M k i f x) k i f (.long x) := by
  refine ⟨rfl, rfl, rfl, rfl, rfl, fun k' i' f' => ?_, fun k' i' f' a h => Or.inl h⟩
  by_cases hh : k' = k ∧ i' = i ∧ f' = f
  · obtain ⟨rfl, rfl, rfl⟩ := hh
    rw [ev_L h, if_pos ⟨rfl, rfl, rfl⟩]
    show Value.long (up3 M.2.1 k' i' f' x k' i' f') = _
    unfold up3; rw [if_pos ⟨rfl, rfl, rfl⟩]
  · rw [if_neg hh]
    unfold ev
    have e : mL (sL M k i f x) k' i' f' = mL M k' i' f' := by show up3 M.2.1 k i f x k' i' f' = _; unfold up3; rw [if_neg hh]; rfl
    rw [e]; rfl
theorem chgD {k i f : Nat} {x : UInt64} (h : tyk k f = .double) : Chg M (sD M k i f x) k i f (.double x) := by
  refine ⟨rfl, rfl, rfl, rfl, rfl, fun k' i' f' => ?_, fun k' i' f' a h => Or.inl h⟩
  by_cases hh : k' = k ∧ i' = i ∧ f' = f
  · obtain ⟨rfl, rfl, rfl⟩ := hh
    rw [ev_D h, if_pos ⟨rfl, rfl, rfl⟩]
    show Value.double (up3 M.2.2.2.1 k' i' f' x k' i' f') = _
    unfold up3; rw [if_pos ⟨rfl, rfl, rfl⟩]
  · rw [if_neg hh]
    unfold ev
    have e : mD (sD M k i f x) k' i' f' = mD M k' i' f' := by show up3 M.2.2.2.1 k i f x k' i' f' = _; unfold up3; rw [if_neg hh]; rfl
    rw [e]; rfl
theorem chgR {k i f : Nat} {x : Option Nat} (h : isRf (tyk k f) = true) : Chg M (sR M k i f x) k i f (va_rf x) := by
  refine ⟨rfl, rfl, rfl, rfl, rfl, fun k' i' f' => ?_, fun k' i' f' a ha => ?_⟩
  · by_cases hh : k' = k ∧ i' = i ∧ f' = f
    · obtain ⟨rfl, rfl, rfl⟩ := hh
      rw [ev_R h, if_pos ⟨rfl, rfl, rfl⟩]
      show va_rf (up3 M.2.2.1 k' i' f' x k' i' f') = _
      unfold up3; rw [if_pos ⟨rfl, rfl, rfl⟩]
    · rw [if_neg hh]
      unfold ev
      have e : mR (sR M k i f x) k' i' f' = mR M k' i' f' := by show up3 M.2.2.1 k i f x k' i' f' = _; unfold up3; rw [if_neg hh]; rfl
      rw [e]; rfl
  · by_cases hh : k' = k ∧ i' = i ∧ f' = f
    · have e : mR (sR M k i f x) k' i' f' = x := by show up3 M.2.2.1 k i f x k' i' f' = _; unfold up3; rw [if_pos hh]
      rw [e] at ha
      rw [ha]
      exact Or.inr rfl
    · have e : mR (sR M k i f x) k' i' f' = mR M k' i' f' := by show up3 M.2.2.1 k i f x k' i' f' = _; unfold up3; rw [if_neg hh]; rfl
      rw [e] at ha
      exact Or.inl ha
theorem Chg.mono {M1 : Mem} {k i f : Nat} {v : Value} (h : Chg M M1 k i f v) : Mono M M1 := by
  obtain ⟨h1, h2, h3, h4, h5, -⟩ := h
  exact ⟨Nat.le_of_eq h3.symm, Nat.le_of_eq h4.symm, fun k => by rw [h1]; exact Nat.le_refl _, by rw [h2], h5⟩
/-- a field has been written: the world goes on -/
theorem Iv.put {s : State} {D : va_G} {cA : Nat → ClassId} {A : Nat → Prop} {φ : Nat → Nat} {H H' : Heap} {locs : List Loc} {M1 : Mem} {k i f : Nat} {v : Value} {q : vw_C} {cell : Cell} (hiv : Iv s D cA A φ M H locs) (hg : Chg M M1 k i f v) (hv : VOk M v) (hq : kq k = some q) (hi : i < mC M k) (hf : f < q.2.2) (hap : ∀ x y, x < q.2.2 → y < q.2.2 → x ≠ y → (D.2 (kx k)) x ≠ (D.2 (kx k)) y) (hcell : H[φ (rf k i)]? = some cell) (h1 : H'[φ (rf k i)]? = some (cell.setSlot (D.2 (kx k) f) (cv φ v))) (h2 : H'.size = H.size) (h3 : ∀ a, a ≠ φ (rf k i) → H'[a]? = H[a]?) : Iv s D cA A φ M1 H' (locs ++ [⟨φ (rf k i), D.2 (kx k) f⟩]) := by
  obtain ⟨⟨r1, r2, r3, r4⟩, i2, i3, i4⟩ := hiv
  obtain ⟨c1, c2, c3, c4, c5, c6, c7⟩ := hg
  have hk := kq_lt hq
  refine ⟨⟨fun k' i' q' hq' hi' => ?_, fun k' i' hk1 hk2 hi' => ?_, fun k1 i1 k2 i2 a b c d => ?_, fun k' i' f' a hk' hi' ha => ?_⟩, fun k' i' hk' hi' => i2 k' i' hk' (by rw [← c1]; exact hi'), i3.put h2 h3 (i2 k i (by omega) hi), by rw [c2, c5]; exact i4⟩
  · rw [c1] at hi'
    by_cases he : k' = k ∧ i' = i
    · obtain ⟨rfl, rfl⟩ := he
      cases hq.symm.trans hq'
      obtain ⟨cell', e1, e2, e3, e4⟩ := r1 k' i' q hq hi
      cases hcell.symm.trans e1
      refine ⟨_, h1, e2, e3, fun j hj => ?_⟩
      rw [t_set e4 hap hf (cv φ v) j hj]
      show some (updV (fun f => cv φ (ev M k' i' f)) f (cv φ v) j) = some (cv φ (ev M1 k' i' j))
      by_cases hjf : j = f
      · subst hjf
        rw [c6, if_pos ⟨rfl, rfl, rfl⟩]
        simp [updV]
      · rw [c6, if_neg (by intro h; exact hjf h.2.2)]
        simp [updV, hjf]
    · have hne : φ (rf k' i') ≠ φ (rf k i) := fun h => he (by
        have h5 := r3 k' i' k i (by have := kq_lt hq'; omega) hi' (by omega) hi h
        exact h5)
      refine ((r1 k' i' q' hq' hi').kept (h3 _ hne)).to fun j _ => ?_
      rw [c6, if_neg (by intro h; exact he ⟨h.1, h.2.1⟩)]
  · rw [c1] at hi'
    have hne : φ (rf k' i') ≠ φ (rf k i) := fun h => by
      have h5 := r3 k' i' k i (Or.inl hk2) hi' (by omega) hi h
      omega
    rw [h3 _ hne, r2 k' i' hk1 hk2 hi', c2]
    congr 2
    funext j
    rw [c6, if_neg (by intro h; omega)]
  · rw [c1] at b d
    exact r3 k1 i1 k2 i2 a b c d
  · rw [c1] at hi'
    have hva : VA M a := by
      rcases c7 k' i' f' a ha with h | h
      · exact r4 k' i' f' a hk' hi' h
      · exact hv a h
    intro z
    rw [c1]
    exact hva z
theorem put_row {M1 : Mem} {k i f idx : Nat} {v : Value} (hd : decode m.2.1 pc = .ok (.putfield idx, 3)) (hf : FL m.1.cls idx k f) (hfin : ∀ q, kq k = some q → (q.2.1 f).2.2.2 = false ∨ ((q.2.1 f).1 = m.1.cls ∧ m.1.name = "<init>")) (hg : Chg M M1 k i f v) (hnm : ∀ q, kq k = some q → (∀ x, x < q.2.2 → parseFieldDescriptor (q.2.1 x).2.2.1 = some (tyk k x)) ∧ (∀ a, a < q.2.2 → ∀ b, b < q.2.2 → a ≠ b → (q.2.1 a).2.1 ≠ (q.2.1 b).2.1)) (hv : ∀ φ : Nat → Nat, narrow (tyk k f) (cv φ v) = cv φ v ∧ fits (tyk k f) (cv φ v) = true) (kn9 : WP m d (pc + 3) ls st M1 Q) : WP m d pc ls (v :: .ref (rf k i) :: st) M Q :=
  WP.gen (dk := 0) (ds := 0) kn9 hg.mono hg.2.2.1 hg.2.2.2.1 (fun _ hl hs => ⟨fun w hw => (hl w hw).mono hg.mono, fun w hw => (hs w (by simp [hw])).mono hg.mono⟩) (fun p l e R s mid args below meth c D cA A Qg hc φ H locs cells slots lsA hiv hlv hls hst _ _ kk => by
    obtain ⟨q, hq, hfN, hlink⟩ := hf
    have hk := kq_lt hq
    have hi : i < mC M k := VA_i (by omega) (hst (.ref (rf k i)) (by simp) _ rfl)
    have hvok : VOk M v := hst v (by simp)
    obtain ⟨hty, hnm⟩ := hnm q hq
    have hfin := hfin q hq
    have hc' := hc
    obtain ⟨hx, hb, hml, hlk, hown, hts, htr, hin, hK, hd1, hd2, hA, hex⟩ := hc
    have hin9 := kclOk q (List.mem_of_getElem? (i := kx k) hq)
    have hap := va_apart (own := m.1.cls) hts hin9 (tyk k) hty hnm hK.1 hq
    obtain ⟨cell, q1, q2, q3, q4⟩ := hiv.1.1 k i q hq hi
    obtain ⟨hS, hfc, kC, hkC, hkind⟩ := hK.1.1 (kx k) _ hq
    obtain ⟨cf, kf, fi, fd, hi', hsl⟩ := hS f hfN
    have hlay := hts _ (hin9 _ (u_in_lay hfN))
    have hst9 := (u_facts hfc hkC (u_lays hts hin9 hfN) hi').1
    have e0 : (v :: .ref (rf k i) :: st).map (cv φ) = cv φ v :: .ref (φ (rf k i)) :: st.map (cv φ) := by rw [List.map_cons, List.map_cons, cv_rg (by omega)]
    rw [e0]
    unfold u_lay at hlay
    by_cases hff : (q.2.1 f).2.2.2 = true
    · rw [if_pos hff] at hlay
      obtain ⟨hdecl, hnm2⟩ : (q.2.1 f).1 = m.1.cls ∧ m.1.name = "<init>" := by
        rcases hfin with h | h
        · rw [h] at hff; cases hff
        · exact h
      have hcf : mid.cls = cf := by
        obtain ⟨_, _, c', _, _, _, -, -, hf', -, -, -, hown2, -⟩ := Cond.laysFinal_spec hlay
        have e1 : c' = cf := by have := hi'.symm.trans hf'; simp at this; exact this.1.symm
        rw [hdecl] at hown2
        rw [← e1]; exact Option.some.inj (hown.symm.trans hown2)
      have h6 := u_fits hfc hkC hkind (Or.inr hlay) hi' (hty f hfN) (hv φ).1 (hv φ).2
      obtain ⟨ref, href, hl⟩ : ∃ ref, (ref = (q.2.1 f).1 ∨ Cond.sameField ref (q.2.1 f).1 (q.2.1 f).2.1 (q.2.1 f).2.2.1 ∈ gtbl) ∧ Cond.fieldLink m.1.cls idx ref (q.2.1 f).2.1 (q.2.1 f).2.2.1 ∈ gtbl := by
        rcases hlink with h | ⟨host, h, -⟩
        · exact h
        · exact absurd hdecl.symm h
      have hsame : s.fieldFound? ref (q.2.1 f).2.1 (q.2.1 f).2.2.1 = some (cf, kf, fi, fd) := by
        rcases href with rfl | h
        · exact hi'
        · exact u_same (hts _ h) _ hi'
      refine W.putFinK hx hb hown (hts _ hl) hsame hst9 hcf (hin hnm2) (by rw [q2]; exact h6) q1 q3 (by rw [hsl]; exact k2_hasslot (q4 f hfN)) rfl rfl hd fun H' e1 e2 e3 => ?_
      rw [hsl] at e1 ⊢
      exact kk φ H' _ lsA (Ext.rf φ M) (hiv.put hg hvok hq hi hfN hap q1 e1 e2 e3) hlv
    · rw [if_neg hff] at hlay
      have h6 := u_store hfc hkC hkind hlay hi' (hty f hfN) (hv φ).1 (hv φ).2
      rcases hlink with ⟨ref, href, hl⟩ | ⟨host, -, hl⟩
      · have hsame : s.fieldFound? ref (q.2.1 f).2.1 (q.2.1 f).2.2.1 = some (cf, kf, fi, fd) := by
          rcases href with rfl | h
          · exact hi'
          · exact u_same (hts _ h) _ hi'
        refine W.putK hx hb (f := fd) ⟨hown, hts _ hl, ⟨_, _, _, hsame⟩, hst9⟩ (by rw [q2]; exact h6) q1 q3 (by rw [hsl]; exact k2_hasslot (q4 f hfN)) rfl rfl hd fun H' e1 e2 e3 => ?_
        rw [hsl] at e1 ⊢
        exact kk φ H' _ lsA (Ext.rf φ M) (hiv.put hg hvok hq hi hfN hap q1 e1 e2 e3) hlv
      · refine va_WputK hx hb (f := fd) hown (va_Nw.use (exW_ot _ hl) (hK.2.2.1 _ hl)) hi' hst9 (by rw [q2]; exact h6) q1 q3 (by rw [hsl]; exact k2_hasslot (q4 f hfN)) rfl rfl hd fun H' e1 e2 e3 => ?_
        rw [hsl] at e1 ⊢
        exact kk φ H' _ lsA (Ext.rf φ M) (hiv.put hg hvok hq hi hfN hap q1 e1 e2 e3) hlv)
end HR
