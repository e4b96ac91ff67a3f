/-! rows of fields written, of arrays, of new cells -/
theorem kinf : ∀ (k : Nat) (q : vw_C), kq k = some q → (∀ x, x < q.2.2 → parseFieldDescriptor (q.2.1 x).2.2.1 = some (tyk k x)) ∧ (∀ a, a < q.2.2 → ∀ b, b < q.2.2 → a ≠ b → (q.2.1 a).2.1 ≠ (q.2.1 b).2.1) := by
  intro k q hq
  have hk := kq_lt hq
  rcases (by omega : k = 0 ∨ k = 1 ∨ k = 2 ∨ k = 3 ∨ k = 4 ∨ k = 5 ∨ k = 6 ∨ k = 7 ∨ k = 8 ∨ k = 9 ∨ k = 10 ∨ k = 11 ∨ k = 12 ∨ k = 32 ∨ k = 33 ∨ k = 34 ∨ k = 35 ∨ k = 36) with rfl | rfl | rfl | rfl | rfl | rfl | rfl | rfl | rfl | rfl | rfl | rfl | rfl | rfl | rfl | rfl | rfl | rfl
  · cases hq; exact ⟨tyX1_ok, nmX1⟩
  · cases hq; exact ⟨tyX2_ok, nmX2⟩
  · cases hq; exact ⟨tyX3_ok, nmX3⟩
  · cases hq; exact ⟨tyX4_ok, nmX4⟩
  · cases hq; exact ⟨tyX5_ok, nmX5⟩
  · cases hq; exact ⟨tyX6_ok, nmX6⟩
  · cases hq; exact ⟨tyX7_ok, nmX7⟩
  · cases hq; exact ⟨tyX8_ok, nmX8⟩
  · cases hq; exact ⟨tyX9_ok, nmX9⟩
  · cases hq; exact ⟨tyX11_ok, nmX11⟩
  · cases hq; exact ⟨tyX12_ok, nmX12⟩
  · cases hq; exact ⟨tyX13_ok, nmX13⟩
  · cases hq; exact ⟨tyJ4_ok, nmJ4⟩
  · cases hq; exact ⟨tyX14_ok, nmX14⟩
  · cases hq; exact ⟨tyJx4a65c_ok, nmJx4a65c⟩
  · cases hq; exact ⟨tyJx35411_ok, nmJx35411⟩
  · cases hq; exact ⟨tyJ6_ok, nmJ6⟩
  · cases hq; exact ⟨tyJ0_ok, nmJ0⟩
/-- a field that this method may write -/
def FW (m : MRec) (k f : Nat) : Prop := ∀ q, kq k = some q → (q.2.1 f).2.2.2 = false ∨ ((q.2.1 f).1 = m.1.cls ∧ m.1.name = "<init>")
section HW
variable {m : MRec} {d pc : Nat} {ls st : List Value} {M : Mem} {Q : Out → Mem → Prop}
theorem R.putI {k i f idx : Nat} {x : Int32} (hd : decode m.2.1 pc = .ok (.putfield idx, 3)) (hf : FL m.1.cls idx k f) (hw : FW m k f) (hk : KO k) (ht : isI (tyk k f) = true) (hn : narrow (tyk k f) (.int x) = .int x) (hfit : fits (tyk k f) (.int x) = true) (kn9 : WP m d (pc + 3) ls st (sI M k i f x) Q) : WP m d pc ls (.int x :: .ref (rf k i) :: st) M Q :=
  put_row hd hf hw (chgI hk ht) (kinf k) (fun _ => ⟨hn, hfit⟩) kn9
theorem R.putL {k i f idx : Nat} {x : Int64} (hd : decode m.2.1 pc = .ok (.putfield idx, 3)) (hf : FL m.1.cls idx k f) (hw : FW m k f) (ht : tyk k f = .long) (kn9 : WP m d (pc + 3) ls st (sL M k i f x) Q) : WP m d pc ls (.long x :: .ref (rf k i) :: st) M Q :=
  put_row hd hf hw (chgL ht) (kinf k) (fun _ => by rw [ht]; exact ⟨rfl, rfl⟩) kn9
theorem R.putR {k i f idx : Nat} {x : Option Nat} (hd : decode m.2.1 pc = .ok (.putfield idx, 3)) (hf : FL m.1.cls idx k f) (hw : FW m k f) (ht : isRf (tyk k f) = true) (kn9 : WP m d (pc + 3) ls st (sR M k i f x) Q) : WP m d pc ls (va_rf x :: .ref (rf k i) :: st) M Q :=
  put_row hd hf hw (chgR ht) (kinf k) (fun φ => by
    have hr := cv_nr (φ := φ) (rfv_rf x)
    cases hty : tyk k f <;> rw [hty] at ht <;> first | (cases ht; done) | (rcases hr with h | ⟨b, h⟩ <;> rw [h] <;> exact ⟨rfl, rfl⟩)) kn9
/-- the same of an object that is at hand -/
theorem R.putA {k i f idx a : Nat} (hd : decode m.2.1 pc = .ok (.putfield idx, 3)) (hf : FL m.1.cls idx k f) (hw : FW m k f) (ht : isRf (tyk k f) = true) (kn9 : WP m d (pc + 3) ls st (sR M k i f (some a)) Q) : WP m d pc ls (.ref a :: .ref (rf k i) :: st) M Q := R.putR (x := some a) hd hf hw ht kn9
theorem R.putN {k i f idx : Nat} (hd : decode m.2.1 pc = .ok (.putfield idx, 3)) (hf : FL m.1.cls idx k f) (hw : FW m k f) (ht : isRf (tyk k f) = true) (kn9 : WP m d (pc + 3) ls st (sR M k i f none) Q) : WP m d pc ls (.null :: .ref (rf k i) :: st) M Q := R.putR (x := none) hd hf hw ht kn9
/-- arrays of kind k -/
theorem arr_of {D : va_G} {cA : Nat → ClassId} {s : State} (hK : Kn D cA s) {k : Nat} (h1 : 13 ≤ k) (h2 : k < 21) : ArrOfT s (cA k) (tyk k 0) ∧ va_RA s (cA k) (tyk k 0) := by
  have hl : (ktys cA)[k - 13]? = some (cA k, tyk k 0) := by
    rcases (by omega : k = 13 ∨ k = 14 ∨ k = 15 ∨ k = 16 ∨ k = 17 ∨ k = 18 ∨ k = 19 ∨ k = 20) with rfl | rfl | rfl | rfl | rfl | rfl | rfl | rfl <;> rfl
  exact hK.1.2 _ _ hl
theorem tyk_arr {k : Nat} (h1 : 13 ≤ k) (h2 : k < 21) (f : Nat) : tyk k f = tyk k 0 := by
  rcases (by omega : k = 13 ∨ k = 14 ∨ k = 15 ∨ k = 16 ∨ k = 17 ∨ k = 18 ∨ k = 19 ∨ k = 20) with rfl | rfl | rfl | rfl | rfl | rfl | rfl | rfl <;> rfl
theorem R.alen {k i : Nat} (h1 : 13 ≤ k) (h2 : k < 21) (hd : decode m.2.1 pc = .ok (.arraylength, 1)) (kn9 : WP m d (pc + 1) ls (.int (nI (mN M k i)) :: st) M Q) : WP m d pc ls (.ref (rf k i) :: st) M Q :=
  WP.pure kn9 (fun _ hl hs => ⟨hl, ok_c (VOk.int _ _) (ok_t hs)⟩) (fun p l e R s mid args below meth c D cA A Qg hc φ H locs cells slots lsA hiv hlv hls hst kk => by
    have k1 := kk lsA hlv
    rw [List.map_cons, cv_rf (by omega)]
    exact W.alen hc.1 hc.2.1 (hiv.1.2.1 k i h1 h2 (VA_i (Or.inl h2) (hst (.ref (rf k i)) List.mem_cons_self _ rfl))) ((arr_of hc.2.2.2.2.2.2.2.2.1 h1 h2).1 _ _) (by rw [arrV_size]; rfl) rfl rfl hd k1)
theorem hin_of {n : Nat} {x : Int32} {cI : ClassId} {f : Nat → Value} (h0 : ¬ x < 0) (h1 : x.toNatClampNeg < n) : ¬ (x < 0 ∨ (arrV cI n f).slots.size ≤ x.toNatClampNeg) := by
  rw [arrV_size]; rintro (h | h)
  · exact h0 h
  · omega
theorem R.iald {i : Nat} {x : Int32} (hd : decode m.2.1 pc = .ok (.iaload, 1)) (h0 : ¬ x < 0) (h1 : x.toNatClampNeg < mN M 14 i) (kn9 : WP m d (pc + 1) ls (.int (mI M 14 i x.toNatClampNeg) :: st) M Q) : WP m d pc ls (.int x :: .ref (rf 14 i) :: st) M Q :=
  WP.pure kn9 (fun _ hl hs => ⟨hl, ok_c (VOk.int _ _) (ok_t (ok_t hs))⟩) (fun p l e R s mid args below meth c D cA A Qg hc φ H locs cells slots lsA hiv hlv hls hst kk => by
    have k1 := kk lsA hlv
    rw [List.map_cons, List.map_cons, cv_rf (by omega)]
    exact W.iald (v := .int (mI M 14 i x.toNatClampNeg)) hc.1 hc.2.1 (hiv.1.2.1 14 i (by omega) (by omega) (VA_i (by omega) (hst (.ref (rf 14 i)) (by simp) _ rfl))) ((arr_of hc.2.2.2.2.2.2.2.2.1 (k := 14) (by omega) (by omega)).1 _ _) (fun q => by cases q) (hin_of h0 h1) (by rw [arrV_read _ _ h1]; rfl) rfl rfl hd k1)
theorem R.bald {i : Nat} {x : Int32} (hd : decode m.2.1 pc = .ok (.baload, 1)) (h0 : ¬ x < 0) (h1 : x.toNatClampNeg < mN M 13 i) (kn9 : WP m d (pc + 1) ls (.int (mI M 13 i x.toNatClampNeg) :: st) M Q) : WP m d pc ls (.int x :: .ref (rf 13 i) :: st) M Q :=
  WP.pure kn9 (fun _ hl hs => ⟨hl, ok_c (VOk.int _ _) (ok_t (ok_t hs))⟩) (fun p l e R s mid args below meth c D cA A Qg hc φ H locs cells slots lsA hiv hlv hls hst kk => by
    have k1 := kk lsA hlv
    rw [List.map_cons, List.map_cons, cv_rf (by omega)]
    exact W.bald (v := .int (mI M 13 i x.toNatClampNeg)) hc.1 hc.2.1 (hiv.1.2.1 13 i (by omega) (by omega) (VA_i (by omega) (hst (.ref (rf 13 i)) (by simp) _ rfl))) ((arr_of hc.2.2.2.2.2.2.2.2.1 (k := 13) (by omega) (by omega)).1 _ _) (fun q => by cases q) (hin_of h0 h1) (by rw [arrV_read _ _ h1]; rfl) rfl rfl hd k1)
theorem R.aald {k i : Nat} {x : Int32} (hk1 : 16 ≤ k) (hk2 : k < 21) (hd : decode m.2.1 pc = .ok (.aaload, 1)) (h0 : ¬ x < 0) (h1 : x.toNatClampNeg < mN M k i) (kn9 : WP m d (pc + 1) ls (va_rf (mR M k i x.toNatClampNeg) :: st) M Q) : WP m d pc ls (.int x :: .ref (rf k i) :: st) M Q :=
  have hR : isRf (tyk k 0) = true := by rcases (by omega : k = 16 ∨ k = 17 ∨ k = 18 ∨ k = 19 ∨ k = 20) with rfl | rfl | rfl | rfl | rfl <;> rfl
  WP.pure kn9 (fun hcl hl hs => ⟨hl, ok_c (fun a ha => by
      cases hr : mR M k i x.toNatClampNeg with
      | none => rw [hr] at ha; cases ha
      | some b =>
        rw [hr] at ha
        cases ha
        exact hcl k i _ _ (Or.inl hk2) (VA_i (Or.inl hk2) (hs (.ref (rf k i)) (by simp) _ rfl)) hr) (ok_t (ok_t hs))⟩) (fun p l e R s mid args below meth c D cA A Qg hc φ H locs cells slots lsA hiv hlv hls hst kk => by
    have k1 := kk lsA hlv
    rw [List.map_cons, ← ev_R (by rw [tyk_arr (by omega) hk2]; exact hR)] at k1
    rw [List.map_cons, List.map_cons, cv_rf (by omega)]
    exact W.aald (v := cv φ (ev M k i x.toNatClampNeg)) (ty := tyk k 0) hc.1 hc.2.1 (hiv.1.2.1 k i (by omega) hk2 (VA_i (Or.inl hk2) (hst (.ref (rf k i)) (by simp) _ rfl))) ((arr_of hc.2.2.2.2.2.2.2.2.1 (by omega) hk2).1 _ _) (by rcases (by omega : k = 16 ∨ k = 17 ∨ k = 18 ∨ k = 19 ∨ k = 20) with rfl | rfl | rfl | rfl | rfl <;> rfl) (fun q => by cases q) (hin_of h0 h1) (by rw [arrV_read _ _ h1]) rfl rfl hd k1)
theorem Iv.aput {s : State} {D : va_G} {cA : Nat → ClassId} {A : Nat → Prop} {φ : Nat → Nat} {H H' : Heap} {locs : List Loc} {M1 : Mem} {k i j : Nat} {v : Value} (hiv : Iv s D cA A φ M H locs) (hg : Chg M M1 k i j v) (hv : VOk M v) (hk1 : 13 ≤ k) (hk : k < 21) (hi : i < mC M k) (h1 : H'[φ (rf k i)]? = some ((arrV (cA k) (mN M k i) (fun j => cv φ (ev M k i j))).setSlot j (cv φ v))) (h2 : H'.size = H.size) (h3 : ∀ a, a ≠ φ (rf k i) → H'[a]? = H[a]?) : Iv s D cA A φ M1 H' (locs ++ [⟨φ (rf k i), j⟩]) := by
  obtain ⟨⟨r1, r2, r3, r4⟩, i2, i3, i4⟩ := hiv
  obtain ⟨c1, c2, c3, c4, c5, c6, c7⟩ := hg
  refine ⟨⟨fun k' i' q' hq' hi' => ?_, fun k' i' hk1' hk2' hi' => ?_, fun k1 i1 k2 i2 a b c d => ?_, fun k' i' f' a hk' hi' ha => ?_⟩, fun k' i' hk' hi' => i2 k' i' hk' (by rw [← c1]; exact hi'), i3.put h2 h3 (i2 k i (Or.inl hk) hi), by rw [c2, c5]; exact i4⟩
  · rw [c1] at hi'
    have hne : φ (rf k' i') ≠ φ (rf k i) := fun h => by
      have := kq_lt hq'
      have h5 := r3 k' i' k i (by omega) hi' (Or.inl hk) hi h
      omega
    refine ((r1 k' i' q' hq' hi').kept (h3 _ hne)).to fun f _ => ?_
    have := kq_lt hq'
    rw [c6, if_neg (by intro h; omega)]
  · rw [c1] at hi'
    by_cases he : k' = k ∧ i' = i
    · obtain ⟨rfl, rfl⟩ := he
      rw [h1, arrV_store, c2]
      congr 2
      funext x
      rw [c6]
      by_cases hx : x = j
      · subst hx
        rw [if_pos ⟨rfl, rfl, rfl⟩]
        simp [updV]
      · rw [if_neg (by intro h; exact hx h.2.2)]
        simp [updV, hx]
    · have hne : φ (rf k' i') ≠ φ (rf k i) := fun h => he (r3 k' i' k i (Or.inl hk2') hi' (Or.inl hk) hi h)
      rw [h3 _ hne, r2 k' i' hk1' hk2' hi', c2]
      congr 2
      funext x
      rw [c6, if_neg (by intro h; exact he ⟨h.1, h.2.1⟩)]
  · rw [c1] at b d
    exact r3 k1 i1 k2 i2 a b c d
  · rw [c1] at hi'
    have hva : VA M a := by
      rcases c7 k' i' f' a ha with h | h
      · exact r4 k' i' f' a hk' hi' h
      · exact hv a h
    intro z
    rw [c1]
    exact hva z
theorem R.iast {i : Nat} {x v : Int32} (hd : decode m.2.1 pc = .ok (.iastore, 1)) (h0 : ¬ x < 0) (h1 : x.toNatClampNeg < mN M 14 i) (kn9 : WP m d (pc + 1) ls st (sI M 14 i x.toNatClampNeg v) Q) : WP m d pc ls (.int v :: .int x :: .ref (rf 14 i) :: st) M Q :=
  have hg : Chg M (sI M 14 i x.toNatClampNeg v) 14 i x.toNatClampNeg (.int v) := chgI (by omega) rfl
  WP.gen (dk := 0) (ds := 0) kn9 hg.mono hg.2.2.1 hg.2.2.2.1 (fun _ hl hs => ⟨fun w hw => (hl w hw).mono hg.mono, fun w hw => (hs w (by simp [hw])).mono hg.mono⟩) (fun p l e R s mid args below meth c D cA A Qg hc φ H locs cells slots lsA hiv hlv hls hst _ _ kk => by
    have hi := VA_i (by omega) (hst (.ref (rf 14 i)) (by simp) _ rfl)
    rw [List.map_cons, List.map_cons, List.map_cons, cv_rf (by omega)]
    exact W.iast hc.1 hc.2.1 (hiv.1.2.1 14 i (by omega) (by omega) hi) ((arr_of hc.2.2.2.2.2.2.2.2.1 (k := 14) (by omega) (by omega)).1 _ _) (fun q => by cases q) (hin_of h0 h1) rfl rfl hd fun H' e1 e2 e3 => kk φ H' _ lsA (Ext.rf φ M) (hiv.aput hg (VOk.int _ _) (by omega) (by omega) hi e1 e2 e3) hlv)
theorem R.bast {i : Nat} {x v : Int32} (hd : decode m.2.1 pc = .ok (.bastore, 1)) (h0 : ¬ x < 0) (h1 : x.toNatClampNeg < mN M 13 i) (kn9 : WP m d (pc + 1) ls st (sI M 13 i x.toNatClampNeg (vp_nar .byte v)) Q) : WP m d pc ls (.int v :: .int x :: .ref (rf 13 i) :: st) M Q :=
  have hg : Chg M (sI M 13 i x.toNatClampNeg (vp_nar .byte v)) 13 i x.toNatClampNeg (.int (vp_nar .byte v)) := chgI (by omega) rfl
  WP.gen (dk := 0) (ds := 0) kn9 hg.mono hg.2.2.1 hg.2.2.2.1 (fun _ hl hs => ⟨fun w hw => (hl w hw).mono hg.mono, fun w hw => (hs w (by simp [hw])).mono hg.mono⟩) (fun p l e R s mid args below meth c D cA A Qg hc φ H locs cells slots lsA hiv hlv hls hst _ _ kk => by
    have hi := VA_i (by omega) (hst (.ref (rf 13 i)) (by simp) _ rfl)
    rw [List.map_cons, List.map_cons, List.map_cons, cv_rf (by omega)]
    exact W.bast hc.1 hc.2.1 (hiv.1.2.1 13 i (by omega) (by omega) hi) ((arr_of hc.2.2.2.2.2.2.2.2.1 (k := 13) (by omega) (by omega)).1 _ _) (fun q => by cases q) (hin_of h0 h1) rfl rfl hd fun H' e1 e2 e3 => kk φ H' _ lsA (Ext.rf φ M) (hiv.aput hg (VOk.int _ _) (by omega) (by omega) hi (by rw [e1]; rfl) e2 e3) hlv)
end HW
