/-! System.arraycopy from a constant string's bytes -/
/-- N bytes of string i laid into array w from place b on -/
def scM (M : Mem) (i w b N : Nat) : Mem := (fun k i' f => if k = 13 ∧ i' = w then va_cpy (sB i) (M.1 13 w) 0 b N f else M.1 k i' f, M.2)
theorem mI_scM (M : Mem) (i w b N k i' f : Nat) : mI (scM M i w b N) k i' f = if k = 13 ∧ i' = w then va_cpy (sB i) (mI M 13 w) 0 b N f else mI M k i' f := rfl
theorem ev_scM (M : Mem) (i w b N k i' f : Nat) (hk : KO k) : ev (scM M i w b N) k i' f = if k = 13 ∧ i' = w then .int (va_cpy (sB i) (mI M 13 w) 0 b N f) else ev M k i' f := by
  by_cases h : k = 13 ∧ i' = w
  · obtain ⟨rfl, rfl⟩ := h
    rw [if_pos ⟨rfl, rfl⟩]
    show Value.int (mI (scM M i i' b N) 13 i' f) = _
    rw [mI_scM, if_pos ⟨rfl, rfl⟩]
  · rw [if_neg h]
    have e : mI (scM M i w b N) k i' = mI M k i' := by
      funext x
      rw [mI_scM, if_neg h]
    unfold ev
    rw [e]
    rfl
theorem scM_mono (M : Mem) (i w b N : Nat) : Mono M (scM M i w b N) := by
  refine ⟨Nat.le_refl _, Nat.le_refl _, fun _ => Nat.le_refl _, rfl, ?_⟩
  funext f
  show mI (scM M i w b N) 27 0 f = _
  rw [mI_scM, if_neg (by omega)]
theorem Iv.scpy {s : State} {D : va_G} {cA : Nat → ClassId} {A : Nat → Prop} {φ : Nat → Nat} {M : Mem} {H H' : Heap} {locs locs' : List Loc} {i w b N : Nat} (hiv : Iv s D cA A φ M H locs) (hi : w < mC M 13) (hl : ∀ q ∈ locs', q.base = φ (rf 13 w)) (h1 : H'[φ (rf 13 w)]? = some (arrV (cA 13) (mN M 13 w) (fun j => .int (va_cpy (sB i) (mI M 13 w) 0 b N j)))) (h2 : H'.size = H.size) (h3 : ∀ a, a ≠ φ (rf 13 w) → H'[a]? = H[a]?) : Iv s D cA A φ (scM M i w b N) H' (locs ++ locs') := by
  obtain ⟨⟨r1, r2, r3, r4⟩, i2, i3, i4⟩ := hiv
  have hm := (scM_mono M i w b N).2.2.2.2
  have hA : A (φ (rf 13 w)) := i2 13 w (by omega) hi
  refine ⟨⟨fun k' i' q' hq' hi' => ?_, fun k' i' hk1' hk2' hi' => ?_, r3, r4⟩, i2, ⟨by rw [h2]; exact i3.1, fun q g1 g2 => ?_, fun q hq => ?_⟩, by rw [hm]; exact i4⟩
  · have hk := kq_lt hq'
    have hne : φ (rf k' i') ≠ φ (rf 13 w) := fun h => by
      have h5 := r3 k' i' 13 w (by omega) hi' (by omega) hi h
      omega
    refine ((r1 k' i' q' hq' hi').kept (h3 _ hne)).to fun f _ => ?_
    rw [ev_scM _ _ _ _ _ _ _ _ (by omega), if_neg (by omega)]
  · by_cases he : k' = 13 ∧ i' = w
    · obtain ⟨rfl, rfl⟩ := he
      rw [h1]
      show some (arrV (cA 13) (mN M 13 i') _) = some (arrV (cA 13) (mN M 13 i') _)
      congr 2
      funext x
      rw [ev_scM _ _ _ _ _ _ _ _ (by omega), if_pos ⟨rfl, rfl⟩]
      rfl
    · have hne : φ (rf k' i') ≠ φ (rf 13 w) := fun h => he (r3 k' i' 13 w (Or.inl hk2') hi' (by omega) hi h)
      rw [h3 _ hne, r2 k' i' hk1' hk2' hi']
      show some (arrV (cA k') (mN M k' i') _) = some (arrV (cA k') (mN M k' i') _)
      congr 2
      funext x
      rw [ev_scM _ _ _ _ _ _ _ _ (Or.inl hk2'), if_neg he]
  · rw [h3 q (fun e => g2 (by rw [e]; exact hA))]
    exact i3.2.1 q g1 g2
  · rcases List.mem_append.mp hq with h | h
    · exact i3.2.2 q h
    · rw [hl q h]; exact hA
theorem sB_ft : ∀ i, i < 23 → ∀ j, j < sLn i → fits .byte (.int (sB i j)) = true := by decide +kernel
section SCO
variable {m : MRec} {d pc : Nat} {ls st : List Value} {M : Mem} {Q : Out → Mem → Prop}
theorem R.scopy {i w b N idx : Nat} (hi9 : i < 23) (hd : decode m.2.1 pc = .ok (.invokestatic idx, 3)) (hlk : Cond.methodLink m.1.cls idx arraycopyName ∈ gtbl) (hb9 : b < 2 ^ 31) (hN : N = sLn i) (hw : b + N ≤ mN M 13 w) (hw2 : mN M 13 w < 2 ^ 31) (hdp : 1 ≤ d) (hr : (st.map fun v => v.category).sum ≤ 8)
    (kn9 : WP m d (pc + 3) ls st (scM M i w b N) Q) : WP m d pc ls (.int (nI N) :: .int (nI b) :: .ref (rf 13 w) :: .int 0 :: .ref (rf 23 i) :: st) M Q :=
  WP.gen (dk := 0) (ds := 0) kn9 (scM_mono M i w b N) rfl rfl (fun _ hl hs => ⟨fun z hz => (hl z hz).mono (scM_mono M i w b N), fun z hz => (hs z (by simp [hz])).mono (scM_mono M i w b N)⟩) (fun p l e R s mid args below meth c D cA A Qg hc φ H locs cells slots lsA hiv hlv hls hst _ _ kk => by
    obtain ⟨hx, hb, hml, hlocks, hown, hts, htr, hin, hK, hd1, hd2, hA, hex⟩ := hc
    have hi := VA_i (by omega) (hst (.ref (rf 13 w)) (by simp) _ rfl)
    have hcat := cat_map (φ := φ) hr
    simp only [List.map_cons]
    rw [cv_rf (by omega), cv_rg (by omega)]
    intro T hT X
    obtain ⟨q9, -, hs1⟩ := str_at hi9 hiv.2.2.2
    obtain ⟨cell, g1, ⟨gst, k0, hk0, cm0, hkk0⟩, gun, g4, g5, g6, g7⟩ := hs1.1.2.2.2
    have hlt0 : φ (rf 23 i) < s.heap.size := (Array.getElem?_eq_some_iff.mp g1).1
    have hc0 : H[φ (rf 23 i)]? = some cell := by rw [hiv.2.2.1.2.1 _ hlt0 g7]; exact g1
    have hc1 := hiv.1.2.1 13 w (by omega) (by omega) hi
    obtain ⟨-, k1, hk1, cm1, hkk1⟩ := (arr_of hK (k := 13) (by omega) (by omega)).1 (mN M 13 w) (fun j => cv φ (ev M 13 w j))
    have hN9 : N < 2 ^ 31 := by omega
    obtain ⟨vm', X', step⟩ := X.arraycopy hx hown (hts _ hlk) (hts _ (gt_i 1298 (by decide +kernel) rfl)) (hts _ (gt_i 1297 (by decide +kernel) rfl)) (hts _ (gt_i 28 (by decide +kernel) rfl)) (src := φ (rf 23 i)) (dst := φ (rf 13 w)) (cs := cell) (cd := arrV (cA 13) (mN M 13 w) (fun j => cv φ (ev M 13 w j))) (srcPos := 0) (destPos := nI b) (n := nI N) (by rw [hT]; exact hc0) (by rw [hT]; exact hc1)
      (fun x h => gst x h) (fun _ h => by cases h) (fun h => gun h) (fun h => by cases h) hk0 hk1 hkk0 hkk1 (by simp [refKind, tyk]) (by decide) (nI_pos hb9) (nI_pos hN9)
      (by rw [nI_toInt hN9]; show ¬ (0 : Int) + _ > _; omega)
      (by rw [nI_toInt hN9, nI_toInt hb9, arrV_size]; omega)
      (fun vm₁ _ j hj2 => by
        rw [nI_clamp hN9] at hj2
        have e : cell.slots.getD ((0 : Int32).toNatClampNeg + j) .null = .int (sB i j) := by
          rw [show (0 : Int32).toNatClampNeg + j = j by rw [show (0 : Int32).toNatClampNeg = 0 by decide]; omega]
          rw [Array.getD_eq_getD_getElem?, g6 j (by omega)]
          rfl
        refine ⟨?_, ?_⟩
        · rw [e]; exact sB_ft i hi9 j (by omega)
        · rw [e]; exact trivial)
      (g := F0 mid pc lsA (.int (nI N) :: .int (nI b) :: .ref (φ (rf 13 w)) :: .int 0 :: .ref (φ (rf 23 i)) :: st.map (cv φ))) rfl (hlv.1.trans hml.symm) (rest := st.map (cv φ)) rfl (by rw [hb]; exact hd) (by omega) (by
        have h9 : nativeFrameWords "java/lang/System" "arraycopy" 5 + 11 ≤ 33 := by decide
        show 2 * 0 + _ + _ ≤ _
        omega)
    have e1 : copied cell (arrV (cA 13) (mN M 13 w) (fun j => cv φ (ev M 13 w j))) 0 (nI b) (nI N) = arrV (cA 13) (mN M 13 w) (fun j => .int (va_cpy (sB i) (mI M 13 w) 0 b N j)) := by
      have h5 := va_copiedX (fun z => .int z) cell (cA 13) (sB i) (mI M 13 w) (n0 := sLn i) (n1 := mN M 13 w) (sp := 0) (dp := b) (n := N) (fun j hj => g6 j hj) (by omega)
      refine Eq.trans ?_ h5
      show (arrV (cA 13) (mN M 13 w) (fun j => cv φ (ev M 13 w j))).storeRun (nI b).toNatClampNeg (cell.stretch (0 : Int32).toNatClampNeg (nI N).toNatClampNeg) = _
      rw [nI_clamp hN9, nI_clamp hb9, show (0 : Int32).toNatClampNeg = 0 by decide]
      rfl
    rw [e1] at X' step
    have hl : φ (rf 13 w) < H.size := (Array.getElem?_eq_some_iff.mp hc1).1
    generalize hcl : arrV (cA 13) (mN M 13 w) (fun j => Value.int (va_cpy (sB i) (mI M 13 w) 0 b N j)) = cl9 at X' step
    have hheap : ((T.setVm vm').setCell (φ (rf 13 w)) cl9).heap = H.setIfInBounds (φ (rf 13 w)) cl9 := by rw [← hT]; rfl
    have oq : ∀ q : Nat, q ≠ φ (rf 13 w) → (H.setIfInBounds (φ (rf 13 w)) cl9)[q]? = H[q]? := fun q hq => by simp [Array.getElem?_setIfInBounds, Ne.symm hq]
    obtain ⟨t, a1, b1⟩ := kk φ (H.setIfInBounds (φ (rf 13 w)) cl9) _ lsA (Ext.rf φ M) (hiv.scpy hi (locs' := _) (fun q hq => by
      obtain ⟨z, -, hz⟩ := List.mem_map.mp hq
      rw [← hz]) (by rw [hcl]; simp [Array.getElem?_setIfInBounds, hl]) (by simp) oq) hlv _ hheap X'
    exact ⟨t, step t a1, b1⟩)
end SCO
