/-! StringBuilder: copies of byte arrays, methods of the class above -/
/-- bytes copied from array v to array w -/
def cpA (M : Mem) (v w n : Nat) : Mem := (fun k i f => if k = 13 ∧ i = w ∧ f < n then M.1 13 v f else M.1 k i f, M.2)
theorem mI_cpA (M : Mem) (v w n k i f : Nat) : mI (cpA M v w n) k i f = if k = 13 ∧ i = w ∧ f < n then mI M 13 v f else mI M k i f := rfl
theorem ev_cpA (M : Mem) (v w n k i f : Nat) (hk : KO k) : ev (cpA M v w n) k i f = if k = 13 ∧ i = w ∧ f < n then .int (mI M 13 v f) else ev M k i f := by
  by_cases h : k = 13 ∧ i = w ∧ f < n
  · rw [if_pos h]
    obtain ⟨rfl, rfl, hf⟩ := h
    show Value.int (mI (cpA M v i n) 13 i f) = _
    rw [mI_cpA, if_pos ⟨rfl, rfl, hf⟩]
  · rw [if_neg h]
    unfold ev
    have e : mI (cpA M v w n) k i f = mI M k i f := by rw [mI_cpA, if_neg h]
    rw [e]
    rfl
theorem cpA_mono (M : Mem) (v w n : Nat) : Mono M (cpA M v w n) := by
  refine ⟨Nat.le_refl _, Nat.le_refl _, fun _ => Nat.le_refl _, rfl, ?_⟩
  funext f
  show mI (cpA M v w n) 27 0 f = _
  rw [mI_cpA, if_neg (by omega)]
theorem Iv.acpy {s : State} {D : va_G} {cA : Nat → ClassId} {A : Nat → Prop} {φ : Nat → Nat} {M : Mem} {H H' : Heap} {locs locs' : List Loc} {v w n : Nat} (hiv : Iv s D cA A φ M H locs) (hi : w < mC M 13) (hl : ∀ q ∈ locs', q.base = φ (rf 13 w)) (h1 : H'[φ (rf 13 w)]? = some (arrV (cA 13) (mN M 13 w) (fun j => if j < n then .int (mI M 13 v j) else .int (mI M 13 w j)))) (h2 : H'.size = H.size) (h3 : ∀ a, a ≠ φ (rf 13 w) → H'[a]? = H[a]?) : Iv s D cA A φ (cpA M v w n) H' (locs ++ locs') := by
  obtain ⟨⟨r1, r2, r3, r4⟩, i2, i3, i4⟩ := hiv
  have hm := (cpA_mono M v w n).2.2.2.2
  have hA : A (φ (rf 13 w)) := i2 13 w (by omega) hi
  refine ⟨⟨fun k' i' q' hq' hi' => ?_, fun k' i' hk1' hk2' hi' => ?_, r3, r4⟩, i2, ⟨by rw [h2]; exact i3.1, fun q g1 g2 => ?_, fun q hq => ?_⟩, by rw [hm]; exact i4⟩
  · have hk := kq_lt hq'
    have hne : φ (rf k' i') ≠ φ (rf 13 w) := fun h => by
      have h5 := r3 k' i' 13 w (by omega) hi' (by omega) hi h
      omega
    refine ((r1 k' i' q' hq' hi').kept (h3 _ hne)).to fun f _ => ?_
    rw [ev_cpA _ _ _ _ _ _ _ (by omega), if_neg (by omega)]
  · by_cases he : k' = 13 ∧ i' = w
    · obtain ⟨rfl, rfl⟩ := he
      rw [h1]
      show some (arrV (cA 13) (mN M 13 i') _) = some (arrV (cA 13) (mN M 13 i') _)
      congr 2
      funext x
      rw [ev_cpA _ _ _ _ _ _ _ (by omega)]
      by_cases hx : x < n
      · rw [if_pos hx, if_pos ⟨rfl, rfl, hx⟩]; rfl
      · rw [if_neg hx, if_neg (by omega)]; rfl
    · have hne : φ (rf k' i') ≠ φ (rf 13 w) := fun h => he (r3 k' i' 13 w (Or.inl hk2') hi' (by omega) hi h)
      rw [h3 _ hne, r2 k' i' hk1' hk2' hi']
      show some (arrV (cA k') (mN M k' i') _) = some (arrV (cA k') (mN M k' i') _)
      congr 2
      funext x
      rw [ev_cpA _ _ _ _ _ _ _ (Or.inl hk2'), if_neg (by intro h; exact he ⟨h.1, h.2.1⟩)]
  · rw [h3 q (fun e => g2 (by rw [e]; exact hA))]
    exact i3.2.1 q g1 g2
  · rcases List.mem_append.mp hq with h | h
    · exact i3.2.2 q h
    · rw [hl q h]; exact hA
section SBR
variable {m : MRec} {d pc : Nat} {ls st : List Value} {M : Mem} {Q : Out → Mem → Prop}
/-- System.arraycopy of bytes, from the first place to the first -/
theorem R.acopy {v w N idx : Nat} {n : Int32} (hd : decode m.2.1 pc = .ok (.invokestatic idx, 3)) (hlk : Cond.methodLink m.1.cls idx arraycopyName ∈ gtbl) (hn : n = nI N) (hN : N < 2 ^ 31) (hv : N ≤ mN M 13 v) (hw : N ≤ mN M 13 w) (hfit : ∀ j, j < N → fits .byte (.int (mI M 13 v j)) = true) (hdp : 1 ≤ d) (hr : (st.map fun v => v.category).sum ≤ 8)
    (kn9 : WP m d (pc + 3) ls st (cpA M v w N) Q) : WP m d pc ls (.int n :: .int 0 :: .ref (rf 13 w) :: .int 0 :: .ref (rf 13 v) :: st) M Q :=
  WP.gen (dk := 0) (ds := 0) kn9 (cpA_mono M v w N) rfl rfl (fun _ hl hs => ⟨fun z hz => (hl z hz).mono (cpA_mono M v w N), fun z hz => (hs z (by simp [hz])).mono (cpA_mono M v w N)⟩) (fun p l e R s mid args below meth c D cA A Qg hc φ H locs cells slots lsA hiv hlv hls hst _ _ kk => by
    obtain ⟨hx, hb, hml, hlocks, hown, hts, htr, hin, hK, hd1, hd2, hA, hex⟩ := hc
    have hi := VA_i (by omega) (hst (.ref (rf 13 w)) (by simp) _ rfl)
    have hj := VA_i (by omega) (hst (.ref (rf 13 v)) (by simp) _ rfl)
    have hcat := cat_map (φ := φ) hr
    simp only [List.map_cons]
    rw [cv_rf (by omega), cv_rf (by omega)]
    intro T hT X
    subst hn
    have hc0 := hiv.1.2.1 13 v (by omega) (by omega) hj
    have hc1 := hiv.1.2.1 13 w (by omega) (by omega) hi
    obtain ⟨-, k0, hk0, cm0, hkk0⟩ := (arr_of hK (k := 13) (by omega) (by omega)).1 (mN M 13 v) (fun j => cv φ (ev M 13 v j))
    obtain ⟨-, k1, hk1, cm1, hkk1⟩ := (arr_of hK (k := 13) (by omega) (by omega)).1 (mN M 13 w) (fun j => cv φ (ev M 13 w j))
    have hgt : ∀ w ∈ gtbl, w.before args s = true := hts
    obtain ⟨vm', X', step⟩ := X.arraycopy hx hown (hts _ hlk) (hts _ (gt_i 1298 (by decide +kernel) rfl)) (hts _ (gt_i 1297 (by decide +kernel) rfl)) (hts _ (gt_i 28 (by decide +kernel) rfl)) (src := φ (rf 13 v)) (dst := φ (rf 13 w)) (cs := arrV (cA 13) (mN M 13 v) (fun j => cv φ (ev M 13 v j))) (cd := arrV (cA 13) (mN M 13 w) (fun j => cv φ (ev M 13 w j))) (srcPos := 0) (destPos := 0) (n := nI N) (by rw [hT]; exact hc0) (by rw [hT]; exact hc1)
      (fun _ h => by cases h) (fun _ h => by cases h) (fun h => by cases h) (fun h => by cases h) hk0 hk1 hkk0 hkk1 (by simp [refKind, tyk]) (by decide) (by decide) (nI_pos hN)
      (by rw [nI_toInt hN, arrV_size]; show ¬ (0 : Int) + _ > _; omega)
      (by rw [nI_toInt hN, arrV_size]; show ¬ (0 : Int) + _ > _; omega)
      (fun vm₁ _ j hj2 => by
        rw [nI_clamp hN] at hj2
        have e : (arrV (cA 13) (mN M 13 v) (fun j => cv φ (ev M 13 v j))).slots.getD ((0 : Int32).toNatClampNeg + j) .null = .int (mI M 13 v j) := by
          rw [show (0 : Int32).toNatClampNeg + j = j by rw [show (0 : Int32).toNatClampNeg = 0 by decide]; omega]
          rw [Array.getD_eq_getD_getElem?, arrV_read _ _ (by omega)]
          rfl
        refine ⟨?_, ?_⟩
        · rw [e]; exact hfit j hj2
        · rw [e]; exact trivial)
      (g := F0 mid pc lsA (.int (nI N) :: .int 0 :: .ref (φ (rf 13 w)) :: .int 0 :: .ref (φ (rf 13 v)) :: st.map (cv φ))) rfl (hlv.1.trans hml.symm) (rest := st.map (cv φ)) rfl (by rw [hb]; exact hd) (by omega) (by
        have h9 : nativeFrameWords "java/lang/System" "arraycopy" 5 + 11 ≤ 33 := by decide
        show 2 * 0 + _ + _ ≤ _
        omega)
    have e1 : copied (arrV (cA 13) (mN M 13 v) (fun j => cv φ (ev M 13 v j))) (arrV (cA 13) (mN M 13 w) (fun j => cv φ (ev M 13 w j))) 0 0 (nI N) = arrV (cA 13) (mN M 13 w) (fun j => if j < N then .int (mI M 13 v j) else .int (mI M 13 w j)) := by
      have h4 : (0 : Int32).toNatClampNeg + (nI N).toNatClampNeg ≤ mN M 13 v := by rw [nI_clamp hN, show (0 : Int32).toNatClampNeg = 0 by decide]; omega
      have h5 := va_copied (fun z => .int z) (cA 13) (cA 13) (mI M 13 v) (mI M 13 w) (n1 := mN M 13 w) (dp := 0) h4
      refine Eq.trans h5 ?_
      congr 1
      funext j
      rw [nI_clamp hN, show (0 : Int32).toNatClampNeg = 0 by decide]
      unfold va_cpy
      by_cases z : j < N
      · rw [if_pos (by omega), if_pos z]; simp
      · rw [if_neg (by omega), if_neg z]
    rw [e1] at X' step
    have hl : φ (rf 13 w) < H.size := (Array.getElem?_eq_some_iff.mp hc1).1
    generalize hcl : arrV (cA 13) (mN M 13 w) (fun j => if j < N then Value.int (mI M 13 v j) else .int (mI M 13 w j)) = cl9 at X' step
    have hheap : ((T.setVm vm').setCell (φ (rf 13 w)) cl9).heap = H.setIfInBounds (φ (rf 13 w)) cl9 := by rw [← hT]; rfl
    have oq : ∀ q : Nat, q ≠ φ (rf 13 w) → (H.setIfInBounds (φ (rf 13 w)) cl9)[q]? = H[q]? := fun q hq => by simp [Array.getElem?_setIfInBounds, Ne.symm hq]
    obtain ⟨t, a1, b1⟩ := kk φ (H.setIfInBounds (φ (rf 13 w)) cl9) _ lsA (Ext.rf φ M) (hiv.acpy hi (locs' := _) (fun q hq => by
      obtain ⟨z, -, hz⟩ := List.mem_map.mp hq
      rw [← hz]) (by rw [hcl]; simp [Array.getElem?_setIfInBounds, hl]) (by simp) oq) hlv _ hheap X'
    exact ⟨t, step t a1, b1⟩)
/-- a method of the class above -/
theorem CallK.SU {y : MRec} {n k i idx : Nat} {args rest : List Value} {q9 : vw_C} (hq9 : kq k = some q9) (hord : Cond.instantiable q9.1 q9.2.2 ∈ gtbl) (hc : CalOk y n) (hl : Cond.methodLink m.1.cls idx y.1 ∈ gtbl) (hsm : Cond.sameMethod y.1.cls y.1.cls y.1.name y.1.desc ∈ gtbl) (hsu : Cond.superclass m.1.cls y.1.cls ∈ gtbl) (hi : Cond.instanceMethod y.1 ∈ gtbl) (hnm : y.1.name ≠ "<init>") (hn : args.length = n) (hr : (rest.map fun v => v.category).sum ≤ 8) (hd : decode m.2.1 pc = .ok (.invokespecial idx, 3)) : CallK m d y pc (args.reverse ++ .ref (rf k i) :: rest) rest (.ref (rf k i) :: args) M := by
  intro p l e R s mid args0 below meth c D cA A hcx φ H locs cells slots lsA hiv hsz hst Pc Qc XC mc ms free hM hbl hpc hcs
  obtain ⟨hx, hb, hml, hlk, hown, hts, htr, hin, hK, hd1, hd2, hA, hex⟩ := hcx
  have hkl := kq_lt hq9
  obtain ⟨b, cellB, eb, hcB, hoB, hclB⟩ := rcv_own (T := q9.2.1) (N := q9.2.2) hq9 s D cA A φ H locs hK hiv (hst (.ref (rf k i)) (by simp) _ rfl)
  obtain ⟨cC, kC, hcC, hkC, hoC, -, -, -⟩ := Cond.instantiable_spec (hts _ hord)
  have hat : ClassAt s q9.1 cC := ⟨hcC, kC, hkC, hoC⟩
  have hG : GoodIn gtbl (va_wsSU m.1.cls idx y.1 (wcode y :: gtbl)) := by
    intro w hw
    unfold va_wsSU at hw
    rcases List.mem_append.mp hw with hw | hw
    · simp only [List.mem_cons, List.mem_nil_iff, or_false] at hw
      rcases hw with rfl | rfl | rfl | rfl | rfl
      · exact gt_good hl
      · exact gt_good hsm
      · exact gt_good hsu
      · exact gt_good hi
      · exact gt_good hc.2.2.1
    · exact good_cal hc w hw
  rw [rev_map, List.map_cons, List.map_cons, eb]
  exact vx_runSU (As := args.map (cv φ)) (rest := rest.map (cv φ)) (b := b) (C := q9.1) (cC := cC) (bytes := y.2.1) (maxL := y.2.2.1) (ret := y.2.2.2.1) (g := F0 mid pc lsA ((args.map (cv φ)).reverse ++ Value.ref b :: rest.map (cv φ))) (H := H) (locs := locs) (cells := cells) (slots := slots) hat ⟨hx, hb, hml, hown, hts⟩ hM (va_cwSU n hts hG (by rw [wc_code hc.1]) rfl rfl ⟨hnm, hc.2.2.2.1.2.2⟩ ⟨hd1, by have := hc.2.2.2.2; show 8 + (y.2.2.1 + 11) + 41 * d ≤ R.locals; omega⟩)
    ⟨hbl, ⟨cellB, hcB, hoB, hclB⟩, by rw [List.map_cons, eb] at hpc; exact hpc⟩ rfl (by rw [List.length_map]; exact hn) hsz rfl (lv_room (cat_map hr)) hd hcs
/-- a private method of a class above the receiver's: what is selected is the method itself -/
theorem sel_priv {C : String} {n : Nat} {y z : MethodName} {x : MethodName} {s : State} {args : Array Value} (hy : y.cls ≠ "java/lang/invoke/MethodHandle" ∧ y.cls ≠ "java/lang/invoke/VarHandle") (hins : (Cond.instantiable C n).before args s = true) (hpriv : (Cond.privateMethod y).before args s = true) (hinst : (Cond.instanceMethod y).before args s = true) (hz : z.cls = y.cls) (hsz : (Cond.selects C x z).before args s = true) : (Cond.selects C y y).before args s = true := by
  obtain ⟨c, k, hc, hk, -, -, -, -⟩ := Cond.instantiable_spec hins
  obtain ⟨mk, methM, hnamed, hmethM, -, -⟩ := Cond.instanceMethod_spec hinst
  have hfound : s.methodFound? y.cls y.name y.desc = some mk := State.methodFound?_of_named hnamed hy
  have hsel : selectMethod {} s.vm c mk = .method mk := selectMethod_private hmethM (Cond.privateMethod_at hpriv mk methM hnamed hmethM)
  obtain ⟨c2, r2, m2, q1, q2, q3, q4, k2, hk2, hni⟩ := Cond.selects_spec hsz
  have hcls : mk.cls = m2.cls := by
    have h1 := findClass_of_methodNamed hnamed
    have h2 := findClass_of_methodNamed q3
    rw [hz] at h2
    exact Option.some.inj (h1.symm.trans h2)
  simp only [Cond.before, Cond.holds, Cond.value, hc, hfound, hnamed, hsel, hcls, hk2]
  simp; exact hni
theorem CallK.UP {y : MRec} {n k i idx : Nat} {args rest : List Value} {q9 : vw_C} {x z : MethodName} (hq9 : kq k = some q9) (hins : Cond.instantiable q9.1 q9.2.2 ∈ gtbl) (hc : CalOk y n) (hl : Cond.methodLink m.1.cls idx y.1 ∈ gtbl) (hsm : Cond.sameMethod y.1.cls y.1.cls y.1.name y.1.desc ∈ gtbl) (hi : Cond.instanceMethod y.1 ∈ gtbl) (hp : Cond.privateMethod y.1 ∈ exW) (hz : z.cls = y.1.cls) (hsz : Cond.selects q9.1 x z ∈ gtbl) (hn : args.length = n) (hr : (rest.map fun v => v.category).sum ≤ 8) (hd : decode m.2.1 pc = .ok (.invokevirtual idx, 3)) : CallK m d y pc (args.reverse ++ .ref (rf k i) :: rest) rest (.ref (rf k i) :: args) M := by
  intro p l e R s mid args0 below meth c D cA A hcx φ H locs cells slots lsA hiv hsz9 hst Pc Qc XC mc ms free hM hbl hpc hcs
  obtain ⟨hx, hb, hml, hlk, hown, hts, htr, hin, hK, hd1, hd2, hA, hex⟩ := hcx
  obtain ⟨b, cellB, eb, hcB, hoB, hclB⟩ := rcv_own (T := q9.2.1) (N := q9.2.2) hq9 s D cA A φ H locs hK hiv (hst (.ref (rf k i)) (by simp) _ rfl)
  have hsel : (Cond.selects q9.1 y.1 y.1).before args0 s = true := sel_priv ⟨hc.2.2.2.1.1, hc.2.2.2.1.2.1⟩ (hts _ hins) (va_Nw.use (exW_ot _ hp) (hK.2.2.1 _ hp)) (hts _ hi) hz (hts _ hsz)
  have hG : GoodIn gtbl (wcode y :: gtbl) := good_cal hc
  have hcd : Cond.code y.1 y.2.1 y.2.2.1 y.2.2.2.1 ∈ wcode y :: gtbl := by rw [wc_code hc.1]; exact List.mem_cons_self
  rw [rev_map, List.map_cons, List.map_cons, eb]
  exact vx_runU (As := args.map (cv φ)) (rest := rest.map (cv φ)) (b := b) (C := q9.1) (owner := y.1.cls) (x := y.1) (bytes := y.2.1) (maxL := y.2.2.1) (ret := y.2.2.2.1) (g := F0 mid pc lsA ((args.map (cv φ)).reverse ++ Value.ref b :: rest.map (cv φ))) (H := H) (locs := locs) (cells := cells) (slots := slots) ⟨hx, hb, hml, hown, hts⟩ hM
    ⟨⟨rfl, rfl, hd1, by have := hc.2.2.2.2; show 8 + (y.2.2.1 + 11) + 41 * d ≤ R.locals; omega, pay_in hts hG, hcd⟩, hts _ (hG _ hcd).1, hts _ hc.2.2.1, ⟨hc.2.2.2.1.1, hc.2.2.2.1.2.1⟩, fun sig h => by
      have h2 := hc.2.2.2.1.2.2
      rw [h] at h2
      exact (Option.some.inj h2).symm, hts _ hl, hts _ hsm, va_Decl.of (hts _ hi) (hts _ (hG _ hcd).1), hsel, hts _ hi⟩
    ⟨hbl, ⟨cellB, hcB, hoB, hclB⟩, by rw [List.map_cons, eb] at hpc; exact hpc⟩ rfl (by rw [List.length_map]; exact hn) hsz9 rfl (lv_room (cat_map hr)) hd hcs
end SBR
def mJ4_length_8abf5 : MRec := (yJ4_length_8abf5, cJ4_length_8abf5, 1, some .int, [])
theorem kJ4_length_8abf5 : CalOk mJ4_length_8abf5 0 := ⟨rfl, gt_i 1657 (by decide +kernel) rfl, gt_i 15 (by decide +kernel) rfl, ⟨by decide +kernel, by decide +kernel, by decide +kernel⟩, by decide⟩
theorem inJ4_length_8abf5 : Cond.instanceMethod yJ4_length_8abf5 ∈ gtbl := gt_i 1656 (by decide +kernel) rfl
def mJ5_length_8abf5 : MRec := (yJ5_length_8abf5, cJ5_length_8abf5, 1, some .int, [])
theorem kJ5_length_8abf5 : CalOk mJ5_length_8abf5 0 := ⟨rfl, gt_i 1659 (by decide +kernel) rfl, gt_i 14 (by decide +kernel) rfl, ⟨by decide +kernel, by decide +kernel, by decide +kernel⟩, by decide⟩
theorem inJ5_length_8abf5 : Cond.instanceMethod yJ5_length_8abf5 ∈ gtbl := gt_i 1653 (by decide +kernel) rfl
def mJ5_ensureCapacityInternal_d00df : MRec := (yJ5_ensureCapacityInternal_d00df, cJ5_ensureCapacityInternal_d00df, 3, none, [])
theorem kJ5_ensureCapacityInternal_d00df : CalOk mJ5_ensureCapacityInternal_d00df 1 := ⟨rfl, gt_i 1524 (by decide +kernel) rfl, gt_i 14 (by decide +kernel) rfl, ⟨by decide +kernel, by decide +kernel, by decide +kernel⟩, by decide⟩
theorem inJ5_ensureCapacityInternal_d00df : Cond.instanceMethod yJ5_ensureCapacityInternal_d00df ∈ gtbl := gt_i 1523 (by decide +kernel) rfl
def mJ5_newCapacity_0f7a4 : MRec := (yJ5_newCapacity_0f7a4, cJ5_newCapacity_0f7a4, 6, some .int, [])
theorem kJ5_newCapacity_0f7a4 : CalOk mJ5_newCapacity_0f7a4 1 := ⟨rfl, gt_i 1528 (by decide +kernel) rfl, gt_i 14 (by decide +kernel) rfl, ⟨by decide +kernel, by decide +kernel, by decide +kernel⟩, by decide⟩
theorem inJ5_newCapacity_0f7a4 : Cond.instanceMethod yJ5_newCapacity_0f7a4 ∈ gtbl := gt_i 1527 (by decide +kernel) rfl
def mJ8_newLength_cabcc : MRec := (yJ8_newLength_cabcc, cJ8_newLength_cabcc, 4, some .int, [])
theorem kJ8_newLength_cabcc : CalOk mJ8_newLength_cabcc 3 := ⟨rfl, gt_i 1322 (by decide +kernel) rfl, gt_i 25 (by decide +kernel) rfl, ⟨by decide +kernel, by decide +kernel, by decide +kernel⟩, by decide⟩
theorem stJ8_newLength_cabcc : Cond.static yJ8_newLength_cabcc ∈ gtbl := gt_i 1321 (by decide +kernel) rfl
def mJ7_copyOf_9075b : MRec := (yJ7_copyOf_9075b, cJ7_copyOf_9075b, 3, some (.array .byte), [])
theorem kJ7_copyOf_9075b : CalOk mJ7_copyOf_9075b 2 := ⟨rfl, gt_i 1533 (by decide +kernel) rfl, gt_i 27 (by decide +kernel) rfl, ⟨by decide +kernel, by decide +kernel, by decide +kernel⟩, by decide⟩
theorem stJ7_copyOf_9075b : Cond.static yJ7_copyOf_9075b ∈ gtbl := gt_i 1532 (by decide +kernel) rfl
def mJ4_append_cf468 : MRec := (yJ4_append_cf468, cJ4_append_cf468, 2, some (.object "java/lang/StringBuilder"), [])
theorem kJ4_append_cf468 : CalOk mJ4_append_cf468 1 := ⟨rfl, gt_i 1599 (by decide +kernel) rfl, gt_i 15 (by decide +kernel) rfl, ⟨by decide +kernel, by decide +kernel, by decide +kernel⟩, by decide⟩
theorem inJ4_append_cf468 : Cond.instanceMethod yJ4_append_cf468 ∈ gtbl := gt_i 1597 (by decide +kernel) rfl
def mJ5_append_3fe6f : MRec := (yJ5_append_3fe6f, cJ5_append_3fe6f, 2, some (.object "java/lang/AbstractStringBuilder"), [])
theorem kJ5_append_3fe6f : CalOk mJ5_append_3fe6f 1 := ⟨rfl, gt_i 1602 (by decide +kernel) rfl, gt_i 14 (by decide +kernel) rfl, ⟨by decide +kernel, by decide +kernel, by decide +kernel⟩, by decide⟩
theorem inJ5_append_3fe6f : Cond.instanceMethod yJ5_append_3fe6f ∈ gtbl := gt_i 1601 (by decide +kernel) rfl
def mJ4_append_bf812 : MRec := (yJ4_append_bf812, cJ4_append_bf812, 2, some (.object "java/lang/StringBuilder"), [])
theorem kJ4_append_bf812 : CalOk mJ4_append_bf812 1 := ⟨rfl, gt_i 1612 (by decide +kernel) rfl, gt_i 15 (by decide +kernel) rfl, ⟨by decide +kernel, by decide +kernel, by decide +kernel⟩, by decide⟩
theorem inJ4_append_bf812 : Cond.instanceMethod yJ4_append_bf812 ∈ gtbl := gt_i 1610 (by decide +kernel) rfl
def mJ5_append_c97b9 : MRec := (yJ5_append_c97b9, cJ5_append_c97b9, 4, some (.object "java/lang/AbstractStringBuilder"), [])
theorem kJ5_append_c97b9 : CalOk mJ5_append_c97b9 1 := ⟨rfl, gt_i 1615 (by decide +kernel) rfl, gt_i 14 (by decide +kernel) rfl, ⟨by decide +kernel, by decide +kernel, by decide +kernel⟩, by decide⟩
theorem inJ5_append_c97b9 : Cond.instanceMethod yJ5_append_c97b9 ∈ gtbl := gt_i 1614 (by decide +kernel) rfl
def mJ6_stringSize_0f7a4 : MRec := (yJ6_stringSize_0f7a4, cJ6_stringSize_0f7a4, 4, some .int, [])
theorem kJ6_stringSize_0f7a4 : CalOk mJ6_stringSize_0f7a4 1 := ⟨rfl, gt_i 1618 (by decide +kernel) rfl, gt_i 30 (by decide +kernel) rfl, ⟨by decide +kernel, by decide +kernel, by decide +kernel⟩, by decide⟩
theorem stJ6_stringSize_0f7a4 : Cond.static yJ6_stringSize_0f7a4 ∈ gtbl := gt_i 1617 (by decide +kernel) rfl
def mJ6_getChars_ba4f3 : MRec := (yJ6_getChars_ba4f3, cJ6_getChars_ba4f3, 7, some .int, [])
theorem kJ6_getChars_ba4f3 : CalOk mJ6_getChars_ba4f3 3 := ⟨rfl, gt_i 1621 (by decide +kernel) rfl, gt_i 30 (by decide +kernel) rfl, ⟨by decide +kernel, by decide +kernel, by decide +kernel⟩, by decide⟩
theorem stJ6_getChars_ba4f3 : Cond.static yJ6_getChars_ba4f3 ∈ gtbl := gt_i 1620 (by decide +kernel) rfl
def mJ1_canEncode_fc78d : MRec := (yJ1_canEncode_fc78d, cJ1_canEncode_fc78d, 1, some .boolean, [])
theorem kJ1_canEncode_fc78d : CalOk mJ1_canEncode_fc78d 1 := ⟨rfl, gt_i 1605 (by decide +kernel) rfl, gt_i 18 (by decide +kernel) rfl, ⟨by decide +kernel, by decide +kernel, by decide +kernel⟩, by decide⟩
theorem stJ1_canEncode_fc78d : Cond.static yJ1_canEncode_fc78d ∈ gtbl := gt_i 1604 (by decide +kernel) rfl
def mJ5_isLatin1_aae02 : MRec := (yJ5_isLatin1_aae02, cJ5_isLatin1_aae02, 1, some .boolean, [])
theorem kJ5_isLatin1_aae02 : CalOk mJ5_isLatin1_aae02 0 := ⟨rfl, gt_i 1545 (by decide +kernel) rfl, gt_i 14 (by decide +kernel) rfl, ⟨by decide +kernel, by decide +kernel, by decide +kernel⟩, by decide⟩
theorem inJ5_isLatin1_aae02 : Cond.instanceMethod yJ5_isLatin1_aae02 ∈ gtbl := gt_i 1542 (by decide +kernel) rfl
def mJ4_init_da8c8 : MRec := (yJ4_init_da8c8, cJ4_init_da8c8, 1, none, [])
theorem kJ4_init_da8c8 : CalOk mJ4_init_da8c8 0 := ⟨rfl, gt_i 386 (by decide +kernel) rfl, gt_i 15 (by decide +kernel) rfl, ⟨by decide +kernel, by decide +kernel, by decide +kernel⟩, by decide⟩
theorem inJ4_init_da8c8 : Cond.instanceMethod yJ4_init_da8c8 ∈ gtbl := gt_i 385 (by decide +kernel) rfl
def mJ5_init_d00df : MRec := (yJ5_init_d00df, cJ5_init_d00df, 2, none, [])
theorem kJ5_init_d00df : CalOk mJ5_init_d00df 1 := ⟨rfl, gt_i 389 (by decide +kernel) rfl, gt_i 14 (by decide +kernel) rfl, ⟨by decide +kernel, by decide +kernel, by decide +kernel⟩, by decide⟩
theorem inJ5_init_d00df : Cond.instanceMethod yJ5_init_d00df ∈ gtbl := gt_i 388 (by decide +kernel) rfl
theorem cl_J4_343 {i : Nat} {m : MRec} {d pc : Nat} {ls st : List Value} {M : Mem} {Q : Out → Mem → Prop} (hm : m.1.cls = RJ4) (hh : m.2.2.2.2 = []) (hr : (st.map fun v => v.category).sum ≤ 8) (hd : decode m.2.1 pc = .ok (.invokespecial 343, 3)) (k : WPc d mJ5_length_8abf5 [.ref (rf 12 i)] M (fun o M1 => match o with | .inl r => WP m (d + 1) (pc + 3) ls (r.toList ++ st) M1 Q | .inr E => Q (.inr E) M1)) : WP m (d + 1) pc ls (.ref (rf 12 i) :: st) M Q :=
  WP.callG (CallK.SU (args := []) (rest := st) (k := 12) rfl (gt_i 383 (by decide +kernel) rfl) kJ5_length_8abf5 (by rw [hm]; exact gt_i 1658 (by decide +kernel) rfl) (gt_i 1654 (by decide +kernel) rfl) (by rw [hm]; exact gt_i 412 (by decide +kernel) rfl) (gt_i 1653 (by decide +kernel) rfl) (by decide +kernel) rfl hr hd) hh (hokV [] st _) k
theorem cl_J4_50 {i : Nat} {m : MRec} {d pc : Nat} {ls st : List Value} {M : Mem} {Q : Out → Mem → Prop} {a1 : Value} (hm : m.1.cls = RJ4) (hh : m.2.2.2.2 = []) (hr : (st.map fun v => v.category).sum ≤ 8) (hd : decode m.2.1 pc = .ok (.invokespecial 50, 3)) (k : WPc d mJ5_append_3fe6f [.ref (rf 12 i), a1] M (fun o M1 => match o with | .inl r => WP m (d + 1) (pc + 3) ls (r.toList ++ st) M1 Q | .inr E => Q (.inr E) M1)) : WP m (d + 1) pc ls (a1 :: .ref (rf 12 i) :: st) M Q :=
  WP.callG (CallK.SU (args := [a1]) (rest := st) (k := 12) rfl (gt_i 383 (by decide +kernel) rfl) kJ5_append_3fe6f (by rw [hm]; exact gt_i 1600 (by decide +kernel) rfl) (gt_i 1705 (by decide +kernel) rfl) (by rw [hm]; exact gt_i 412 (by decide +kernel) rfl) (gt_i 1601 (by decide +kernel) rfl) (by decide +kernel) rfl hr hd) hh (hokV [a1] st _) k
theorem cl_J4_53 {i : Nat} {m : MRec} {d pc : Nat} {ls st : List Value} {M : Mem} {Q : Out → Mem → Prop} {a1 : Value} (hm : m.1.cls = RJ4) (hh : m.2.2.2.2 = []) (hr : (st.map fun v => v.category).sum ≤ 8) (hd : decode m.2.1 pc = .ok (.invokespecial 53, 3)) (k : WPc d mJ5_append_c97b9 [.ref (rf 12 i), a1] M (fun o M1 => match o with | .inl r => WP m (d + 1) (pc + 3) ls (r.toList ++ st) M1 Q | .inr E => Q (.inr E) M1)) : WP m (d + 1) pc ls (a1 :: .ref (rf 12 i) :: st) M Q :=
  WP.callG (CallK.SU (args := [a1]) (rest := st) (k := 12) rfl (gt_i 383 (by decide +kernel) rfl) kJ5_append_c97b9 (by rw [hm]; exact gt_i 1613 (by decide +kernel) rfl) (gt_i 1706 (by decide +kernel) rfl) (by rw [hm]; exact gt_i 412 (by decide +kernel) rfl) (gt_i 1614 (by decide +kernel) rfl) (by decide +kernel) rfl hr hd) hh (hokV [a1] st _) k
theorem cl_J4_1 {i : Nat} {m : MRec} {d pc : Nat} {ls st : List Value} {M : Mem} {Q : Out → Mem → Prop} {a1 : Value} (hm : m.1.cls = RJ4) (hh : m.2.2.2.2 = []) (hr : (st.map fun v => v.category).sum ≤ 8) (hd : decode m.2.1 pc = .ok (.invokespecial 1, 3)) (k : WPc d mJ5_init_d00df [.ref (rf 12 i), a1] M (fun o M1 => match o with | .inl r => WP m (d + 1) (pc + 3) ls (r.toList ++ st) M1 Q | .inr E => Q (.inr E) M1)) : WP m (d + 1) pc ls (a1 :: .ref (rf 12 i) :: st) M Q :=
  WP.callG (CallK.I (args := [a1]) (rest := st) (by decide) kJ5_init_d00df (by rw [hm]; exact gt_i 387 (by decide +kernel) rfl) (gt_i 388 (by decide +kernel) rfl) rfl rfl rfl hr hd) hh (hokV [a1] st _) k
theorem cl_J5_100 {i : Nat} {m : MRec} {d pc : Nat} {ls st : List Value} {M : Mem} {Q : Out → Mem → Prop} {a1 : Value} (hm : m.1.cls = RJ5) (hh : m.2.2.2.2 = []) (hr : (st.map fun v => v.category).sum ≤ 8) (hd : decode m.2.1 pc = .ok (.invokevirtual 100, 3)) (k : WPc d mJ5_ensureCapacityInternal_d00df [.ref (rf 12 i), a1] M (fun o M1 => match o with | .inl r => WP m (d + 1) (pc + 3) ls (r.toList ++ st) M1 Q | .inr E => Q (.inr E) M1)) : WP m (d + 1) pc ls (a1 :: .ref (rf 12 i) :: st) M Q :=
  WP.callG (CallK.UP (args := [a1]) (rest := st) (k := 12) (z := ⟨"java/lang/AbstractStringBuilder", "isLatin1", "()Z"⟩) (x := ⟨"java/lang/AbstractStringBuilder", "isLatin1", "()Z"⟩) rfl (gt_i 383 (by decide +kernel) rfl) kJ5_ensureCapacityInternal_d00df (by rw [hm]; exact gt_i 1521 (by decide +kernel) rfl) (gt_i 1700 (by decide +kernel) rfl) (gt_i 1523 (by decide +kernel) rfl) (by decide +kernel) rfl (gt_i 1544 (by decide +kernel) rfl) rfl hr hd) hh (hokV [a1] st _) k
theorem cl_J5_104 {i : Nat} {m : MRec} {d pc : Nat} {ls st : List Value} {M : Mem} {Q : Out → Mem → Prop} {a1 : Value} (hm : m.1.cls = RJ5) (hh : m.2.2.2.2 = []) (hr : (st.map fun v => v.category).sum ≤ 8) (hd : decode m.2.1 pc = .ok (.invokevirtual 104, 3)) (k : WPc d mJ5_newCapacity_0f7a4 [.ref (rf 12 i), a1] M (fun o M1 => match o with | .inl r => WP m (d + 1) (pc + 3) ls (r.toList ++ st) M1 Q | .inr E => Q (.inr E) M1)) : WP m (d + 1) pc ls (a1 :: .ref (rf 12 i) :: st) M Q :=
  WP.callG (CallK.UP (args := [a1]) (rest := st) (k := 12) (z := ⟨"java/lang/AbstractStringBuilder", "isLatin1", "()Z"⟩) (x := ⟨"java/lang/AbstractStringBuilder", "isLatin1", "()Z"⟩) rfl (gt_i 383 (by decide +kernel) rfl) kJ5_newCapacity_0f7a4 (by rw [hm]; exact gt_i 1525 (by decide +kernel) rfl) (gt_i 1701 (by decide +kernel) rfl) (gt_i 1527 (by decide +kernel) rfl) (by decide +kernel) rfl (gt_i 1544 (by decide +kernel) rfl) rfl hr hd) hh (hokV [a1] st _) k
theorem cl_J5_83 {i : Nat} {m : MRec} {d pc : Nat} {ls st : List Value} {M : Mem} {Q : Out → Mem → Prop} (hm : m.1.cls = RJ5) (hh : m.2.2.2.2 = []) (hr : (st.map fun v => v.category).sum ≤ 8) (hd : decode m.2.1 pc = .ok (.invokevirtual 83, 3)) (k : WPc d mJ5_isLatin1_aae02 [.ref (rf 12 i)] M (fun o M1 => match o with | .inl r => WP m (d + 1) (pc + 3) ls (r.toList ++ st) M1 Q | .inr E => Q (.inr E) M1)) : WP m (d + 1) pc ls (.ref (rf 12 i) :: st) M Q :=
  WP.callG (CallK.U (x := yJ5_isLatin1_aae02) (C := "java/lang/StringBuilder") (owner := "java/lang/AbstractStringBuilder") (args := []) (rest := st) kJ5_isLatin1_aae02 (by rw [hm]; exact gt_i 1541 (by decide +kernel) rfl) (gt_i 1543 (by decide +kernel) rfl) (gt_i 1542 (by decide +kernel) rfl) (gt_i 1544 (by decide +kernel) rfl) rfl (rcv_own (k := 12) rfl) rfl hr hd) hh (hokV [] st _) k
theorem cl_X12_54 {i : Nat} {m : MRec} {d pc : Nat} {ls st : List Value} {M : Mem} {Q : Out → Mem → Prop} (hm : m.1.cls = RX12) (hh : m.2.2.2.2 = []) (hr : (st.map fun v => v.category).sum ≤ 8) (hd : decode m.2.1 pc = .ok (.invokespecial 54, 3)) (k : WPc d mJ4_init_da8c8 [.ref (rf 12 i)] M (fun o M1 => match o with | .inl r => WP m (d + 1) (pc + 3) ls (r.toList ++ st) M1 Q | .inr E => Q (.inr E) M1)) : WP m (d + 1) pc ls (.ref (rf 12 i) :: st) M Q :=
  WP.callG (CallK.I (args := []) (rest := st) (by decide) kJ4_init_da8c8 (by rw [hm]; exact gt_i 384 (by decide +kernel) rfl) (gt_i 385 (by decide +kernel) rfl) rfl rfl rfl hr hd) hh (hokV [] st _) k
theorem cl_J5_114 {m : MRec} {d pc : Nat} {ls st : List Value} {M : Mem} {Q : Out → Mem → Prop} {a1 a2 a3 : Value} (hm : m.1.cls = RJ5) (hh : m.2.2.2.2 = []) (hr : (st.map fun v => v.category).sum ≤ 8) (hd : decode m.2.1 pc = .ok (.invokestatic 114, 3)) (k : WPc d mJ8_newLength_cabcc [a1, a2, a3] M (fun o M1 => match o with | .inl r => WP m (d + 1) (pc + 3) ls (r.toList ++ st) M1 Q | .inr E => Q (.inr E) M1)) : WP m (d + 1) pc ls (a3 :: a2 :: a1 :: st) M Q :=
  WP.callG (CallK.S (args := [a1, a2, a3]) (rest := st) kJ8_newLength_cabcc (by rw [hm]; exact gt_i 1529 (by decide +kernel) rfl) stJ8_newLength_cabcc rfl hr hd) hh (hokS [a1, a2, a3] st) k
theorem cl_J5_108 {m : MRec} {d pc : Nat} {ls st : List Value} {M : Mem} {Q : Out → Mem → Prop} {a1 a2 : Value} (hm : m.1.cls = RJ5) (hh : m.2.2.2.2 = []) (hr : (st.map fun v => v.category).sum ≤ 8) (hd : decode m.2.1 pc = .ok (.invokestatic 108, 3)) (k : WPc d mJ7_copyOf_9075b [a1, a2] M (fun o M1 => match o with | .inl r => WP m (d + 1) (pc + 3) ls (r.toList ++ st) M1 Q | .inr E => Q (.inr E) M1)) : WP m (d + 1) pc ls (a2 :: a1 :: st) M Q :=
  WP.callG (CallK.S (args := [a1, a2]) (rest := st) kJ7_copyOf_9075b (by rw [hm]; exact gt_i 1531 (by decide +kernel) rfl) stJ7_copyOf_9075b rfl hr hd) hh (hokS [a1, a2] st) k
theorem cl_J5_191 {m : MRec} {d pc : Nat} {ls st : List Value} {M : Mem} {Q : Out → Mem → Prop} {a1 : Value} (hm : m.1.cls = RJ5) (hh : m.2.2.2.2 = []) (hr : (st.map fun v => v.category).sum ≤ 8) (hd : decode m.2.1 pc = .ok (.invokestatic 191, 3)) (k : WPc d mJ1_canEncode_fc78d [a1] M (fun o M1 => match o with | .inl r => WP m (d + 1) (pc + 3) ls (r.toList ++ st) M1 Q | .inr E => Q (.inr E) M1)) : WP m (d + 1) pc ls (a1 :: st) M Q :=
  WP.callG (CallK.S (args := [a1]) (rest := st) kJ1_canEncode_fc78d (by rw [hm]; exact gt_i 1603 (by decide +kernel) rfl) stJ1_canEncode_fc78d rfl hr hd) hh (hokS [a1] st) k
theorem cl_J5_245 {m : MRec} {d pc : Nat} {ls st : List Value} {M : Mem} {Q : Out → Mem → Prop} {a1 : Value} (hm : m.1.cls = RJ5) (hh : m.2.2.2.2 = []) (hr : (st.map fun v => v.category).sum ≤ 8) (hd : decode m.2.1 pc = .ok (.invokestatic 245, 3)) (k : WPc d mJ6_stringSize_0f7a4 [a1] M (fun o M1 => match o with | .inl r => WP m (d + 1) (pc + 3) ls (r.toList ++ st) M1 Q | .inr E => Q (.inr E) M1)) : WP m (d + 1) pc ls (a1 :: st) M Q :=
  WP.callG (CallK.S (args := [a1]) (rest := st) kJ6_stringSize_0f7a4 (by rw [hm]; exact gt_i 1616 (by decide +kernel) rfl) stJ6_stringSize_0f7a4 rfl hr hd) hh (hokS [a1] st) k
theorem cl_J5_248 {m : MRec} {d pc : Nat} {ls st : List Value} {M : Mem} {Q : Out → Mem → Prop} {a1 a2 a3 : Value} (hm : m.1.cls = RJ5) (hh : m.2.2.2.2 = []) (hr : (st.map fun v => v.category).sum ≤ 8) (hd : decode m.2.1 pc = .ok (.invokestatic 248, 3)) (k : WPc d mJ6_getChars_ba4f3 [a1, a2, a3] M (fun o M1 => match o with | .inl r => WP m (d + 1) (pc + 3) ls (r.toList ++ st) M1 Q | .inr E => Q (.inr E) M1)) : WP m (d + 1) pc ls (a3 :: a2 :: a1 :: st) M Q :=
  WP.callG (CallK.S (args := [a1, a2, a3]) (rest := st) kJ6_getChars_ba4f3 (by rw [hm]; exact gt_i 1619 (by decide +kernel) rfl) stJ6_getChars_ba4f3 rfl hr hd) hh (hokS [a1, a2, a3] st) k
/-- what a builder's growth may touch -/
def FrS (M M' : Mem) : Prop := (∀ k i, k ≠ 12 → (k = 13 → i = 0) → mI M' k i = mI M k i ∧ mL M' k i = mL M k i ∧ mR M' k i = mR M k i ∧ mD M' k i = mD M k i ∧ mN M' k i = mN M k i) ∧ (∀ k, k ≠ 13 → mC M' k = mC M k) ∧ mC M 13 ≤ mC M' 13
/-- the room that growth takes, paid by the greater array -/
def Gw (M M' : Mem) (cap cap' : Nat) : Prop := cap ≤ cap' ∧ mK M' + cap ≤ mK M + cap' ∧ mS M' + 2 * cap ≤ mS M + 2 * cap'
theorem FrS.rf (M : Mem) : FrS M M := ⟨fun _ _ _ _ => ⟨rfl, rfl, rfl, rfl, rfl⟩, fun _ _ => rfl, Nat.le_refl _⟩
theorem FrS.tr {M M' M'' : Mem} (h : FrS M M') (g : FrS M' M'') : FrS M M'' := by
  refine ⟨fun k i h1 h2 => ?_, fun k hk => (g.2.1 k hk).trans (h.2.1 k hk), Nat.le_trans h.2.2 g.2.2⟩
  have a := h.1 k i h1 h2
  have b := g.1 k i h1 h2
  exact ⟨b.1.trans a.1, b.2.1.trans a.2.1, b.2.2.1.trans a.2.2.1, b.2.2.2.1.trans a.2.2.2.1, b.2.2.2.2.trans a.2.2.2.2⟩
theorem Gw.rf (M : Mem) (cap : Nat) : Gw M M cap cap := ⟨Nat.le_refl _, Nat.le_refl _, Nat.le_refl _⟩
theorem Gw.tr {M M' M'' : Mem} {a b c : Nat} (h : Gw M M' a b) (g : Gw M' M'' b c) : Gw M M'' a c := by
  obtain ⟨h1, h2, h3⟩ := h
  obtain ⟨g1, g2, g3⟩ := g
  exact ⟨by omega, by omega, by omega⟩
theorem FrS.s12 {M M' : Mem} {f : Nat} {v : Int32} (h : FrS M M') : FrS M (sI M' 12 0 f v) :=
  h.tr ⟨fun k i h1 h2 => ⟨up3_ne (fun z => h1 z.1), rfl, rfl, rfl, rfl⟩, fun _ _ => rfl, Nat.le_refl _⟩
theorem FrS.r12 {M M' : Mem} {f : Nat} {v : Option Nat} (h : FrS M M') : FrS M (sR M' 12 0 f v) :=
  h.tr ⟨fun k i h1 h2 => ⟨rfl, rfl, up3_ne (fun z => h1 z.1), rfl, rfl⟩, fun _ _ => rfl, Nat.le_refl _⟩
theorem FrS.s13 {M M' : Mem} {w f : Nat} {v : Int32} (h : FrS M M') (hw : 0 < w) : FrS M (sI M' 13 w f v) :=
  h.tr ⟨fun k i h1 h2 => ⟨up3_ne (fun z => by have := h2 z.1; omega), rfl, rfl, rfl, rfl⟩, fun _ _ => rfl, Nat.le_refl _⟩
theorem vp_byte {k : Nat} (h : k < 128) : vp_nar .byte (nI k) = nI k := by
  have : ∀ k, k < 128 → vp_nar .byte (nI k) = nI k := by decide +kernel
  exact this k h
theorem fit_byte {k : Nat} (h : k < 128) : fits .byte (.int (nI k)) = true := by
  have : ∀ k, k < 128 → fits .byte (.int (nI k)) = true := by decide +kernel
  exact this k h
theorem i2b_k {k : Nat} (h : k < 128) : (nI k).toInt8.toInt32 = nI k := by
  have : ∀ k, k < 128 → (nI k).toInt8.toInt32 = nI k := by decide +kernel
  exact this k h
theorem i2c_k {k : Nat} (h : k < 128) : ((nI k).toUInt32 % 65536).toInt32 = nI k := by
  have : ∀ k, k < 128 → ((nI k).toUInt32 % 65536).toInt32 = nI k := by decide +kernel
  exact this k h
theorem ch_and {k : Nat} (h : k < 128) : ((nI k &&& 255).toUInt32 % 65536).toInt32 = nI k := by
  have : ∀ k, k < 128 → ((nI k &&& 255).toUInt32 % 65536).toInt32 = nI k := by decide +kernel
  exact this k h
theorem nI_shr0 (x : Int32) : x >>> ((0 : Int32) &&& 31) = x := sh0 x
theorem nI_shl0 (x : Int32) : x <<< ((0 : Int32) &&& 31) = x := by
  rw [show ((0 : Int32) &&& 31) = 0 by decide]
  exact Int32.shiftLeft_zero
set_option maxHeartbeats 1000000 in
set_option maxRecDepth 4000 in
theorem s_sbLat {d : Nat} {cap : Nat} {O : List Int32} {M : Mem} {Q : Out → Mem → Prop} (h : Sb M cap O) (hq : Q (.inl (some (.int 1))) M) : WPc d mJ5_isLatin1_aae02 [.ref (rf 12 0)] M Q := by
  refine WPc.of (by decide +kernel) (Nat.le_of_ble_eq_true rfl) rfl ?_
  obtain ⟨⟨v, a1, a2, a3, a4, a5, a6⟩, b1, b2, b3, b4⟩ := h
  refine R.gsCompact (gt_i 391 (by decide +kernel) rfl) dJ5_isLatin1_aae02_0 ?_
  refine R.if_eq (tgt := 17) dJ5_isLatin1_aae02_3 (by decide) (fun c => absurd c (by decide)) (fun _ => ?_)
  refine R.aload_n dJ5_isLatin1_aae02_6 rfl (by first | rfl | exact rfv_rf _) ?_
  refine R.getI dJ5_isLatin1_aae02_7 fl_J5_22 (by decide) rfl ?_
  rw [b1]
  refine R.if_ne (tgt := 17) dJ5_isLatin1_aae02_10 (by decide) (fun c => absurd rfl c) (fun _ => ?_)
  refine R.iconst (v := 1) dJ5_isLatin1_aae02_13 rfl ?_
  refine R.goto (tgt := 18) dJ5_isLatin1_aae02_14 (by decide) ?_
  refine WP.ret (ov := some (.int _)) dJ5_isLatin1_aae02_18 ⟨rfl, _, rfl, by first | rfl | assumption | exact nar_b01 (by assumption)⟩ ?_
  exact hq
set_option maxHeartbeats 1000000 in
set_option maxRecDepth 4000 in
theorem s_sbEnc {d : Nat} {k : Nat} {M : Mem} {Q : Out → Mem → Prop} (hk : k < 128) (hq : Q (.inl (some (.int 1))) M) : WPc d mJ1_canEncode_fc78d [.int (nI k)] M Q := by
  refine WPc.of (by decide +kernel) (Nat.le_of_ble_eq_true rfl) rfl ?_
  refine R.iload_n dJ1_canEncode_fc78d_0 rfl ?_
  refine R.sipush (v := nI 255) dJ1_canEncode_fc78d_1 (by decide) ?_
  refine R.icmp_gt (tgt := 11) dJ1_canEncode_fc78d_4 (by decide) (fun c => absurd c (nI_nlt (by omega) (by omega))) (fun _ => ?_)
  refine R.iconst (v := 1) dJ1_canEncode_fc78d_7 rfl ?_
  refine R.goto (tgt := 12) dJ1_canEncode_fc78d_8 (by decide) ?_
  refine WP.ret (ov := some (.int _)) dJ1_canEncode_fc78d_12 ⟨rfl, _, rfl, by first | rfl | assumption | exact nar_b01 (by assumption)⟩ ?_
  exact hq
set_option maxHeartbeats 1000000 in
set_option maxRecDepth 4000 in
theorem s_sbLen5 {d : Nat} {cap : Nat} {O : List Int32} {M : Mem} {Q : Out → Mem → Prop} (h : Sb M cap O) (hq : Q (.inl (some (.int (nI O.length)))) M) : WPc d mJ5_length_8abf5 [.ref (rf 12 0)] M Q := by
  refine WPc.of (by decide +kernel) (Nat.le_of_ble_eq_true rfl) rfl ?_
  obtain ⟨⟨v, a1, a2, a3, a4, a5, a6⟩, b1, b2, b3, b4⟩ := h
  refine R.aload_n dJ5_length_8abf5_0 rfl (by first | rfl | exact rfv_rf _) ?_
  refine R.getI dJ5_length_8abf5_1 fl_J5_79 (by decide) rfl ?_
  rw [b2]
  refine WP.ret (ov := some (.int _)) dJ5_length_8abf5_4 ⟨rfl, _, rfl, by first | rfl | assumption | exact nar_b01 (by assumption)⟩ ?_
  exact hq
set_option maxHeartbeats 1000000 in
set_option maxRecDepth 4000 in
theorem s_sbLen {d : Nat} {cap : Nat} {O : List Int32} {M : Mem} {Q : Out → Mem → Prop} (h : Sb M cap O) (hq : Q (.inl (some (.int (nI O.length)))) M) : WPc (d + 1) mJ4_length_8abf5 [.ref (rf 12 0)] M Q := by
  refine WPc.of (by decide +kernel) (Nat.le_of_ble_eq_true rfl) rfl ?_
  refine R.aload_n dJ4_length_8abf5_0 rfl (by first | rfl | exact rfv_rf _) ?_
  refine cl_J4_343 rfl rfl (by first | exact Nat.le_of_ble_eq_true rfl | simp [rf_cat, Value.category]) dJ4_length_8abf5_1 ?_
  refine s_sbLen5 h ?_
  refine WP.ret (ov := some (.int _)) dJ4_length_8abf5_4 ⟨rfl, _, rfl, by first | rfl | assumption | exact nar_b01 (by assumption)⟩ ?_
  exact hq
set_option maxHeartbeats 1000000 in
set_option maxRecDepth 4000 in
theorem s_newLen {d : Nat} {a b c : Nat} {M : Mem} {Q : Out → Mem → Prop} (ha : a < 2000) (hb : 0 < b ∧ b < 2000) (hc : c < 2000) (hq : Q (.inl (some (.int (nI (a + max b c))))) M) : WPc (d + 1) mJ8_newLength_cabcc [.int (nI a), .int (nI b), .int (nI c)] M Q := by
  refine WPc.of (by decide +kernel) (Nat.le_of_ble_eq_true rfl) rfl ?_
  refine R.iload_n dJ8_newLength_cabcc_0 rfl ?_
  refine R.iload_n dJ8_newLength_cabcc_1 rfl ?_
  refine R.iload_n dJ8_newLength_cabcc_2 rfl ?_
  refine cl_J8_194 rfl rfl (by first | exact Nat.le_of_ble_eq_true rfl | simp [rf_cat, Value.category]) dJ8_newLength_cabcc_3 ?_
  refine s_max ?_
  rw [fmax_nI (by omega) (by omega)]
  refine R.iadd dJ8_newLength_cabcc_6 ?_
  rw [nI_add]
  refine R.istore_n dJ8_newLength_cabcc_7 (Nat.le_of_ble_eq_true rfl) (by decide) (by first | rfl | simp [lft, rf_cat]) rfl ?_
  refine R.iconst (v := nI 0) dJ8_newLength_cabcc_8 rfl ?_
  refine R.iload_n dJ8_newLength_cabcc_9 rfl ?_
  refine R.icmp_ge (tgt := 21) dJ8_newLength_cabcc_10 (by decide) (fun c => absurd c (nI_ge (by omega) (by omega))) (fun _ => ?_)
  refine R.iload_n dJ8_newLength_cabcc_13 rfl ?_
  refine R.ldc (v := nI 2147483639) dJ8_newLength_cabcc_14 (gt_i 1326 (by decide +kernel) rfl) ?_
  refine R.icmp_gt (tgt := 21) dJ8_newLength_cabcc_16 (by decide) (fun c => absurd c (nI_nlt (by omega) (by omega))) (fun _ => ?_)
  refine R.iload_n dJ8_newLength_cabcc_19 rfl ?_
  refine WP.ret (ov := some (.int _)) dJ8_newLength_cabcc_20 ⟨rfl, _, rfl, by first | rfl | assumption | exact nar_b01 (by assumption)⟩ ?_
  exact hq
set_option maxHeartbeats 1000000 in
set_option maxRecDepth 4000 in
theorem s_sbCap {d : Nat} {cap : Nat} {O : List Int32} {q : Nat} {M : Mem} {Q : Out → Mem → Prop} (h : Sb M cap O) (hc : cap < q) (hq9 : q ≤ 300) (hq : Q (.inl (some (.int (nI (max q (2 * cap + 2)))))) M) : WPc (d + 2) mJ5_newCapacity_0f7a4 [.ref (rf 12 0), .int (nI q)] M Q := by
  refine WPc.of (by decide +kernel) (Nat.le_of_ble_eq_true rfl) rfl ?_
  obtain ⟨⟨v, a1, a2, a3, a4, a5, a6⟩, b1, b2, b3, b4⟩ := h
  refine R.aload_n dJ5_newCapacity_0f7a4_0 rfl (by first | rfl | exact rfv_rf _) ?_
  refine R.getS (a1) dJ5_newCapacity_0f7a4_1 fl_J5_15 (by decide) rfl ?_
  refine R.alenS a4 (by decide) (by decide) dJ5_newCapacity_0f7a4_4 ?_
  refine R.istore_n dJ5_newCapacity_0f7a4_5 (Nat.le_of_ble_eq_true rfl) (by decide) (by first | rfl | simp [lft, rf_cat]) rfl ?_
  refine R.iload_n dJ5_newCapacity_0f7a4_6 rfl ?_
  refine R.aload_n dJ5_newCapacity_0f7a4_7 rfl (by first | rfl | exact rfv_rf _) ?_
  refine R.getI dJ5_newCapacity_0f7a4_8 fl_J5_22 (by decide) rfl ?_
  rw [b1]
  refine R.ishl dJ5_newCapacity_0f7a4_11 ?_
  rw [nI_shl0]
  refine R.istore_n dJ5_newCapacity_0f7a4_12 (Nat.le_of_ble_eq_true rfl) (by decide) (by first | rfl | simp [lft, rf_cat]) rfl ?_
  refine R.iload_n dJ5_newCapacity_0f7a4_13 rfl ?_
  refine R.iload_n dJ5_newCapacity_0f7a4_14 rfl ?_
  refine R.isub dJ5_newCapacity_0f7a4_15 ?_
  rw [nI_sub (by omega)]
  refine R.istore dJ5_newCapacity_0f7a4_16 (Nat.le_of_ble_eq_true rfl) (by decide) (by first | rfl | simp [lft, rf_cat]) rfl ?_
  refine R.iload_n dJ5_newCapacity_0f7a4_18 rfl ?_
  refine R.iload dJ5_newCapacity_0f7a4_19 rfl ?_
  refine R.iload_n dJ5_newCapacity_0f7a4_21 rfl ?_
  refine R.iconst (v := nI 2) dJ5_newCapacity_0f7a4_22 rfl ?_
  refine R.aload_n dJ5_newCapacity_0f7a4_23 rfl (by first | rfl | exact rfv_rf _) ?_
  refine R.getI dJ5_newCapacity_0f7a4_24 fl_J5_22 (by decide) rfl ?_
  rw [b1]
  refine R.ishl dJ5_newCapacity_0f7a4_27 ?_
  rw [nI_shl0]
  refine R.iadd dJ5_newCapacity_0f7a4_28 ?_
  rw [nI_add]
  refine cl_J5_114 rfl rfl (by first | exact Nat.le_of_ble_eq_true rfl | simp [rf_cat, Value.category]) dJ5_newCapacity_0f7a4_29 ?_
  refine s_newLen (by omega) ⟨by omega, by omega⟩ (by omega) ?_
  rw [show cap + max (q - cap) (cap + 2) = max q (2 * cap + 2) by omega]
  refine R.istore dJ5_newCapacity_0f7a4_32 (Nat.le_of_ble_eq_true rfl) (by decide) (by first | rfl | simp [lft, rf_cat]) rfl ?_
  refine R.iload dJ5_newCapacity_0f7a4_34 rfl ?_
  refine R.ldc (v := nI 2147483647) dJ5_newCapacity_0f7a4_36 (gt_i 1530 (by decide +kernel) rfl) ?_
  refine R.icmp_ne (tgt := 51) dJ5_newCapacity_0f7a4_38 (by decide) (fun _ => ?_) (fun c => absurd ((nI_eq (by omega) (by omega)).mp c) (by omega))
  refine R.iload dJ5_newCapacity_0f7a4_51 rfl ?_
  refine R.aload_n dJ5_newCapacity_0f7a4_53 rfl (by first | rfl | exact rfv_rf _) ?_
  refine R.getI dJ5_newCapacity_0f7a4_54 fl_J5_22 (by decide) rfl ?_
  rw [b1]
  refine R.ishr dJ5_newCapacity_0f7a4_57 ?_
  rw [nI_shr0]
  refine WP.ret (ov := some (.int _)) dJ5_newCapacity_0f7a4_58 ⟨rfl, _, rfl, by first | rfl | assumption | exact nar_b01 (by assumption)⟩ ?_
  exact hq
set_option maxHeartbeats 1000000 in
set_option maxRecDepth 4000 in
theorem s_copyB {d : Nat} {v n c9 : Nat} {M : Mem} {Q : Out → Mem → Prop} (hv : v < mC M 13) (a4 : mN M 13 v = n) (hn : n ≤ c9) (hne : n < c9) (hc9 : c9 < 5000) (hf : ∀ j, j < n → fits .byte (.int (mI M 13 v j)) = true) (hq : Q (.inl (some (.ref (rf 13 (mC M 13))))) (cpA (al M 13 c9 c9) v (mC M 13) n)) : WPc (d + 2) mJ7_copyOf_9075b [.ref (rf 13 v), .int (nI c9)] M Q := by
  refine WPc.of (by decide +kernel) (Nat.le_of_ble_eq_true rfl) rfl ?_
  refine R.iload_n dJ7_copyOf_9075b_0 rfl ?_
  refine R.aload_n dJ7_copyOf_9075b_1 rfl (by first | rfl | exact rfv_rf _) ?_
  refine R.alenS a4 (by decide) (by decide) dJ7_copyOf_9075b_2 ?_
  refine R.icmp_ne (tgt := 14) dJ7_copyOf_9075b_3 (by decide) (fun _ => ?_) (fun c => absurd ((nI_eq (by omega) (by omega)).mp c) (by omega))
  refine R.iload_n dJ7_copyOf_9075b_14 rfl ?_
  refine R.newarr (k := 13) (N := c9) (by decide) (by decide) rfl ac_byte (nI_pos (by omega)) (nI_clamp (by omega)) (by omega) dJ7_copyOf_9075b_15 ?_
  refine R.astore_n dJ7_copyOf_9075b_17 (by first | rfl | exact rfv_rf _) (Nat.le_of_ble_eq_true rfl) (by decide) (by first | rfl | simp [lft, rf_cat]) rfl ?_
  refine R.aload_n dJ7_copyOf_9075b_18 rfl (by first | rfl | exact rfv_rf _) ?_
  refine R.iconst (v := 0) dJ7_copyOf_9075b_19 rfl ?_
  refine R.aload_n dJ7_copyOf_9075b_20 rfl (by first | rfl | exact rfv_rf _) ?_
  refine R.iconst (v := 0) dJ7_copyOf_9075b_21 rfl ?_
  refine R.aload_n dJ7_copyOf_9075b_22 rfl (by first | rfl | exact rfv_rf _) ?_
  refine R.alenS (k := 13) (i := v) (n := n) (by show (if 13 = 13 ∧ v = mC M 13 then c9 else mN M 13 v) = n; rw [if_neg (by omega)]; exact a4) (by decide) (by decide) dJ7_copyOf_9075b_23 ?_
  refine R.iload_n dJ7_copyOf_9075b_24 rfl ?_
  refine cl_J7_304 rfl rfl (by first | exact Nat.le_of_ble_eq_true rfl | simp [rf_cat, Value.category]) dJ7_copyOf_9075b_25 ?_
  refine s_min ?_
  rw [show fmin (nI n) (nI c9) = nI n by unfold fmin; rw [if_neg (nI_nlt hn (by omega))]]
  refine R.acopy (N := n) dJ7_copyOf_9075b_28 (gt_i 1367 (by decide +kernel) rfl) rfl (by omega) ?_ ?_ ?_ (by omega) (by first | exact Nat.le_of_ble_eq_true rfl | simp [rf_cat, Value.category]) ?_
  · show n ≤ (if 13 = 13 ∧ v = mC M 13 then c9 else mN M 13 v)
    rw [if_neg (by omega), a4]; exact Nat.le_refl _
  · show n ≤ (if 13 = 13 ∧ mC M 13 = mC M 13 then c9 else mN M 13 (mC M 13))
    rw [if_pos ⟨rfl, rfl⟩]; omega
  · intro j hj
    rw [show mI (al M 13 c9 c9) 13 v j = mI M 13 v j by show up2 M.1 13 (mC M 13) 0 13 v j = _; unfold up2; rw [if_neg (by omega)]; rfl]
    exact hf j hj
  refine R.aload_n dJ7_copyOf_9075b_31 rfl (by first | rfl | exact rfv_rf _) ?_
  refine WP.ret (ov := some (.ref _)) dJ7_copyOf_9075b_32 ⟨rfl, _, rfl, Or.inr ⟨_, rfl⟩⟩ ?_
  exact hq
/-- the builder behind its growth -/
theorem Sb.grow {M : Mem} {cap c9 v : Nat} {O : List Int32} (h : Sb M cap O) (a1 : mR M 12 0 0 = some (rf 13 v)) (hv : 0 < v) (hvC : v < mC M 13) (a4 : mN M 13 v = cap) (hc : 2 * cap + 2 ≤ c9) (hc7 : c9 ≤ 600) : Sb (sR (cpA (al M 13 c9 c9) v (mC M 13) cap) 12 0 0 (some (rf 13 (mC M 13)))) c9 O ∧ FrS M (sR (cpA (al M 13 c9 c9) v (mC M 13) cap) 12 0 0 (some (rf 13 (mC M 13)))) ∧ Gw M (sR (cpA (al M 13 c9 c9) v (mC M 13) cap) 12 0 0 (some (rf 13 (mC M 13)))) cap c9 := by
  obtain ⟨⟨v', a1', a2, a3, a4', a5, a6⟩, b1, b2, b3, b4⟩ := h
  have ev : v' = v := (rf_inj (by decide) (by decide) (Option.some.inj (a1'.symm.trans a1))).2
  subst ev
  have eI : ∀ k i f, ¬ (k = 13 ∧ i = mC M 13) → mI (al M 13 c9 c9) k i f = mI M k i f := by
    intro k i f hn
    show up2 M.1 13 (mC M 13) 0 k i f = _
    unfold up2
    rw [if_neg hn]; rfl
  have eZ : ∀ f, mI (al M 13 c9 c9) 13 (mC M 13) f = 0 := by
    intro f
    show up2 M.1 13 (mC M 13) 0 13 (mC M 13) f = _
    unfold up2
    rw [if_pos ⟨rfl, rfl⟩]
  have eC : ∀ k i f, mI (sR (cpA (al M 13 c9 c9) v' (mC M 13) cap) 12 0 0 (some (rf 13 (mC M 13)))) k i f = if k = 13 ∧ i = mC M 13 ∧ f < cap then mI M 13 v' f else mI (al M 13 c9 c9) k i f := by
    intro k i f
    rw [mI_sR, mI_cpA, eI 13 v' f (by omega)]
  refine ⟨⟨⟨mC M 13, ?_, by omega, ?_, ?_, fun i x hx => ?_, fun j hj => ?_⟩, ?_, ?_, by omega, by omega⟩, ⟨fun k i h1 h2 => ?_, fun k hk => ?_, ?_⟩, by omega, ?_, ?_⟩
  · rw [mR_sR, if_pos ⟨rfl, rfl, rfl⟩]
  · show mC M 13 < (if 13 = 13 then mC M 13 + 1 else mC M 13)
    rw [if_pos rfl]; omega
  · show (if 13 = 13 ∧ mC M 13 = mC M 13 then c9 else _) = c9
    rw [if_pos ⟨rfl, rfl⟩]
  · have hi : i < O.length := (List.getElem?_eq_some_iff.mp hx).1
    rw [eC, if_pos ⟨rfl, rfl, by omega⟩]
    exact a5 i x hx
  · rw [eC]
    by_cases z : j < cap
    · rw [if_pos ⟨rfl, rfl, z⟩]; exact a6 j z
    · rw [if_neg (fun w => z w.2.2), eZ]; decide
  · rw [eC, if_neg (by omega), eI _ _ _ (by omega)]; exact b1
  · rw [eC, if_neg (by omega), eI _ _ _ (by omega)]; exact b2
  · have hne : ¬ (k = 13 ∧ i = mC M 13) := fun z => by have := h2 z.1; omega
    refine ⟨?_, ?_, ?_, ?_, ?_⟩
    · funext f
      rw [eC, if_neg (fun z => hne ⟨z.1, z.2.1⟩), eI _ _ _ hne]
    · show up2 M.2.1 13 (mC M 13) 0 k i = _
      unfold up2
      funext f
      rw [if_neg hne]; rfl
    · rw [show mR (sR (cpA (al M 13 c9 c9) v' (mC M 13) cap) 12 0 0 (some (rf 13 (mC M 13)))) k i = mR (al M 13 c9 c9) k i from up3_ne (fun z => h1 z.1)]
      show up2 M.2.2.1 13 (mC M 13) none k i = _
      unfold up2
      funext f
      rw [if_neg hne]; rfl
    · show up2 M.2.2.2.1 13 (mC M 13) 0 k i = _
      unfold up2
      funext f
      rw [if_neg hne]; rfl
    · show (if k = 13 ∧ i = mC M 13 then c9 else mN M k i) = _
      rw [if_neg hne]
  · show (if k = 13 then mC M 13 + 1 else mC M k) = _
    rw [if_neg hk]
  · show mC M 13 ≤ (if 13 = 13 then mC M 13 + 1 else mC M 13)
    rw [if_pos rfl]; omega
  · show mK M + 1 + cap ≤ mK M + c9
    omega
  · show mS M + c9 + 2 * cap ≤ mS M + 2 * c9
    omega
theorem sub_le0 {a b : Nat} (h : ¬ b < a) (hb : b < 2 ^ 31) : nI a - nI b ≤ 0 := by
  rw [Int32.le_iff_toInt_le, Int32.toInt_sub, nI_toInt (by omega), nI_toInt hb]
  rw [Int.bmod_eq_of_le (by omega) (by omega)]
  show _ ≤ (0 : Int); omega
theorem sub_nle0 {a b : Nat} (h : b < a) (ha : a < 2 ^ 31) : ¬ nI a - nI b ≤ 0 := by
  rw [nI_sub (by omega)]
  exact nI_nle (by omega) (by omega)
set_option maxHeartbeats 1000000 in
set_option maxRecDepth 4000 in
theorem s_sbEns {d : Nat} {cap : Nat} {O : List Int32} {q : Nat} {M : Mem} {Q : Out → Mem → Prop} (h : Sb M cap O) (hq9 : q ≤ 300) (hq : ∀ M' cap', Sb M' cap' O → q ≤ cap' → FrS M M' → Gw M M' cap cap' → Q (.inl none) M') : WPc (d + 4) mJ5_ensureCapacityInternal_d00df [.ref (rf 12 0), .int (nI q)] M Q := by
  refine WPc.of (by decide +kernel) (Nat.le_of_ble_eq_true rfl) rfl ?_
  obtain ⟨⟨v, a1, a2, a3, a4, a5, a6⟩, b1, b2, b3, b4⟩ := h
  have h : Sb M cap O := ⟨⟨v, a1, a2, a3, a4, a5, a6⟩, b1, b2, b3, b4⟩
  by_cases z : cap < q
  · skip
    refine R.aload_n dJ5_ensureCapacityInternal_d00df_0 rfl (by first | rfl | exact rfv_rf _) ?_
    refine R.getS (a1) dJ5_ensureCapacityInternal_d00df_1 fl_J5_15 (by decide) rfl ?_
    refine R.alenS a4 (by decide) (by decide) dJ5_ensureCapacityInternal_d00df_4 ?_
    refine R.aload_n dJ5_ensureCapacityInternal_d00df_5 rfl (by first | rfl | exact rfv_rf _) ?_
    refine R.getI dJ5_ensureCapacityInternal_d00df_6 fl_J5_22 (by decide) rfl ?_
    rw [b1]
    refine R.ishr dJ5_ensureCapacityInternal_d00df_9 ?_
    rw [nI_shr0]
    refine R.istore_n dJ5_ensureCapacityInternal_d00df_10 (Nat.le_of_ble_eq_true rfl) (by decide) (by first | rfl | simp [lft, rf_cat]) rfl ?_
    refine R.iload_n dJ5_ensureCapacityInternal_d00df_11 rfl ?_
    refine R.iload_n dJ5_ensureCapacityInternal_d00df_12 rfl ?_
    refine R.isub dJ5_ensureCapacityInternal_d00df_13 ?_
    refine R.if_le (tgt := 38) dJ5_ensureCapacityInternal_d00df_14 (by decide) (fun c => absurd c (sub_nle0 z (by omega))) (fun _ => ?_)
    refine R.aload_n dJ5_ensureCapacityInternal_d00df_17 rfl (by first | rfl | exact rfv_rf _) ?_
    refine R.aload_n dJ5_ensureCapacityInternal_d00df_18 rfl (by first | rfl | exact rfv_rf _) ?_
    refine R.getS (a1) dJ5_ensureCapacityInternal_d00df_19 fl_J5_15 (by decide) rfl ?_
    refine R.aload_n dJ5_ensureCapacityInternal_d00df_22 rfl (by first | rfl | exact rfv_rf _) ?_
    refine R.iload_n dJ5_ensureCapacityInternal_d00df_23 rfl ?_
    refine cl_J5_104 rfl rfl (by first | exact Nat.le_of_ble_eq_true rfl | simp [rf_cat, Value.category]) dJ5_ensureCapacityInternal_d00df_24 ?_
    refine s_sbCap h (by omega) hq9 ?_
    refine R.aload_n dJ5_ensureCapacityInternal_d00df_27 rfl (by first | rfl | exact rfv_rf _) ?_
    refine R.getI dJ5_ensureCapacityInternal_d00df_28 fl_J5_22 (by decide) rfl ?_
    rw [b1]
    refine R.ishl dJ5_ensureCapacityInternal_d00df_31 ?_
    rw [nI_shl0]
    refine cl_J5_108 rfl rfl (by first | exact Nat.le_of_ble_eq_true rfl | simp [rf_cat, Value.category]) dJ5_ensureCapacityInternal_d00df_32 ?_
    refine s_copyB a3 a4 (by omega) (by omega) (by omega) a6 ?_
    refine R.putA dJ5_ensureCapacityInternal_d00df_35 fl_J5_15 (fun q hq => by cases hq; exact Or.inl rfl) rfl ?_
    refine WP.ret (ov := none) dJ5_ensureCapacityInternal_d00df_38 ⟨rfl, rfl⟩ ?_
    obtain ⟨g1, g2, g3⟩ := h.grow (c9 := max q (2 * cap + 2)) a1 a2 a3 a4 (by omega) (by omega)
    exact hq _ _ g1 (by omega) g2 g3
  · skip
    refine R.aload_n dJ5_ensureCapacityInternal_d00df_0 rfl (by first | rfl | exact rfv_rf _) ?_
    refine R.getS (a1) dJ5_ensureCapacityInternal_d00df_1 fl_J5_15 (by decide) rfl ?_
    refine R.alenS a4 (by decide) (by decide) dJ5_ensureCapacityInternal_d00df_4 ?_
    refine R.aload_n dJ5_ensureCapacityInternal_d00df_5 rfl (by first | rfl | exact rfv_rf _) ?_
    refine R.getI dJ5_ensureCapacityInternal_d00df_6 fl_J5_22 (by decide) rfl ?_
    rw [b1]
    refine R.ishr dJ5_ensureCapacityInternal_d00df_9 ?_
    rw [nI_shr0]
    refine R.istore_n dJ5_ensureCapacityInternal_d00df_10 (Nat.le_of_ble_eq_true rfl) (by decide) (by first | rfl | simp [lft, rf_cat]) rfl ?_
    refine R.iload_n dJ5_ensureCapacityInternal_d00df_11 rfl ?_
    refine R.iload_n dJ5_ensureCapacityInternal_d00df_12 rfl ?_
    refine R.isub dJ5_ensureCapacityInternal_d00df_13 ?_
    refine R.if_le (tgt := 38) dJ5_ensureCapacityInternal_d00df_14 (by decide) (fun _ => ?_) (fun c => absurd (sub_le0 z (by omega)) c)
    refine WP.ret (ov := none) dJ5_ensureCapacityInternal_d00df_38 ⟨rfl, rfl⟩ ?_
    exact hq M cap h (by omega) (FrS.rf _) (Gw.rf _ _)
set_option maxHeartbeats 1000000 in
set_option maxRecDepth 4000 in
theorem s_sbC5 {d : Nat} {cap : Nat} {O : List Int32} {k : Nat} {M : Mem} {Q : Out → Mem → Prop} (h : Sb M cap O) (hk : k < 128) (hl : O.length + 1 ≤ 300) (hq : ∀ M' cap', Sb M' cap' (O ++ [nI k]) → FrS M M' → Gw M M' cap cap' → Q (.inl (some (.ref (rf 12 0)))) M') : WPc (d + 5) mJ5_append_3fe6f [.ref (rf 12 0), .int (nI k)] M Q := by
  refine WPc.of (by decide +kernel) (Nat.le_of_ble_eq_true rfl) rfl ?_
  refine R.aload_n dJ5_append_3fe6f_0 rfl (by first | rfl | exact rfv_rf _) ?_
  refine R.aload_n dJ5_append_3fe6f_1 rfl (by first | rfl | exact rfv_rf _) ?_
  refine R.getI dJ5_append_3fe6f_2 fl_J5_79 (by decide) rfl ?_
  rw [h.2.2.1]
  refine R.iconst (v := 1) dJ5_append_3fe6f_5 rfl ?_
  refine R.iadd dJ5_append_3fe6f_6 ?_
  rw [nI_1]
  refine cl_J5_100 rfl rfl (by first | exact Nat.le_of_ble_eq_true rfl | simp [rf_cat, Value.category]) dJ5_append_3fe6f_7 ?_
  refine s_sbEns h (by omega) (fun M1 cap' h1 hc1 F1 G1 => ?_)
  refine R.aload_n dJ5_append_3fe6f_10 rfl (by first | rfl | exact rfv_rf _) ?_
  refine cl_J5_83 rfl rfl (by first | exact Nat.le_of_ble_eq_true rfl | simp [rf_cat, Value.category]) dJ5_append_3fe6f_11 ?_
  refine s_sbLat h1 ?_
  obtain ⟨⟨v, a1, a2, a3, a4, a5, a6⟩, b1, b2, b3, b4⟩ := h1
  refine R.if_eq (tgt := 45) dJ5_append_3fe6f_14 (by decide) (fun c => absurd c (by decide)) (fun _ => ?_)
  refine R.iload_n dJ5_append_3fe6f_17 rfl ?_
  refine cl_J5_191 rfl rfl (by first | exact Nat.le_of_ble_eq_true rfl | simp [rf_cat, Value.category]) dJ5_append_3fe6f_18 ?_
  refine s_sbEnc hk ?_
  refine R.if_eq (tgt := 45) dJ5_append_3fe6f_21 (by decide) (fun c => absurd c (by decide)) (fun _ => ?_)
  refine R.aload_n dJ5_append_3fe6f_24 rfl (by first | rfl | exact rfv_rf _) ?_
  refine R.getS (a1) dJ5_append_3fe6f_25 fl_J5_15 (by decide) rfl ?_
  refine R.aload_n dJ5_append_3fe6f_28 rfl (by first | rfl | exact rfv_rf _) ?_
  refine R.dup dJ5_append_3fe6f_29 (by first | rfl | exact rf_cat _) ?_
  refine R.getI dJ5_append_3fe6f_30 fl_J5_79 (by decide) rfl ?_
  rw [b2]
  refine R.dup_x1 dJ5_append_3fe6f_33 rfl rfl ?_
  refine R.iconst (v := 1) dJ5_append_3fe6f_34 rfl ?_
  refine R.iadd dJ5_append_3fe6f_35 ?_
  rw [nI_1]
  refine R.putI dJ5_append_3fe6f_36 fl_J5_79 (fun q hq => by cases hq; exact Or.inl rfl) (by decide) rfl rfl rfl ?_
  refine R.iload_n dJ5_append_3fe6f_39 rfl ?_
  refine R.i2b dJ5_append_3fe6f_40 ?_
  rw [i2b_k hk]
  refine R.bast dJ5_append_3fe6f_41 (nI_pos (by omega)) (by rw [nI_clamp (by omega)]; show O.length < mN M1 13 v; rw [a4]; omega) ?_
  rw [nI_clamp (by omega), vp_byte hk]
  refine R.goto (tgt := 75) dJ5_append_3fe6f_42 (by decide) ?_
  refine R.aload_n dJ5_append_3fe6f_75 rfl (by first | rfl | exact rfv_rf _) ?_
  refine WP.ret (ov := some (.ref _)) dJ5_append_3fe6f_76 ⟨rfl, _, rfl, Or.inl ⟨_, rfl⟩⟩ ?_
  refine hq _ cap' ?_ ((F1.s12).s13 a2) ?_
  · refine ⟨⟨v, a1, a2, a3, a4, fun i x hx => ?_, fun j hj => ?_⟩, ?_, ?_, by simp; omega, b4⟩
    · rw [mI_sI]
      rw [List.getElem?_append] at hx
      by_cases z : i < O.length
      · rw [if_pos z] at hx
        rw [if_neg (by omega), mI_sI, if_neg (by omega)]
        exact a5 i x hx
      · rw [if_neg z] at hx
        have hi : i = O.length := by
          by_cases w : i - O.length = 0
          · omega
          · obtain ⟨k9, hk9⟩ : ∃ k9, i - O.length = k9 + 1 := ⟨i - O.length - 1, by omega⟩
            rw [hk9] at hx; simp at hx
        rw [if_pos ⟨rfl, rfl, hi⟩]
        rw [hi] at hx
        simpa using hx
    · rw [mI_sI]
      split
      · exact fit_byte hk
      · rw [mI_sI, if_neg (by omega)]; exact a6 j hj
    · rw [mI_sI, if_neg (by omega), mI_sI, if_neg (by omega)]; exact b1
    · rw [mI_sI, if_neg (by omega), mI_sI, if_pos ⟨rfl, rfl, rfl⟩]; simp
  · exact G1
set_option maxHeartbeats 1000000 in
set_option maxRecDepth 4000 in
theorem s_sbC {d : Nat} {cap : Nat} {O : List Int32} {k : Nat} {M : Mem} {Q : Out → Mem → Prop} (h : Sb M cap O) (hk : k < 128) (hl : O.length + 1 ≤ 300) (hq : ∀ M' cap', Sb M' cap' (O ++ [nI k]) → FrS M M' → Gw M M' cap cap' → Q (.inl (some (.ref (rf 12 0)))) M') : WPc (d + 6) mJ4_append_cf468 [.ref (rf 12 0), .int (nI k)] M Q := by
  refine WPc.of (by decide +kernel) (Nat.le_of_ble_eq_true rfl) rfl ?_
  refine R.aload_n dJ4_append_cf468_0 rfl (by first | rfl | exact rfv_rf _) ?_
  refine R.iload_n dJ4_append_cf468_1 rfl ?_
  refine cl_J4_50 rfl rfl (by first | exact Nat.le_of_ble_eq_true rfl | simp [rf_cat, Value.category]) dJ4_append_cf468_2 ?_
  refine s_sbC5 h hk hl (fun M1 c1 h1 F1 G1 => ?_)
  refine R.pop dJ4_append_cf468_5 (by first | rfl | exact rf_cat _) ?_
  refine R.aload_n dJ4_append_cf468_6 rfl (by first | rfl | exact rfv_rf _) ?_
  refine WP.ret (ov := some (.ref _)) dJ4_append_cf468_7 ⟨rfl, _, rfl, Or.inl ⟨_, rfl⟩⟩ ?_
  exact hq _ _ h1 F1 G1