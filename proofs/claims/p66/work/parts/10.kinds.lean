/-! the kinds of calls -/
theorem gt_good {w : Cond} (h : w ∈ gtbl) : w ∈ gtbl ∧ ((w.onTables && w.keeps) = true ∨ ∃ ty, w = .arrayClass ty) := ⟨h, good_of_word (List.mem_filter.mp h).2⟩
theorem gt_of {w : Cond} (h : w ∈ lw_tbl) (hg : goodWord w = true) : w ∈ gtbl := List.mem_filter.mpr ⟨h, hg⟩
/-- the receiver lies in the heap, of the class C -/
def RcvOk (M : Mem) (C : String) (a : Nat) : Prop := ∀ (s : State) (D : va_G) (cA : Nat → ClassId) (A : Nat → Prop) (φ : Nat → Nat) (H : Heap) (locs : List Loc), Kn D cA s → Iv s D cA A φ M H locs → VA M a → ∃ (b : Addr) (cellB : Cell), cv φ (.ref a) = .ref b ∧ H[b]? = some cellB ∧ cellB.vm.isStatics = false ∧ s.vm.findClass C = some cellB.cls
theorem rcv_own {M : Mem} {C : String} {T : u_T} {N k i : Nat} (h : kq k = some (C, T, N)) : RcvOk M C (rf k i) := by
  intro s D cA A φ H locs hK hiv hv
  have hk := kq_lt h
  have hi : i < mC M k := by
    have := hv (by rw [kd_rf k i (by omega)]; omega)
    rwa [kd_rf k i (by omega), ix_rf k i (by omega)] at this
  obtain ⟨cell, h1, h2, h3, -⟩ := hiv.1.1 k i _ h hi
  exact ⟨_, cell, cv_rg (by omega), h1, by rw [h3]; rfl, by rw [h2]; exact (hK.1.1 _ _ h).2.1⟩
theorem rcv_str {M : Mem} {i : Nat} (h : i < 23) : RcvOk M "java/lang/String" (rf 21 i) := by
  intro s D cA A φ H locs hK hiv hv
  obtain ⟨-, -, i3, i4⟩ := hiv
  have hq : ∃ q, sTab[i]? = some q := ⟨_, List.getElem?_eq_getElem (show i < sTab.length from h)⟩
  obtain ⟨q, hq⟩ := hq
  obtain ⟨cell, h1, h2, h3, -⟩ := ((i4.1 i q hq).1.1).kept i3.2.1
  exact ⟨_, cell, cv_rf (by omega), h1, h2, h3⟩
theorem cat_map {φ : Nat → Nat} {l : List Value} (h : (l.map fun v => v.category).sum ≤ 8) : ((l.map (cv φ)).map fun v => v.category).sum ≤ 8 := by
  have e : (l.map (cv φ)).map (fun v => v.category) = l.map fun v => v.category := by
    rw [List.map_map]
    exact List.map_congr_left fun v _ => cv_cat φ v
  rw [e]; exact h
/-- what every call asks of its callee -/
def CalOk (y : MRec) (n : Nat) : Prop := y.2.2.2.2 = [] ∧ Cond.code y.1 y.2.1 y.2.2.1 y.2.2.2.1 ∈ gtbl ∧ (Cond.initialized y.1.cls) ∈ gtbl ∧ (y.1.cls ≠ "java/lang/invoke/MethodHandle" ∧ y.1.cls ≠ "java/lang/invoke/VarHandle" ∧ (parseMethodDescriptor y.1.desc).map (fun d => d.parameters.length) = some n) ∧ y.2.2.1 ≤ 22
theorem wc_code {y : MRec} (h : y.2.2.2.2 = []) : wcode y = Cond.code y.1 y.2.1 y.2.2.1 y.2.2.2.1 := by unfold wcode; rw [if_pos h]
theorem good_cal {y : MRec} {n : Nat} (h : CalOk y n) : GoodIn gtbl (wcode y :: gtbl) := by
  intro w hw
  rcases List.mem_cons.mp hw with rfl | hw
  · rw [wc_code h.1]; exact gt_good h.2.1
  · exact gt_good hw
theorem rev_map {φ : Nat → Nat} (args rest : List Value) : (args.reverse ++ rest).map (cv φ) = (args.map (cv φ)).reverse ++ rest.map (cv φ) := by simp
theorem CallK.V {m : MRec} {d : Nat} {y : MRec} {pc n a idx : Nat} {args rest : List Value} {M : Mem} (hc : CalOk y n) (hl : Cond.methodLink m.1.cls idx y.1 ∈ gtbl) (hi : Cond.instanceMethod y.1 ∈ gtbl) (hs : Cond.selects y.1.cls y.1 y.1 ∈ gtbl) (hrc : RcvOk M y.1.cls a) (hn : args.length = n) (hr : (rest.map fun v => v.category).sum ≤ 8) (hd : decode m.2.1 pc = .ok (.invokevirtual idx, 3)) : CallK m d y pc (args.reverse ++ .ref a :: rest) rest (.ref a :: args) M := by
  intro p l e R s mid args0 below meth c D cA A hcx φ H locs cells slots lsA hiv hsz hst Pc Qc XC mc ms free hM hbl hpc hcs
  obtain ⟨hx, hb, hml, hlk, hown, hts, htr, hin, hK, hd1, hd2, hA, hex⟩ := hcx
  obtain ⟨b, cellB, eb, hcB, hoB, hclB⟩ := hrc s D cA A φ H locs hK hiv (hst (.ref a) (by simp) a rfl)
  have hG : GoodIn gtbl (wsV m.1.cls idx y.1.cls y.1 (wcode y :: gtbl)) := by
    intro w hw
    unfold wsV at hw
    rcases List.mem_append.mp hw with hw | hw
    · simp only [List.mem_cons, List.mem_nil_iff, or_false] at hw
      rcases hw with rfl | rfl | rfl | rfl
      · exact gt_good hl
      · exact gt_good hi
      · exact gt_good hs
      · exact gt_good hc.2.2.1
    · exact good_cal hc w hw
  rw [rev_map, List.map_cons, List.map_cons, eb]
  exact vx_runV (As := args.map (cv φ)) (rest := rest.map (cv φ)) (b := b) (C := y.1.cls) (bytes := y.2.1) (maxL := y.2.2.1) (ret := y.2.2.2.1) (g := F0 mid pc lsA ((args.map (cv φ)).reverse ++ Value.ref b :: rest.map (cv φ))) (H := H) (locs := locs) (cells := cells) (slots := slots) ⟨hx, hb, hml, hown, hts⟩ hM (cwV n hts hG (by rw [wc_code hc.1]) rfl rfl ⟨rfl, hc.2.2.2.1⟩ ⟨hd1, by have := hc.2.2.2.2; show 8 + (y.2.2.1 + 11) + 41 * d ≤ R.locals; omega⟩)
    ⟨hbl, ⟨cellB, hcB, hoB, hclB⟩, by rw [List.map_cons, eb] at hpc; exact hpc⟩ rfl (by rw [List.length_map]; exact hn) hsz rfl (lv_room (cat_map hr)) hd hcs
theorem CallK.S {m : MRec} {d : Nat} {y : MRec} {pc n idx : Nat} {args rest : List Value} {M : Mem} (hc : CalOk y n) (hl : Cond.methodLink m.1.cls idx y.1 ∈ gtbl) (hs : Cond.static y.1 ∈ gtbl) (hn : args.length = n) (hr : (rest.map fun v => v.category).sum ≤ 8) (hd : decode m.2.1 pc = .ok (.invokestatic idx, 3)) : CallK m d y pc (args.reverse ++ rest) rest args M := by
  intro p l e R s mid args0 below meth c D cA A hcx φ H locs cells slots lsA hiv hsz hst Pc Qc XC mc ms free hM hbl hpc hcs
  obtain ⟨hx, hb, hml, hlk, hown, hts, htr, hin, hK, hd1, hd2, hA, hex⟩ := hcx
  have hG : GoodIn gtbl (va_wsS m.1.cls idx y.1 (wcode y :: gtbl)) := by
    intro w hw
    unfold va_wsS at hw
    rcases List.mem_append.mp hw with hw | hw
    · simp only [List.mem_cons, List.mem_nil_iff, or_false] at hw
      rcases hw with rfl | rfl | rfl
      · exact gt_good hl
      · exact gt_good hs
      · exact gt_good hc.2.2.1
    · exact good_cal hc w hw
  rw [rev_map]
  exact vx_runS (As := args.map (cv φ)) (rest := rest.map (cv φ)) (bytes := y.2.1) (maxL := y.2.2.1) (ret := y.2.2.2.1) (g := F0 mid pc lsA ((args.map (cv φ)).reverse ++ rest.map (cv φ))) (H := H) (locs := locs) (cells := cells) (slots := slots) ⟨hx, hb, hml, hown, hts⟩ hM (va_cwS n hts hG (by rw [wc_code hc.1]) rfl rfl hc.2.2.2.1 ⟨hd1, by have := hc.2.2.2.2; show 8 + (y.2.2.1 + 11) + 41 * d ≤ R.locals; omega⟩)
    ⟨hbl, hpc⟩ rfl (by rw [List.length_map]; exact hn) hsz rfl (lv_room (cat_map hr)) hd hcs
theorem CallK.I {m : MRec} {d : Nat} {y : MRec} {pc n k i idx : Nat} {args rest : List Value} {M : Mem} (hk : k < 64 ∧ k ≠ 29) (hc : CalOk y n) (hl : Cond.methodLink m.1.cls idx y.1 ∈ gtbl) (hi : Cond.instanceMethod y.1 ∈ gtbl) (hnm : y.1.name = "<init>") (hrt : y.2.2.2.1 = none) (hn : args.length = n) (hr : (rest.map fun v => v.category).sum ≤ 8) (hd : decode m.2.1 pc = .ok (.invokespecial idx, 3)) : CallK m d y pc (args.reverse ++ .ref (rf k i) :: rest) rest (.ref (rf k i) :: args) M := by
  intro p l e R s mid args0 below meth c D cA A hcx φ H locs cells slots lsA hiv hsz hst Pc Qc XC mc ms free hM hbl hpc hcs
  obtain ⟨hx, hb, hml, hlk, hown, hts, htr, hin, hK, hd1, hd2, hA, hex⟩ := hcx
  have eb : cv φ (.ref (rf k i)) = .ref (φ (rf k i)) := cv_rg hk
  rw [rev_map, List.map_cons, List.map_cons, eb]
  exact vx_runI (As := args.map (cv φ)) (rest := rest.map (cv φ)) (b := φ (rf k i)) (bytes := y.2.1) (maxL := y.2.2.1) (g := F0 mid pc lsA ((args.map (cv φ)).reverse ++ Value.ref (φ (rf k i)) :: rest.map (cv φ))) (H := H) (locs := locs) (cells := cells) (slots := slots) ⟨hx, hb, hml, hown, hts⟩ hM (cwI n hts (good_cal hc) (by rw [wc_code hc.1, hrt]) rfl rfl (hts _ hc.2.2.1) (hts _ hl) (hts _ hi) hnm hc.2.2.2.1 ⟨hd1, by have := hc.2.2.2.2; show 8 + (y.2.2.1 + 11) + 41 * d ≤ R.locals; omega⟩)
    ⟨hbl, by rw [List.map_cons, eb] at hpc; exact hpc⟩ rfl (by rw [List.length_map]; exact hn) hsz rfl (lv_room (cat_map hr)) hd hcs
theorem CallK.IN {m : MRec} {d : Nat} {y : MRec} {pc n k i idx : Nat} {host : String} {args rest : List Value} {M : Mem} (hk : k < 64 ∧ k ≠ 29) (hc : CalOk y n) (hl : Cond.methodLinkNest m.1.cls idx y.1 host ∈ nestW) (hi : Cond.instanceMethod y.1 ∈ gtbl) (hnm : y.1.name = "<init>") (hrt : y.2.2.2.1 = none) (hn : args.length = n) (hr : (rest.map fun v => v.category).sum ≤ 8) (hd : decode m.2.1 pc = .ok (.invokespecial idx, 3)) : CallK m d y pc (args.reverse ++ .ref (rf k i) :: rest) rest (.ref (rf k i) :: args) M := by
  intro p l e R s mid args0 below meth c D cA A hcx φ H locs cells slots lsA hiv hsz hst Pc Qc XC mc ms free hM hbl hpc hcs
  obtain ⟨hx, hb, hml, hlk, hown, hts, htr, hin, hK, hd1, hd2, hA, hex⟩ := hcx
  have eb : cv φ (.ref (rf k i)) = .ref (φ (rf k i)) := cv_rg hk
  rw [rev_map, List.map_cons, List.map_cons, eb]
  exact vx_runIN (As := args.map (cv φ)) (rest := rest.map (cv φ)) (b := φ (rf k i)) (bytes := y.2.1) (maxL := y.2.2.1) (host := host) (g := F0 mid pc lsA ((args.map (cv φ)).reverse ++ Value.ref (φ (rf k i)) :: rest.map (cv φ))) (H := H) (locs := locs) (cells := cells) (slots := slots) ⟨hx, hb, hml, hown, hts⟩ hM ⟨va_cnB n hts (good_cal hc) (by rw [wc_code hc.1, hrt]) rfl rfl (hK.2.1 _ hl) (hts _ hc.2.2.1) hc.2.2.2.1 ⟨hd1, by have := hc.2.2.2.2; show 8 + (y.2.2.1 + 11) + 41 * d ≤ R.locals; omega⟩, hnm, hts _ hi⟩
    ⟨hbl, by rw [List.map_cons, eb] at hpc; exact hpc⟩ rfl (by rw [List.length_map]; exact hn) hsz rfl (lv_room (cat_map hr)) hd hcs
