/-! rows that read what never changes -/
section CW
variable {m : MRec} {d pc : Nat} {ls st : List Value} {M : Mem} {Q : Out → Mem → Prop}
theorem VA_c {M : Mem} {k i : Nat} (h : 21 ≤ k ∧ k < 32) : VA M (rf k i) := by
  intro h3
  rw [kd_rf k i (by omega)] at h3
  omega
theorem VOk_c {M : Mem} {k i : Nat} (h : 21 ≤ k ∧ k < 32) : VOk M (.ref (rf k i)) := by
  intro a ha
  cases ha
  exact VA_c h
theorem str_at {i : Nat} (h : i < 23) {φ : Nat → Nat} {A : Nat → Prop} {U : State} {H : Heap} {L : Nat} {X : Nat → Int32} (hC : Cst φ A U H L X) : ∃ q, sTab[i]? = some q ∧ Str1 q.1 q.2.1 q.2.2 i φ A U H := by
  have hq : sTab[i]? = some (sTab[i]'(show i < sTab.length from h)) := List.getElem?_eq_getElem (show i < sTab.length from h)
  exact ⟨_, hq, hC.1 i _ hq⟩
theorem R.ldcS {idx i : Nat} {tx : String} (hq : sTab[i]? = some (m.1.cls, idx, tx)) (hd : decode m.2.1 pc = .ok (.ldc idx, 2)) (kn9 : WP m d (pc + 2) ls (.ref (rf 21 i) :: st) M Q) : WP m d pc ls st M Q :=
  WP.pure kn9 (fun _ hl hs => ⟨hl, ok_c (VOk_c (by omega)) hs⟩) (fun p l e R s mid args below meth c D cA A Qg hc φ H locs cells slots lsA hiv hlv hls hst kk => by
    have k1 := kk lsA hlv
    rw [List.map_cons, cv_rg (by omega)] at k1
    exact va_ldcS hc.1 hc.2.1 hc.2.2.2.2.1 (hiv.2.2.2.1 i _ hq).2 hd k1)
theorem R.ldcwS {idx i : Nat} {tx : String} (hq : sTab[i]? = some (m.1.cls, idx, tx)) (hd : decode m.2.1 pc = .ok (.ldc_w idx, 3)) (kn9 : WP m d (pc + 3) ls (.ref (rf 21 i) :: st) M Q) : WP m d pc ls st M Q :=
  WP.pure kn9 (fun _ hl hs => ⟨hl, ok_c (VOk_c (by omega)) hs⟩) (fun p l e R s mid args below meth c D cA A Qg hc φ H locs cells slots lsA hiv hlv hls hst kk => by
    have k1 := kk lsA hlv
    rw [List.map_cons, cv_rg (by omega)] at k1
    have hZ := (hiv.2.2.2.1 i _ hq).2
    intro T hT X
    obtain ⟨t, a1, b1⟩ := k1 T hT X
    exact ⟨t, X.ldcStringW hc.1 hc.2.2.2.2.1 (text := tx) (a := φ (rf 21 i)) hZ.1 hZ.2 (g := F0 mid pc lsA (st.map (cv φ))) rfl (by rw [hc.2.1]; exact hd) t a1, b1⟩)
theorem R.strValue {idx i : Nat} (hi : i < 23) (hw : Cond.fieldLink m.1.cls idx "java/lang/String" "value" "[B" ∈ gtbl) (hd : decode m.2.1 pc = .ok (.getfield idx, 3)) (kn9 : WP m d (pc + 3) ls (.ref (rf 23 i) :: st) M Q) : WP m d pc ls (.ref (rf 21 i) :: st) M Q :=
  WP.pure kn9 (fun _ hl hs => ⟨hl, ok_c (VOk_c (by omega)) (ok_t hs)⟩) (fun p l e R s mid args below meth c D cA A Qg hc φ H locs cells slots lsA hiv hlv hls hst kk => by
    have k1 := kk lsA hlv
    rw [List.map_cons, cv_rg (by omega)] at k1
    rw [List.map_cons, cv_rg (by omega)]
    obtain ⟨q, -, h1⟩ := str_at hi hiv.2.2.2
    exact vk_getf hc.1 hc.2.1 h1.1.2.2.1 hiv.2.2.1 hc.2.2.2.2.1 (hc.2.2.2.2.2.1 _ hw) (fun _ h => h) hd k1)
theorem R.strCoder {idx i : Nat} (hi : i < 23) (hw : Cond.fieldLink m.1.cls idx "java/lang/String" "coder" "B" ∈ gtbl) (hd : decode m.2.1 pc = .ok (.getfield idx, 3)) (kn9 : WP m d (pc + 3) ls (.int 0 :: st) M Q) : WP m d pc ls (.ref (rf 21 i) :: st) M Q :=
  WP.pure kn9 (fun _ hl hs => ⟨hl, ok_c (VOk.int _ _) (ok_t hs)⟩) (fun p l e R s mid args below meth c D cA A Qg hc φ H locs cells slots lsA hiv hlv hls hst kk => by
    rw [List.map_cons, cv_rg (by omega)]
    obtain ⟨q, -, h1⟩ := str_at hi hiv.2.2.2
    exact vk_getf hc.1 hc.2.1 h1.1.2.1 hiv.2.2.1 hc.2.2.2.2.1 (hc.2.2.2.2.2.1 _ hw) (fun _ h => h) hd (kk lsA hlv))
theorem vpin_of {n : Nat} {x : Int32} (h0 : ¬ x < 0) (h1 : x.toNatClampNeg < n) : vp_in x n := by
  rintro (h | h)
  · exact h0 h
  · omega
theorem R.strBald {i : Nat} {x : Int32} (hi : i < 23) (hd : decode m.2.1 pc = .ok (.baload, 1)) (h0 : ¬ x < 0) (h1 : x.toNatClampNeg < sLn i) (kn9 : WP m d (pc + 1) ls (.int (sB i x.toNatClampNeg) :: st) M Q) : WP m d pc ls (.int x :: .ref (rf 23 i) :: st) M Q :=
  WP.pure kn9 (fun _ hl hs => ⟨hl, ok_c (VOk.int _ _) (ok_t (ok_t hs))⟩) (fun p l e R s mid args below meth c D cA A Qg hc φ H locs cells slots lsA hiv hlv hls hst kk => by
    rw [List.map_cons, List.map_cons, cv_rg (by omega)]
    obtain ⟨q, -, h2⟩ := str_at hi hiv.2.2.2
    exact va_tb hc.1 hc.2.1 h2.1.2.2.2 hiv.2.2.1 (vpin_of h0 h1) rfl hd (kk lsA hlv))
theorem R.strAlen {i : Nat} (hi : i < 23) (hd : decode m.2.1 pc = .ok (.arraylength, 1)) (kn9 : WP m d (pc + 1) ls (.int (nI (sLn i)) :: st) M Q) : WP m d pc ls (.ref (rf 23 i) :: st) M Q :=
  WP.pure kn9 (fun _ hl hs => ⟨hl, ok_c (VOk.int _ _) (ok_t hs)⟩) (fun p l e R s mid args below meth c D cA A Qg hc φ H locs cells slots lsA hiv hlv hls hst kk => by
    rw [List.map_cons, cv_rg (by omega)]
    obtain ⟨q, -, h2⟩ := str_at hi hiv.2.2.2
    exact va_tlen hc.1 hc.2.1 h2.1.2.2.2 hiv.2.2.1 rfl hd (kk lsA hlv))
theorem R.dgTald {x : Int32} (hd : decode m.2.1 pc = .ok (.baload, 1)) (h0 : ¬ x < 0) (h1 : x.toNatClampNeg < 100) (kn9 : WP m d (pc + 1) ls (.int (dgT x.toNatClampNeg) :: st) M Q) : WP m d pc ls (.int x :: .ref (rf 24 0) :: st) M Q :=
  WP.pure kn9 (fun _ hl hs => ⟨hl, ok_c (VOk.int _ _) (ok_t (ok_t hs))⟩) (fun p l e R s mid args below meth c D cA A Qg hc φ H locs cells slots lsA hiv hlv hls hst kk => by
    rw [List.map_cons, List.map_cons, cv_rg (by omega)]
    exact va_tb hc.1 hc.2.1 hiv.2.2.2.2.2.2.2.2.2.1.2 hiv.2.2.1 (vpin_of h0 h1) rfl hd (kk lsA hlv))
theorem R.dgOald {x : Int32} (hd : decode m.2.1 pc = .ok (.baload, 1)) (h0 : ¬ x < 0) (h1 : x.toNatClampNeg < 100) (kn9 : WP m d (pc + 1) ls (.int (dgO x.toNatClampNeg) :: st) M Q) : WP m d pc ls (.int x :: .ref (rf 24 1) :: st) M Q :=
  WP.pure kn9 (fun _ hl hs => ⟨hl, ok_c (VOk.int _ _) (ok_t (ok_t hs))⟩) (fun p l e R s mid args below meth c D cA A Qg hc φ H locs cells slots lsA hiv hlv hls hst kk => by
    rw [List.map_cons, List.map_cons, cv_rg (by omega)]
    exact va_tb hc.1 hc.2.1 hiv.2.2.2.2.2.2.2.2.2.2.1.2 hiv.2.2.1 (vpin_of h0 h1) rfl hd (kk lsA hlv))
theorem R.scrIald {x : Int32} (hd : decode m.2.1 pc = .ok (.iaload, 1)) (h0 : ¬ x < 0) (h1 : x.toNatClampNeg < mN M 27 0) (kn9 : WP m d (pc + 1) ls (.int (mI M 27 0 x.toNatClampNeg) :: st) M Q) : WP m d pc ls (.int x :: .ref (rf 27 0) :: st) M Q :=
  WP.pure kn9 (fun _ hl hs => ⟨hl, ok_c (VOk.int _ _) (ok_t (ok_t hs))⟩) (fun p l e R s mid args below meth c D cA A Qg hc φ H locs cells slots lsA hiv hlv hls hst kk => by
    rw [List.map_cons, List.map_cons, cv_rg (by omega)]
    obtain ⟨x1, x2, x3⟩ := hiv.2.2.2.2.2.2.2.2.2.2.2.2.2
    exact va_sld hc.1 hc.2.1 x1 x2 x3 hiv.2.2.1 (vpin_of h0 h1) hd (kk lsA hlv))
theorem R.scrAlen (hd : decode m.2.1 pc = .ok (.arraylength, 1)) (kn9 : WP m d (pc + 1) ls (.int (nI (mN M 27 0)) :: st) M Q) : WP m d pc ls (.ref (rf 27 0) :: st) M Q :=
  WP.pure kn9 (fun _ hl hs => ⟨hl, ok_c (VOk.int _ _) (ok_t hs)⟩) (fun p l e R s mid args below meth c D cA A Qg hc φ H locs cells slots lsA hiv hlv hls hst kk => by
    rw [List.map_cons, cv_rg (by omega)]
    obtain ⟨x1, x2, x3⟩ := hiv.2.2.2.2.2.2.2.2.2.2.2.2.2
    exact va_slen hc.1 hc.2.1 x1 x2 x3 hiv.2.2.1 hd (kk lsA hlv))
/-- statics -/
theorem gets_row {idx : Nat} {C n dsc ref : String} {v : Value} (hv : ∀ M' : Mem, VOk M' v) (hw : Cond.fieldLink m.1.cls idx ref n dsc ∈ gtbl) (hd : decode m.2.1 pc = .ok (.getstatic idx, 3)) (hrf : ref = C) (hZ : ∀ (φ : Nat → Nat) (A : Nat → Prop) (U : State) (H : Heap) (L : Nat) (X : Nat → Int32), Cst φ A U H L X → va_Z C n dsc (cv φ v) A U H) (kn9 : WP m d (pc + 3) ls (v :: st) M Q) : WP m d pc ls st M Q :=
  WP.pure kn9 (fun _ hl hs => ⟨hl, ok_c (hv M) hs⟩) (fun p l e R s mid args below meth c D cA A Qg hc φ H locs cells slots lsA hiv hlv hls hst kk =>
    va_gets hc.1 hc.2.1 (hZ φ A s s.heap _ _ hiv.2.2.2) hiv.2.2.1 hc.2.2.2.2.1 (hc.2.2.2.2.2.1 _ hw) (fun x h => by rw [hrf]; exact h) hd (kk lsA hlv))
theorem R.gsSpring {idx : Nat} (hw : Cond.fieldLink m.1.cls idx "CrateScale$Verb" "SPRING" "LCrateScale$Verb;" ∈ gtbl) (hd : decode m.2.1 pc = .ok (.getstatic idx, 3)) (kn9 : WP m d (pc + 3) ls (.ref (rf 22 5) :: st) M Q) : WP m d pc ls st M Q :=
  gets_row (fun _ => VOk_c (by omega)) hw hd rfl (fun φ A U H L X h => by rw [cv_rg (by omega)]; exact h.2.1) kn9
theorem R.gsCompact {idx : Nat} (hw : Cond.fieldLink m.1.cls idx "java/lang/String" "COMPACT_STRINGS" "Z" ∈ gtbl) (hd : decode m.2.1 pc = .ok (.getstatic idx, 3)) (kn9 : WP m d (pc + 3) ls (.int 1 :: st) M Q) : WP m d pc ls st M Q :=
  gets_row (fun _ => VOk.int _ _) hw hd rfl (fun φ A U H L X h => h.2.2.2.2.2.1) kn9
theorem R.gsTens {idx : Nat} (hw : Cond.fieldLink m.1.cls idx "java/lang/Integer" "DigitTens" "[B" ∈ gtbl) (hd : decode m.2.1 pc = .ok (.getstatic idx, 3)) (kn9 : WP m d (pc + 3) ls (.ref (rf 24 0) :: st) M Q) : WP m d pc ls st M Q :=
  gets_row (fun _ => VOk_c (by omega)) hw hd rfl (fun φ A U H L X h => by rw [cv_rg (by omega)]; exact h.2.2.2.2.2.2.1.1) kn9
theorem R.gsOnes {idx : Nat} (hw : Cond.fieldLink m.1.cls idx "java/lang/Integer" "DigitOnes" "[B" ∈ gtbl) (hd : decode m.2.1 pc = .ok (.getstatic idx, 3)) (kn9 : WP m d (pc + 3) ls (.ref (rf 24 1) :: st) M Q) : WP m d pc ls st M Q :=
  gets_row (fun _ => VOk_c (by omega)) hw hd rfl (fun φ A U H L X h => by rw [cv_rg (by omega)]; exact h.2.2.2.2.2.2.2.1.1) kn9
theorem R.gsHigh {idx : Nat} (hw : Cond.fieldLink m.1.cls idx "java/lang/Integer$IntegerCache" "high" "I" ∈ gtbl) (hd : decode m.2.1 pc = .ok (.getstatic idx, 3)) (kn9 : WP m d (pc + 3) ls (.int 127 :: st) M Q) : WP m d pc ls st M Q :=
  gets_row (fun _ => VOk.int _ _) hw hd rfl (fun φ A U H L X h => h.2.2.1.1) kn9
theorem R.gsCache {idx : Nat} (hw : Cond.fieldLink m.1.cls idx "java/lang/Integer$IntegerCache" "cache" "[Ljava/lang/Integer;" ∈ gtbl) (hd : decode m.2.1 pc = .ok (.getstatic idx, 3)) (kn9 : WP m d (pc + 3) ls (.ref (rf 30 0) :: st) M Q) : WP m d pc ls st M Q :=
  gets_row (fun _ => VOk_c (by omega)) hw hd rfl (fun φ A U H L X h => by rw [cv_rg (by omega)]; exact h.2.2.1.2.1) kn9
theorem R.gsEmpty {idx : Nat} (hw : Cond.fieldLink m.1.cls idx "java/util/ArrayList" "DEFAULTCAPACITY_EMPTY_ELEMENTDATA" "[Ljava/lang/Object;" ∈ gtbl) (hd : decode m.2.1 pc = .ok (.getstatic idx, 3)) (kn9 : WP m d (pc + 3) ls (.ref (rf 31 0) :: st) M Q) : WP m d pc ls st M Q :=
  gets_row (fun _ => VOk_c (by omega)) hw hd rfl (fun φ A U H L X h => by rw [cv_rg (by omega)]; exact h.2.2.2.1.1) kn9
/-- a small Integer out of the cache -/
theorem R.cacheAald {x : Int32} (hd : decode m.2.1 pc = .ok (.aaload, 1)) (h0 : ¬ x < 0) (h1 : x.toNatClampNeg < 256) (kn9 : WP m d (pc + 1) ls (.ref (rf 28 x.toNatClampNeg) :: st) M Q) : WP m d pc ls (.int x :: .ref (rf 30 0) :: st) M Q :=
  WP.pure kn9 (fun _ hl hs => ⟨hl, ok_c (VOk_c (by omega)) (ok_t (ok_t hs))⟩) (fun p l e R s mid args below meth c D cA A Qg hc φ H locs cells slots lsA hiv hlv hls hst kk => by
    have k1 := kk lsA hlv
    rw [List.map_cons, cv_rg (by omega)] at k1
    rw [List.map_cons, List.map_cons, cv_rg (by omega)]
    exact vb_tq hc.1 hc.2.1 hiv.2.2.2.2.2.1.2.2 hiv.2.2.1 (vpin_of h0 h1) rfl hd k1)
/-- its number -/
theorem R.cacheVal {idx j : Nat} (hj : j < 256) (hw : Cond.fieldLink m.1.cls idx "java/lang/Integer" "value" "I" ∈ gtbl) (hd : decode m.2.1 pc = .ok (.getfield idx, 3)) (kn9 : WP m d (pc + 3) ls (.int (nI j - 128) :: st) M Q) : WP m d pc ls (.ref (rf 28 j) :: st) M Q :=
  WP.pure kn9 (fun _ hl hs => ⟨hl, ok_c (VOk.int _ _) (ok_t hs)⟩) (fun p l e R s mid args below meth c D cA A Qg hc φ H locs cells slots lsA hiv hlv hls hst kk => by
    rw [List.map_cons, cv_rg (by omega)]
    exact vk_getf hc.1 hc.2.1 (hiv.2.2.2.2.2.2.2.1.1 j hj).2 hiv.2.2.1 hc.2.2.2.2.1 (hc.2.2.2.2.2.1 _ hw) (fun _ h => h) hd (kk lsA hlv))
/-- the length of the array that every empty list has -/
theorem R.emptyAlen (hd : decode m.2.1 pc = .ok (.arraylength, 1)) (kn9 : WP m d (pc + 1) ls (.int (nI 0) :: st) M Q) : WP m d pc ls (.ref (rf 31 0) :: st) M Q :=
  WP.pure kn9 (fun _ hl hs => ⟨hl, ok_c (VOk.int _ _) (ok_t hs)⟩) (fun p l e R s mid args below meth c D cA A Qg hc φ H locs cells slots lsA hiv hlv hls hst kk => by
    rw [List.map_cons, cv_rg (by omega)]
    exact va_tlen hc.1 hc.2.1 hiv.2.2.2.2.2.2.1.2 hiv.2.2.1 rfl hd (kk lsA hlv))
theorem R.gsFmt {idx : Nat} (hw : Cond.fieldLink m.1.cls idx "jdk/internal/util/Preconditions" "SIOOBE_FORMATTER" "Ljava/util/function/BiFunction;" ∈ gtbl) (hd : decode m.2.1 pc = .ok (.getstatic idx, 3)) (kn9 : WP m d (pc + 3) ls (.ref (rf 29 0) :: st) M Q) : WP m d pc ls st M Q :=
  gets_row (fun _ => VOk_c (by omega)) hw hd rfl (fun φ A U H L X h => h.2.2.2.2.2.2.2.2.1) kn9
end CW
