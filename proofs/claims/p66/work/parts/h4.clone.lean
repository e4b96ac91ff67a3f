/-! clone of an array of bytes; a cast to such an array -/
theorem wCln : Cond.castable "[B" "java/lang/Cloneable" ∈ exW := List.mem_of_getElem? (i := 35) (by decide +kernel)
theorem wClL : Cond.methodLink RJ7 310 ⟨"[B", "clone", "()Ljava/lang/Object;"⟩ ∈ gtbl := gt_i 1534 (by decide +kernel) rfl
theorem wClC : Cond.classLink RJ7 311 "[B" ∈ gtbl := gt_i 1540 (by decide +kernel) rfl
theorem wClS : Cond.selects "[B" ⟨"[B", "clone", "()Ljava/lang/Object;"⟩ ⟨"java/lang/Object", "clone", "()Ljava/lang/Object;"⟩ ∈ gtbl := gt_i 1538 (by decide +kernel) rfl
theorem arr_cg {c : ClassId} {n : Nat} {f g : Nat → Value} (h : ∀ j, j < n → f j = g j) : arrV c n f = arrV c n g := by
  unfold arrV
  congr 1
  congr 1
  funext j
  exact h j.1 j.2
section CLN
variable {m : MRec} {d pc : Nat} {ls st : List Value} {M : Mem} {Q : Out → Mem → Prop}
theorem R.castB {idx v : Nat} (hw : Cond.classLink m.1.cls idx "[B" ∈ gtbl) (hd : decode m.2.1 pc = .ok (.checkcast idx, 3)) (kn9 : WP m d (pc + 3) ls (.ref (rf 13 v) :: st) M Q) : WP m d pc ls (.ref (rf 13 v) :: st) M Q :=
  WP.pure kn9 (fun _ hl hs => ⟨hl, hs⟩) (fun p l e R s mid args below meth c D cA A Qg hc φ H locs cells slots lsA hiv hlv hls hst kk => by
    obtain ⟨hx, hb, hml, hlk, hown, hts, htr, hin, hK, hd1, hd2, hA, hex⟩ := hc
    have k1 := kk lsA hlv
    have hi := VA_i (by omega) (hst (.ref (rf 13 v)) List.mem_cons_self _ rfl)
    have hc1 := hiv.1.2.1 13 v (by omega) (by omega) hi
    have hnm : s.vm.findClass "[B" = some (cA 13) := va_nm_byte (arr_of hK (k := 13) (by omega) (by omega)).2
    rw [List.map_cons, cv_rf (by omega)] at k1 ⊢
    intro T hT X
    obtain ⟨vm', X', st9⟩ := X.checkcastYes hx hown (hts _ hw) (by rw [hT]; exact hc1) rfl hnm (va_asg _ _) (g := F0 mid pc lsA (.ref (φ (rf 13 v)) :: st.map (cv φ))) rfl rfl (by rw [hb]; exact hd)
    obtain ⟨t, a1, b1⟩ := k1 (T.setVm vm') hT X'
    exact ⟨t, st9 t a1, b1⟩)
set_option maxHeartbeats 1000000 in
theorem R.clone {v N : Nat} (hm : m.1.cls = RJ7) (hv : N = mN M 13 v) (hfit : ∀ j, j < N → fits .byte (.int (mI M 13 v j)) = true) (hdp : 1 ≤ d) (hr : (st.map fun v => v.category).sum ≤ 8) (hd : decode m.2.1 pc = .ok (.invokevirtual 310, 3)) (kn9 : WP m d (pc + 3) ls (.ref (rf 13 (mC M 13)) :: st) (cpA (al M 13 N N) v (mC M 13) N) Q) : WP m d pc ls (.ref (rf 13 v) :: st) M Q :=
  have hk : KO 13 := by unfold KO; omega
  have hmo : Mono M (cpA (al M 13 N N) v (mC M 13) N) := (al_mono hk).tr (cpA_mono _ _ _ _)
  WP.gen (dk := 1) (ds := N) kn9 hmo rfl rfl (fun _ hl hs => ⟨fun z hz => (hl z hz).mono hmo, ok_c ((va_new_ok hk).mono (cpA_mono _ _ _ _)) (fun z hz => (hs z (List.mem_cons_of_mem _ hz)).mono hmo)⟩) (fun p l e R s mid args below meth c D cA A Qg hc φ H locs cells slots lsA hiv hlv hls hst hb1 hb2 kk => by
    obtain ⟨hx, hb, hml, hlk, hown, hts, htr, hin, hK, hd1, hd2, hA, hex⟩ := hc
    rw [hm] at hown
    subst hv
    have hi := VA_i (by omega) (hst (.ref (rf 13 v)) (by simp) _ rfl)
    have hcat := cat_map (φ := φ) hr
    have hc1 := hiv.1.2.1 13 v (by omega) (by omega) hi
    have hnm : s.vm.findClass "[B" = some (cA 13) := va_nm_byte (arr_of hK (k := 13) (by omega) (by omega)).2
    obtain ⟨c0, t0, f1, f2, f3⟩ := Cond.castable_spec (va_Nw.use (A := args) rfl (hK.2.2.1 _ wCln))
    cases hnm.symm.trans f1
    obtain ⟨-, kS, hkS, compS, hkindS⟩ := (arr_of hK (k := 13) (by omega) (by omega)).1 0 (fun _ => .null)
    simp only [List.map_cons]
    rw [cv_rf (by omega)]
    intro T hT X
    obtain ⟨-, kA, hkA, comp, hkind⟩ := State.isArrayOf_alike X.warmed.alike ((arr_of hK (k := 13) (by omega) (by omega)).1 0 (fun _ => .null))
    obtain ⟨vm', X', step⟩ := X.cloneArray hx hown (hts _ wClL) (hts _ (gt_i 1535 (by decide +kernel) rfl)) (hts _ (gt_i 1536 (by decide +kernel) rfl)) (hts _ (gt_i 1537 (by decide +kernel) rfl)) (hts _ wClS) (a := φ (rf 13 v)) (cell := arrV (cA 13) (mN M 13 v) (fun j => cv φ (ev M 13 v j))) (by rw [hT]; exact hc1) (fun k h => by cases h) (fun h => by cases h) hnm f2 f3
      (fun i x hx9 => by
        have hk' : T.vm.classes[(arrV (cA 13) (mN M 13 v) (fun j => cv φ (ev M 13 v j))).cls]? = some kA := hkA
        have hb9 : fits .byte x = true := by
          by_cases hi9 : i < mN M 13 v
          · rw [arrV_read _ _ hi9] at hx9
            cases hx9
            exact hfit i (by omega)
          · rw [Array.getElem?_eq_none (by rw [arrV_size]; omega)] at hx9
            cases hx9
        have hb8 : fits (tyk 13 0) x = true := hb9
        simpa [State.fitsSlot, State.slotType?, hk', hkind] using hb8)
      (g := F0 mid pc lsA (.ref (φ (rf 13 v)) :: st.map (cv φ))) rfl (hlv.1.trans hml.symm) rfl (by rw [hb]; exact hd) (by omega) (by show 2 * 0 + _ + 14 ≤ _; omega) hb1 (by rw [arrV_size]; exact hb2) (hloader := Vm.clonesLoader_of_array hkS hkindS)
    rw [arrV_size] at X'
    have eF : ∀ j, cv φ (ev M 13 v j) = .int (mI M 13 v j) := fun j => rfl
    obtain ⟨H1, hH1⟩ : ∃ H1, H1 = H.push (arrV (cA 13) (mN M 13 v) (fun j => cv φ (ev M 13 v j))) := ⟨_, rfl⟩
    obtain ⟨Hz, hHz⟩ : ∃ Hz, Hz = H.push (arrV (cA 13) (mN M 13 v) (fun _ => defaultValue (tyk 13 0))) := ⟨_, rfl⟩
    obtain ⟨φ1, en, hext, hivz⟩ := hiv.new (n := mN M 13 v) (sl := mN M 13 v) (H' := Hz) hA hk (by rw [hHz, Array.size_push]) (fun a ha => by rw [hHz, Array.getElem?_push, if_neg (Nat.ne_of_lt ha)]) (fun q' hq' => by have := kq_lt hq'; omega) (fun _ _ => by rw [hHz, Array.getElem?_push_size])
    have hw9 : mC M 13 < mC (al M 13 (mN M 13 v) (mN M 13 v)) 13 := by rw [al_C, if_pos rfl]; omega
    have iv1 : Iv s D cA A φ1 (cpA (al M 13 (mN M 13 v) (mN M 13 v)) v (mC M 13) (mN M 13 v)) H1 (locs ++ []) := by
      refine hivz.acpy (H' := H1) hw9 (fun q hq => by cases hq) ?_ (by rw [hH1, hHz, Array.size_push, Array.size_push]) (fun a ha => ?_)
      · rw [en, hH1, Array.getElem?_push_size, show mN (al M 13 (mN M 13 v) (mN M 13 v)) 13 (mC M 13) = mN M 13 v from if_pos ⟨rfl, rfl⟩]
        refine congrArg some (arr_cg fun j hj => ?_)
        have hi2 : v < mC M 13 := hi
        rw [if_pos hj, mI_al, if_neg (by omega)]
        rfl
      · rw [en] at ha
        rw [hH1, hHz, Array.getElem?_push, Array.getElem?_push, if_neg ha, if_neg ha]
    rw [List.append_nil] at iv1
    have k1 := kk φ1 H1 locs lsA hext iv1 (by rw [lp_ext hext hls]; exact hlv)
    rw [List.map_cons, cv_rg (by omega), en, map_ext hext (ok_t hst)] at k1
    obtain ⟨t, a1, b1⟩ := k1 _ (by rw [hH1, ← hT]; rfl) X'
    exact ⟨t, step t (by rw [hT]; exact a1), b1⟩)
end CLN
