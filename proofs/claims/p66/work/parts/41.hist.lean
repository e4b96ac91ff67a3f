/-! what was remembered: the ring of yards -/
theorem nI_xor (a b : Nat) : nI a ^^^ nI b = nI (a ^^^ b) := by
  apply Int32.toBitVec_inj.1
  show BitVec.ofNat 32 a ^^^ BitVec.ofNat 32 b = BitVec.ofNat 32 (a ^^^ b)
  apply BitVec.eq_of_getLsbD_eq
  intro i hi
  simp [hi]
theorem slot_8 {p : Nat} (h : p < 2 ^ 31) : fmodI (nI p) 8 = nI (p % 8) := by
  unfold fmodI
  have e : nI p ^^^ 8 = nI (p ^^^ 8) := nI_xor p 8
  rw [e, if_pos (nI_pos' (Nat.xor_lt_two_pow h (by decide)))]
  exact pk_rem h (by decide) (by decide)
theorem slot_8n {p : Nat} (h : p < 2 ^ 31) : (fmodI (nI p) 8).toNatClampNeg = p % 8 := by
  rw [slot_8 h, nI_clamp (by omega)]
def HLay (M : Mem) : Prop := mR M 2 0 0 = some (rf 20 0) ∧ mN M 20 0 = 8 ∧ ∀ j, j < 8 → mR M 20 0 j = some (rf 9 (3 + j))
/-- a yard that may be copied -/
def YG (Y : Yd) : Prop := (∀ i, i < 16 → yC Y i 7 = 0 ∨ yC Y i 7 = 1) ∧ ∀ i, i < 16 → ∀ j, yP Y i = some j → ¬ yF Y 4 ≤ nI j
def Hv (M : Mem) (p : Nat) (L : List Yd) : Prop := HLay M ∧ mI M 2 0 1 = nI p ∧ mI M 2 0 2 = nI L.length ∧ L.length ≤ 8 ∧ L.length ≤ p ∧ (∀ j, j < 8 → ∃ Y, Yv M (3 + j) Y) ∧ ∀ i Z, L[i]? = some Z → Yv M (3 + (p - 1 - i) % 8) Z
def inH (k i : Nat) : Prop := (k = 2 ∧ i = 0) ∨ ∃ j, j < 8 ∧ inY (3 + j) k i
theorem H_2 : inH 2 0 := Or.inl ⟨rfl, rfl⟩
theorem H_Y {j : Nat} (h : j < 8) : ∀ k i, inY (3 + j) k i → inH k i := fun _ _ z => Or.inr ⟨j, h, z⟩
theorem nYH {y : Nat} (h : y < 3) : ∀ k i, inY y k i → ¬ inH k i := by
  intro k i hy hh
  rcases hh with hh | ⟨j, hj, hh⟩
  · unfold inY at hy; omega
  · have := inY_u hy hh; omega
theorem HLay.fr {S : Nat → Nat → Prop} {M M' : Mem} (h : HLay M) (hF : Fr S M M') (h2 : ∀ f, f = 0 → mR M' 2 0 f = mR M 2 0 f) (h20 : ¬ S 20 0) : HLay M' := by
  obtain ⟨a1, a2, a3⟩ := h
  have e20 := (hF.2.2.2.2 20 0 h20).2.2.1
  exact ⟨by rw [h2 0 rfl]; exact a1, by rw [hF.2.1]; exact a2, fun j hj => by rw [e20]; exact a3 j hj⟩
theorem Hv.fr {S : Nat → Nat → Prop} {M M' : Mem} {p : Nat} {L : List Yd} (h : Hv M p L) (hF : Fr S M M') (hn : ∀ k i, inH k i → ¬ S k i) (h20 : ¬ S 20 0) : Hv M' p L := by
  obtain ⟨a1, a2, a3, a4, a5, a6, a7⟩ := h
  have e2 := hF.2.2.2.2 2 0 (hn 2 0 H_2)
  refine ⟨a1.fr hF (fun f _ => by rw [e2.2.2.1]) h20, by rw [e2.1]; exact a2, by rw [e2.1]; exact a3, a4, a5, fun j hj => ?_, fun i Z hZ => ?_⟩
  · obtain ⟨Y, hY⟩ := a6 j hj
    exact ⟨Y, hY.fr hF fun k i z => hn k i (H_Y hj k i z)⟩
  · exact (a7 i Z hZ).fr hF fun k i z => hn k i (H_Y (Nat.mod_lt _ (by decide)) k i z)
set_option maxHeartbeats 1000000 in
set_option maxRecDepth 4000 in
theorem s_hSlot {d : Nat} {p : Nat} {M : Mem} {Q : Out → Mem → Prop} (l : HLay M) (hn : mI M 2 0 1 = nI p) (hp : p < 2 ^ 31) (hq : Q (.inl (some (.ref (rf 9 (3 + p % 8))))) M) : WPc (d + 1) mX3_slot [.ref (rf 2 0)] M Q := by
  refine WPc.of (by decide +kernel) (Nat.le_of_ble_eq_true rfl) rfl ?_
  refine R.aload_n dX3_slot_0 rfl (by first | rfl | exact rfv_rf _) ?_
  refine R.getS (l.1) dX3_slot_1 fl_X3_11 (by decide) rfl ?_
  refine R.aload_n dX3_slot_4 rfl (by first | rfl | exact rfv_rf _) ?_
  refine R.getI dX3_slot_5 fl_X3_26 (by decide) rfl ?_
  rw [hn]
  refine R.bipush (v := 8) dX3_slot_8 (by decide) ?_
  refine cl_X3_39 rfl rfl (by first | exact Nat.le_of_ble_eq_true rfl | simp [rf_cat, Value.category]) dX3_slot_10 ?_
  refine s_floorMod (by decide) ?_
  refine R.aalS (by rw [slot_8n hp]; exact l.2.2 _ (Nat.mod_lt _ (by decide))) (by decide) (by decide) dX3_slot_13 (by rw [slot_8 hp]; exact nI_pos (by omega)) (by rw [slot_8n hp, l.2.1]; exact Nat.mod_lt _ (by decide)) ?_
  first | refine WP.ret (ov := some (.ref _)) dX3_slot_14 ⟨rfl, _, rfl, Or.inl ⟨_, rfl⟩⟩ ?_ | refine WP.ret (ov := some .null) dX3_slot_14 ⟨rfl, _, rfl, Or.inl ⟨_, rfl⟩⟩ ?_
  exact hq
set_option maxHeartbeats 1000000 in
set_option maxRecDepth 4000 in
theorem s_hForget {d : Nat} {p : Nat} {L : List Yd} {M : Mem} {Q : Out → Mem → Prop} (h : Hv M p L) (hq : ∀ M', Hv M' p [] → Fr inH M M' → Q (.inl none) M') : WPc d mX3_forget [.ref (rf 2 0)] M Q := by
  refine WPc.of (by decide +kernel) (Nat.le_of_ble_eq_true rfl) rfl ?_
  refine R.aload_n dX3_forget_0 rfl (by first | rfl | exact rfv_rf _) ?_
  refine R.iconst (v := 0) dX3_forget_1 rfl ?_
  refine R.putI dX3_forget_2 fl_X3_30 (fun q hq => by cases hq; exact Or.inl rfl) (by decide) rfl rfl rfl ?_
  refine WP.ret (ov := none) dX3_forget_5 ⟨rfl, rfl⟩ ?_
  obtain ⟨a1, a2, a3, a4, a5, a6, a7⟩ := h
  have F : Fr (fun k i => k = 2 ∧ i = 0) M (sI M 2 0 2 0) := Fr.sI (Fr.rf _ _) ⟨rfl, rfl⟩
  refine hq _ ⟨a1, by rw [mI_sI, if_neg (by decide)]; exact a2, by rw [mI_sI, if_pos ⟨rfl, rfl, rfl⟩]; rfl, Nat.zero_le _, Nat.zero_le _, fun j hj => ?_, fun i Z e => by cases e⟩ (F.mo fun k i z => Or.inl z)
  obtain ⟨Y, hY⟩ := a6 j hj
  exact ⟨Y, hY.fr F fun k i z z2 => by unfold inY at z; omega⟩
theorem fmin_8 {n : Nat} (h : n ≤ 8) : fmin (nI n + 1) 8 = nI (min (n + 1) 8) := by
  unfold fmin
  rw [nI_1]
  by_cases z : 8 < n + 1
  · rw [if_pos (show (8 : Int32) < nI (n + 1) from nI_lt (a := 8) z (by omega)), Nat.min_eq_right (by omega)]; rfl
  · rw [if_neg (show ¬ (8 : Int32) < nI (n + 1) from nI_nlt (b := n + 1) (a := 8) (by omega) (by omega)), Nat.min_eq_left (by omega)]
theorem take8_get {Y : Yd} {L : List Yd} {i : Nat} {Z : Yd} (h : ((Y :: L).take 8)[i]? = some Z) : (i = 0 ∧ Z = Y) ∨ ∃ j, i = j + 1 ∧ j < 7 ∧ L[j]? = some Z := by
  rw [List.getElem?_take] at h
  split at h
  · cases i with
    | zero => left; simp at h; exact ⟨rfl, h.symm⟩
    | succ j => right; exact ⟨j, rfl, by omega, by simpa using h⟩
  · cases h
/-- the ring behind a change -/
theorem Hv.push {M M' : Mem} {p : Nat} {L : List Yd} {Y : Yd} (h : Hv M p L) (hF : Fr (inY (3 + p % 8)) M M') (hY : Yv M' (3 + p % 8) Y) {M2 : Mem} (e2 : M2 = sI (sI M' 2 0 1 (nI (p + 1))) 2 0 2 (nI (min (L.length + 1) 8))) : Hv M2 (p + 1) ((Y :: L).take 8) ∧ Fr inH M M2 := by
  obtain ⟨a1, a2, a3, a4, a5, a6, a7⟩ := h
  have hm : p % 8 < 8 := Nat.mod_lt _ (by decide)
  have F1 : Fr inH M M' := hF.mo (H_Y hm)
  have F2 : Fr (fun k i => k = 2 ∧ i = 0) M' M2 := by
    rw [e2]
    exact Fr.sI (Fr.sI (Fr.rf _ _) ⟨rfl, rfl⟩) ⟨rfl, rfl⟩
  have n2 : ∀ y k i, inY y k i → ¬ (k = 2 ∧ i = 0) := fun y k i z z2 => by unfold inY at z; omega
  have e20 : mR M2 2 0 = mR M 2 0 := by
    rw [e2]
    show mR M' 2 0 = _
    exact (hF.2.2.2.2 2 0 (by unfold inY; omega)).2.2.1
  have F := F1.tr (F2.mo fun k i z => Or.inl z)
  refine ⟨⟨a1.fr F (fun f _ => by rw [e20]) (by rintro (z | ⟨j, -, z⟩); · omega
                                                · unfold inY at z; omega), ?_, ?_, by simp; omega, by simp; omega, fun j hj => ?_, fun i Z hZ => ?_⟩, F⟩
  · rw [e2, mI_sI, if_neg (by decide), mI_sI, if_pos ⟨rfl, rfl, rfl⟩]
  · rw [e2, mI_sI, if_pos ⟨rfl, rfl, rfl⟩]
    congr 1
    rw [List.length_take, List.length_cons, Nat.min_comm]
  · by_cases z : j = p % 8
    · rw [z]; exact ⟨Y, hY.fr F2 (n2 _)⟩
    · obtain ⟨Y9, h9⟩ := a6 j hj
      exact ⟨Y9, (h9.other hF (by omega)).fr F2 (n2 _)⟩
  · rcases take8_get hZ with ⟨rfl, rfl⟩ | ⟨j, rfl, hj, hj2⟩
    · rw [show p + 1 - 1 - 0 = p by omega]
      exact hY.fr F2 (n2 _)
    · have hl : j < L.length := (List.getElem?_eq_some_iff.mp hj2).1
      rw [show p + 1 - 1 - (j + 1) = p - 1 - j by omega]
      refine ((a7 j Z hj2).other hF ?_).fr F2 (n2 _)
      omega
theorem Hv.pop {M M' : Mem} {p : Nat} {L : List Yd} {Z : Yd} (h : Hv M p (Z :: L)) {S : Nat → Nat → Prop} (hF : Fr S (sI (sI M 2 0 1 (nI (p - 1))) 2 0 2 (nI L.length)) M') (hn : ∀ k i, inH k i → ¬ S k i) (h20 : ¬ S 20 0) : Hv M' (p - 1) L := by
  obtain ⟨a1, a2, a3, a4, a5, a6, a7⟩ := h
  simp only [List.length_cons] at a4 a5
  have F2 : Fr (fun k i => k = 2 ∧ i = 0) M (sI (sI M 2 0 1 (nI (p - 1))) 2 0 2 (nI L.length)) := Fr.sI (Fr.sI (Fr.rf _ _) ⟨rfl, rfl⟩) ⟨rfl, rfl⟩
  have n2 : ∀ y k i, inY y k i → ¬ (k = 2 ∧ i = 0) := fun y k i z z2 => by unfold inY at z; omega
  refine Hv.fr (M := sI (sI M 2 0 1 (nI (p - 1))) 2 0 2 (nI L.length)) ⟨a1, ?_, ?_, by omega, by omega, fun j hj => ?_, fun i Y hY => ?_⟩ hF hn h20
  · rw [mI_sI, if_neg (by decide), mI_sI, if_pos ⟨rfl, rfl, rfl⟩]
  · rw [mI_sI, if_pos ⟨rfl, rfl, rfl⟩]
  · obtain ⟨Y9, h9⟩ := a6 j hj
    exact ⟨Y9, h9.fr F2 (n2 _)⟩
  · have := a7 (i + 1) Y (by simpa using hY)
    rw [show p - 1 - 1 - i = p - 1 - (i + 1) by omega]
    exact this.fr F2 (n2 _)
set_option maxHeartbeats 1000000 in
set_option maxRecDepth 4000 in
theorem s_hRem {d : Nat} {y p : Nat} {L : List Yd} {Y : Yd} {M : Mem} {Q : Out → Mem → Prop} (h : Hv M p L) (hp : p < 2 ^ 30) (g : Yv M y Y) (hy : y < 3) (hG : YG Y) (hq : ∀ M', Hv M' (p + 1) ((Y :: L).take 8) → Fr inH M M' → Q (.inl none) M') : WPc (d + 2) mX3_remember [.ref (rf 2 0), .ref (rf 9 y)] M Q := by
  refine WPc.of (by decide +kernel) (Nat.le_of_ble_eq_true rfl) rfl ?_
  obtain ⟨Z, hZ⟩ := h.2.2.2.2.2.1 (p % 8) (Nat.mod_lt _ (by decide))
  refine R.aload_n dX3_remember_0 rfl (by first | rfl | exact rfv_rf _) ?_
  refine cl_X3_18 rfl rfl (by first | exact Nat.le_of_ble_eq_true rfl | simp [rf_cat, Value.category]) dX3_remember_1 ?_
  refine s_hSlot h.1 h.2.1 (by omega) ?_
  refine R.aload_n dX3_remember_4 rfl (by first | rfl | exact rfv_rf _) ?_
  refine cl_X3_22 rfl rfl (by first | exact Nat.le_of_ble_eq_true rfl | simp [rf_cat, Value.category]) dX3_remember_5 ?_
  refine s_yCopy hZ g (by have := Nat.mod_lt p (show 0 < 8 by decide); omega) hG.1 hG.2 (fun M5 h5 F5 => ?_)
  have e51 : mI M5 2 0 1 = nI p := by rw [(F5.2.2.2.2 2 0 (by unfold inY; omega)).1]; exact h.2.1
  have e52 : mI M5 2 0 2 = nI L.length := by rw [(F5.2.2.2.2 2 0 (by unfold inY; omega)).1]; exact h.2.2.1
  refine R.aload_n dX3_remember_8 rfl (by first | rfl | exact rfv_rf _) ?_
  refine R.dup dX3_remember_9 (by first | rfl | exact rf_cat _) ?_
  refine R.getI dX3_remember_10 fl_X3_26 (by decide) rfl ?_
  rw [e51]
  refine R.iconst (v := 1) dX3_remember_13 rfl ?_
  refine R.iadd dX3_remember_14 ?_
  refine R.putI dX3_remember_15 fl_X3_26 (fun q hq => by cases hq; exact Or.inl rfl) (by decide) rfl rfl rfl ?_
  refine R.aload_n dX3_remember_18 rfl (by first | rfl | exact rfv_rf _) ?_
  refine R.aload_n dX3_remember_19 rfl (by first | rfl | exact rfv_rf _) ?_
  refine R.getI dX3_remember_20 fl_X3_30 (by decide) rfl ?_
  rw [show ∀ v : Int32, mI (sI M5 2 0 1 v) 2 0 2 = nI L.length from fun v => e52]
  refine R.iconst (v := 1) dX3_remember_23 rfl ?_
  refine R.iadd dX3_remember_24 ?_
  refine R.bipush (v := 8) dX3_remember_25 (by decide) ?_
  refine cl_X3_33 rfl rfl (by first | exact Nat.le_of_ble_eq_true rfl | simp [rf_cat, Value.category]) dX3_remember_27 ?_
  refine s_min ?_
  rw [show (8 : Int32) = 8 from rfl, fmin_8 h.2.2.2.1]
  refine R.putI dX3_remember_30 fl_X3_30 (fun q hq => by cases hq; exact Or.inl rfl) (by decide) rfl rfl rfl ?_
  refine WP.ret (ov := none) dX3_remember_33 ⟨rfl, rfl⟩ ?_
  have e9 := Hv.push h F5 h5 (M2 := sI (sI M5 2 0 1 (nI p + 1)) 2 0 2 (nI (min (L.length + 1) 8))) (by rw [nI_1])
  exact hq _ e9.1 e9.2