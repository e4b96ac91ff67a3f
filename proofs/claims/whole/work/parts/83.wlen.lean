/-! how long a crate's text is, and of what -/
section WLN
variable {Y : Yd} {m b T : Nat}
theorem wrL_len (hD : SbD Y) {o : Nat} (g : Nat → List Int32) : ∀ (f : Nat) (t c : Int32), nG Y o t < f → (wrL Y g f (caF Y o t 16 0 none) c).length = sG Y o t fun j => 1 + (g j).length := by
  intro f
  induction f with
  | zero => intro t c h; exact absurd h (Nat.not_lt_zero _)
  | succ f ih =>
    intro t c h
    have hx := caF_nx Y o t
    cases e : caF Y o t 16 0 none with
    | none => rw [e] at hx; rw [sG_n hx, wrL]; rfl
    | some k =>
      rw [e] at hx
      rw [wrL]
      show ((c :: g k) ++ wrL Y g f (nCh Y k) (nI 44)).length = _
      have h2 := sG_s (f := fun _ => (1 : Nat)) hD hx
      rw [sG_s (f := fun j => 1 + (g j).length) hD hx, nCh_e hx.2.1, List.length_append, ih _ _ (by unfold nG at h ⊢; omega), List.length_cons]
      omega
theorem sG_0 {f : Nat → Nat} (hD : SbD Y) {o : Nat} : sG Y o 0 f = sm (fun k => if yP Y k = some o then f k else 0) 16 := sm_c fun k hk => by
  by_cases w : yP Y k = some o
  · rw [if_pos w, if_pos ⟨w, hD.1 k hk o w⟩]
  · rw [if_neg w, if_neg (fun x => w x.1)]
/-- a number for all that is inside a crate, by its children -/
theorem sm_all (hP : ∀ i, i < 16 → ∀ j, yP Y i = some j → j < 16) (hA : ∀ i, i < 16 → itO (yP Y) 6 (some i) = none) {x j : Nat} (hj : j < 16) : sm (fun k => if inO 6 (yP Y) (some k) j = true then x else 0) 16 = x + sm (fun c => if yP Y c = some j then sm (fun k => if inO 6 (yP Y) (some k) c = true then x else 0) 16 else 0) 16 := by
  rw [sm_c (g := fun k => (if k = j then x else 0) + sm (fun c => if yP Y c = some j then (if inO 6 (yP Y) (some k) c = true then x else 0) else 0) 16) (fun k hk => sm_ch hP hA hk x), sm_a, sm_w]
  congr 1
  · have := sm_1 (f := fun k => if k = j then x else 0) hj (fun i _ hne => if_neg hne)
    rw [this, if_pos rfl]
  · refine sm_c fun c _ => ?_
    exact (sm_i (yP Y c = some j) (fun k => if inO 6 (yP Y) (some k) c = true then x else 0) 16).symm
theorem sm_leN {f g : Nat → Nat} : ∀ n, (∀ i, i < n → f i ≤ g i) → sm f n ≤ sm g n := by
  intro n
  induction n with
  | zero => intro _; exact Nat.le_refl _
  | succ n ih =>
    intro h
    rw [sm, sm]
    exact Nat.add_le_add (ih fun i hi => h i (by omega)) (h n (by omega))
theorem wr_len (hD : SbD Y) (hP : ∀ i, i < 16 → ∀ j, yP Y i = some j → j < 16) (hA : ∀ i, i < 16 → itO (yP Y) 6 (some i) = none) : ∀ n i, i < 16 → 1 + (wrF Y n i).length ≤ sm (fun k => if inO 6 (yP Y) (some k) i = true then 14 else 0) 16 := by
  intro n
  induction n with
  | zero =>
    intro i hi
    rw [sm_all hP hA hi, wrF, List.length_append, List.length_cons]
    have := nmL_6 (yC Y i 1) 6 0
    have := dgs_len 5 (yC Y i 4).toNatClampNeg
    rw [dgS]
    omega
  | succ n ih =>
    intro i hi
    rw [sm_all hP hA hi, wrF]
    have h1 := nmL_6 (yC Y i 1) 6 0
    have h2 := dgs_len 5 (yC Y i 4).toNatClampNeg
    rw [List.length_append, List.length_append, List.length_cons, dgS]
    cases e : fCh Y i with
    | none =>
      dsimp only [List.length_nil]
      omega
    | some j =>
      have h3 := wrL_len hD (o := i) (wrF Y n) 17 0 (nI 91) (Nat.lt_succ_of_le (nG_le Y i 0))
      rw [show caF Y i 0 16 0 none = some j from e, sG_0 hD] at h3
      dsimp only
      rw [List.length_append, h3, List.length_cons, List.length_nil]
      have h4 : sm (fun k => if yP Y k = some i then 1 + (wrF Y n k).length else 0) 16 ≤ sm (fun c => if yP Y c = some i then sm (fun k => if inO 6 (yP Y) (some k) c = true then 14 else 0) 16 else 0) 16 := sm_leN 16 fun k hk => by
        split
        · exact ih k hk
        · exact Nat.le_refl _
      omega
theorem PV.wl (h : PV Y m b T) (hT : T < 2 ^ 31) (n : Nat) {i : Nat} (hi : i < 16) : (wrF Y n i).length ≤ 224 := by
  have h1 := wr_len (h.sb hT) h.p16 h.i6 n i hi
  have h2 := sm_le (f := fun k => if inO 6 (yP Y) (some k) i = true then 14 else 0) (b := 14) (n := 16) fun k _ => by split <;> omega
  omega
def O8 (c : Int32) : Prop := ∃ k, c = nI k ∧ k < 128
theorem an31 (x : Int32) : ∃ k, x &&& 31 = nI k ∧ k < 32 := by
  refine ⟨x.toBitVec.toNat % 32, ?_, Nat.mod_lt _ (by decide)⟩
  apply Int32.toBitVec_inj.1
  show x.toBitVec &&& BitVec.ofNat 32 31 = BitVec.ofNat 32 (x.toBitVec.toNat % 32)
  apply BitVec.eq_of_toNat_eq
  rw [BitVec.toNat_and, BitVec.toNat_ofNat, BitVec.toNat_ofNat, Nat.mod_eq_of_lt (a := 31) (by omega), Nat.mod_eq_of_lt (a := x.toBitVec.toNat % 32) (by omega)]
  exact Nat.and_two_pow_sub_one_eq_mod _ 5
theorem lt_o8 {nm x : Int32} (h : ¬ ltF nm x = -1) : O8 (ltF nm x) := by
  unfold ltF at h ⊢
  split
  next z => rw [if_pos z] at h; exact absurd rfl h
  next z =>
    rw [if_neg z] at h
    split
    next y => rw [if_pos y] at h; exact absurd rfl h
    next y =>
      obtain ⟨k, e, hk⟩ := an31 (nm >>> (5 * x &&& 31))
      rw [e] at y ⊢
      have hp : 0 < k := Nat.pos_of_ne_zero fun q => y (by rw [q]; rfl)
      refine ⟨96 + k, ?_, by omega⟩
      rw [show (97 : Int32) = nI 97 from rfl, nI_add9, show 97 + k = (96 + k) + 1 by omega, nI_pred]
theorem nm_o8 (nm : Int32) : ∀ f i, ∀ c ∈ nmL nm f i, O8 c := by
  intro f
  induction f with
  | zero => intro i c hc; cases hc
  | succ f ih =>
    intro i c hc
    rw [nmL] at hc
    rcases List.mem_append.mp hc with hc | hc
    · split at hc
      · cases hc
      next z =>
        rw [List.mem_singleton] at hc
        rw [hc]
        exact lt_o8 z
    · exact ih _ c hc
theorem dg_o8 : ∀ f v, ∀ c ∈ dgs f v, O8 c := by
  intro f
  induction f with
  | zero => intro v c hc; cases hc
  | succ f ih =>
    intro v c hc
    rw [dgs] at hc
    split at hc
    · rw [List.mem_singleton] at hc
      exact ⟨48 + v, hc, by omega⟩
    · rcases List.mem_append.mp hc with hc | hc
      · exact ih _ c hc
      · rw [List.mem_singleton] at hc
        exact ⟨48 + v % 10, hc, by omega⟩
theorem wrL_o8 {g : Nat → List Int32} (hg : ∀ j, ∀ c ∈ g j, O8 c) : ∀ (f : Nat) (o : Option Nat) (c0 : Int32), O8 c0 → ∀ c ∈ wrL Y g f o c0, O8 c := by
  intro f
  induction f with
  | zero => intro o c0 _ c hc; cases hc
  | succ f ih =>
    intro o c0 h0 c hc
    cases o with
    | none => cases hc
    | some j =>
      rw [wrL] at hc
      rcases List.mem_append.mp hc with hc | hc
      · rcases List.mem_cons.mp hc with hc | hc
        · rw [hc]; exact h0
        · exact hg j c hc
      · exact ih _ _ ⟨44, rfl, by omega⟩ c hc
theorem wr_o8 : ∀ n i, ∀ c ∈ wrF Y n i, O8 c := by
  have h0 : ∀ i, ∀ c ∈ nmL (yC Y i 1) 6 0 ++ nI 58 :: dgS (yC Y i 4).toNatClampNeg, O8 c := by
    intro i c hc
    rcases List.mem_append.mp hc with hc | hc
    · exact nm_o8 _ _ _ c hc
    · rcases List.mem_cons.mp hc with hc | hc
      · exact ⟨58, hc, by omega⟩
      · exact dg_o8 _ _ c hc
  intro n
  induction n with
  | zero => intro i c hc; exact h0 i c hc
  | succ n ih =>
    intro i c hc
    rw [wrF] at hc
    rcases List.mem_append.mp hc with hc | hc
    · exact h0 i c hc
    · split at hc
      · cases hc
      · rcases List.mem_append.mp hc with hc | hc
        · exact wrL_o8 ih 17 _ _ ⟨91, rfl, by omega⟩ c hc
        · rw [List.mem_singleton] at hc
          exact ⟨93, hc, by omega⟩
theorem PV.ob (h : PV Y m b T) (hT : T < 2 ^ 31) (n : Nat) {i : Nat} (hi : i < 16) : OB (wrF Y n i) := ⟨by have := h.wl hT n hi; omega, wr_o8 n i⟩
end WLN
