/-! the model: its arrays, its smallest methods -/
/-- the model's array of a yard, replaced -/
def sW (M : Mem) (w : Nat → Int32) : Mem := (fun k i => if k = 14 ∧ i = 0 then w else M.1 k i, M.2)
def upW (w : Nat → Int32) (c : Nat) (v : Int32) : Nat → Int32 := fun c' => if c' = c then v else w c'
theorem upW_s (w : Nat → Int32) (c : Nat) (v : Int32) : upW w c v c = v := if_pos rfl
theorem upW_n (w : Nat → Int32) {c c' : Nat} (v : Int32) (h : c' ≠ c) : upW w c v c' = w c' := if_neg h
theorem mI_sW (M : Mem) (w : Nat → Int32) : mI (sW M w) 14 0 = w := by
  show (if 14 = 14 ∧ 0 = 0 then w else M.1 14 0) = w
  exact if_pos ⟨rfl, rfl⟩
theorem mI_sWc (M : Mem) (w : Nat → Int32) (c : Nat) : mI (sW M w) 14 0 c = w c := by rw [mI_sW]
theorem mI_sWn (M : Mem) (w : Nat → Int32) {k i : Nat} (h : ¬ (k = 14 ∧ i = 0)) : mI (sW M w) k i = mI M k i := if_neg h
theorem sI_sW (M : Mem) (w : Nat → Int32) (c : Nat) (v : Int32) : sI (sW M w) 14 0 c v = sW M (upW w c v) := by
  refine Prod.ext ?_ rfl
  funext k i f
  show up3 (sW M w).1 14 0 c v k i f = (if k = 14 ∧ i = 0 then upW w c v else M.1 k i) f
  unfold up3
  by_cases z : k = 14 ∧ i = 0
  · rw [if_pos z]
    obtain ⟨rfl, rfl⟩ := z
    show _ = if f = c then v else w f
    by_cases y : f = c
    · rw [if_pos ⟨rfl, rfl, y⟩, if_pos y]
    · rw [if_neg (fun q => y q.2.2), if_neg y]
      show (if 14 = 14 ∧ 0 = 0 then w else M.1 14 0) f = w f
      exact congrFun (if_pos ⟨rfl, rfl⟩) f
  · rw [if_neg z, if_neg (fun q => z ⟨q.1, q.2.1⟩)]
    exact congrFun (if_neg z) f
theorem sW_sW (M : Mem) (w w' : Nat → Int32) : sW (sW M w) w' = sW M w' := by
  refine Prod.ext ?_ rfl
  funext k i
  show (if k = 14 ∧ i = 0 then w' else (if k = 14 ∧ i = 0 then w else M.1 k i)) = _
  by_cases z : k = 14 ∧ i = 0
  · rw [if_pos z]; exact (if_pos z).symm
  · rw [if_neg z, if_neg z]; exact (if_neg z).symm
theorem sW_id (M : Mem) : sW M (mI M 14 0) = M := by
  refine Prod.ext ?_ rfl
  funext k i
  show (if k = 14 ∧ i = 0 then mI M 14 0 else M.1 k i) = M.1 k i
  by_cases z : k = 14 ∧ i = 0
  · rw [if_pos z]; obtain ⟨rfl, rfl⟩ := z; rfl
  · rw [if_neg z]
/-- the model's layout -/
def ML (M : Mem) : Prop := (mR M 11 0 0 = some (rf 14 0) ∧ mR M 11 0 1 = some (rf 14 1) ∧ mR M 11 0 2 = some (rf 14 2) ∧ mR M 11 0 3 = some (rf 14 3) ∧ mR M 11 0 4 = some (rf 14 4) ∧ mR M 11 0 8 = some (rf 14 5) ∧ mR M 11 0 19 = some (rf 14 6) ∧ mR M 11 0 20 = some (rf 14 7) ∧ mR M 11 0 21 = some (rf 14 8) ∧ mR M 11 0 23 = some (rf 14 9) ∧ mR M 11 0 24 = some (rf 14 10)) ∧ mN M 14 0 = 370 ∧ mN M 14 1 = 370 ∧ mN M 14 2 = 370 ∧ mN M 14 3 = 370 ∧ mN M 14 4 = 2960 ∧ mN M 14 5 = 600 ∧ mN M 14 6 = 4 ∧ mN M 14 7 = 31 ∧ mN M 14 8 = 62 ∧ mN M 14 9 = 16 ∧ mN M 14 10 = 400
theorem ML.w {M : Mem} (h : ML M) : mR M 11 0 0 = some (rf 14 0) := h.1.1
theorem ML.n {M : Mem} (h : ML M) : mN M 14 0 = 370 := h.2.1
theorem wi_c (c f : Nat) : (16 : Int32) + 18 * nI c + nI f = nI (16 + 18 * c + f) := by
  unfold nI
  rw [Int32.ofNat_add, Int32.ofNat_add, Int32.ofNat_mul]
  rfl
theorem wi_b (c f : Nat) : (304 : Int32) + 11 * nI c + nI f = nI (304 + 11 * c + f) := by
  unfold nI
  rw [Int32.ofNat_add, Int32.ofNat_add, Int32.ofNat_mul]
  rfl
section RN
variable {m : MRec} {d pc : Nat} {ls st : List Value} {M : Mem} {Q : Out → Mem → Prop}
theorem R.ialdN {i k : Nat} (hd : decode m.2.1 pc = .ok (.iaload, 1)) (hk : k < 2 ^ 31) (h1 : k < mN M 14 i) (kn9 : WP m d (pc + 1) ls (.int (mI M 14 i k) :: st) M Q) : WP m d pc ls (.int (nI k) :: .ref (rf 14 i) :: st) M Q := by
  refine R.iald hd (nI_pos hk) (by rw [nI_clamp hk]; exact h1) ?_
  rw [nI_clamp hk]
  exact kn9
theorem R.iastN {i k : Nat} {v : Int32} (hd : decode m.2.1 pc = .ok (.iastore, 1)) (hk : k < 2 ^ 31) (h1 : k < mN M 14 i) (kn9 : WP m d (pc + 1) ls st (sI M 14 i k v) Q) : WP m d pc ls (.int v :: .int (nI k) :: .ref (rf 14 i) :: st) M Q := by
  refine R.iast hd (nI_pos hk) (by rw [nI_clamp hk]; exact h1) ?_
  rw [nI_clamp hk]
  exact kn9
end RN