/-! the model's copies; many readings -/
def sA (M : Mem) (v : Nat) (g : Nat → Int32) : Mem := (fun k i => if k = 14 ∧ i = v then g else M.1 k i, M.2)
theorem sA_W (M : Mem) (g : Nat → Int32) : sA M 0 g = sW M g := rfl
theorem mI_sA (M : Mem) (v : Nat) (g : Nat → Int32) : mI (sA M v g) 14 v = g := by
  show (if 14 = 14 ∧ v = v then g else M.1 14 v) = g
  exact if_pos ⟨rfl, rfl⟩
theorem mI_sAn (M : Mem) (v : Nat) (g : Nat → Int32) {k i : Nat} (h : ¬ (k = 14 ∧ i = v)) : mI (sA M v g) k i = mI M k i := if_neg h
theorem sA_e (M : Mem) {v : Nat} {g g' : Nat → Int32} (h : ∀ x, g x = g' x) : sA M v g = sA M v g' := by rw [funext h]
theorem sI_sA (M : Mem) (v : Nat) (g : Nat → Int32) (c : Nat) (x : Int32) : sI (sA M v g) 14 v c x = sA M v (upW g c x) := by
  refine Prod.ext ?_ rfl
  funext k i f
  show up3 (sA M v g).1 14 v c x k i f = (if k = 14 ∧ i = v then upW g c x else M.1 k i) f
  unfold up3
  by_cases z : k = 14 ∧ i = v
  · rw [if_pos z]
    obtain ⟨rfl, rfl⟩ := z
    show _ = if f = c then x else g f
    by_cases y : f = c
    · rw [if_pos ⟨rfl, rfl, y⟩, if_pos y]
    · rw [if_neg (fun q => y q.2.2), if_neg y]
      show (if 14 = 14 ∧ i = i then g else M.1 14 i) f = g f
      exact congrFun (if_pos ⟨rfl, rfl⟩) f
  · rw [if_neg z, if_neg (fun q => z ⟨q.1, q.2.1⟩)]
    exact congrFun (if_neg z) f
theorem sA_id (M : Mem) (v : Nat) : sA M v (mI M 14 v) = M := by
  refine Prod.ext ?_ rfl
  funext k i
  show (if k = 14 ∧ i = v then mI M 14 v else M.1 k i) = M.1 k i
  by_cases z : k = 14 ∧ i = v
  · rw [if_pos z]; obtain ⟨rfl, rfl⟩ := z; rfl
  · rw [if_neg z]
/-- the first k cells copied -/
def cpK (g s : Nat → Int32) (a i k : Nat) : Nat → Int32 := fun x => if i ≤ x ∧ x < i + k then s (a + (x - i)) else g x
theorem cpK_s (g s : Nat → Int32) (a i k : Nat) : upW (cpK g s a i k) (i + k) (s (a + k)) = cpK g s a i (k + 1) := by
  funext x
  show (if x = i + k then s (a + k) else if i ≤ x ∧ x < i + k then s (a + (x - i)) else g x) = if i ≤ x ∧ x < i + (k + 1) then s (a + (x - i)) else g x
  by_cases z : x = i + k
  · rw [if_pos z, if_pos ⟨by omega, by omega⟩, show x - i = k by omega]
  · rw [if_neg z]
    by_cases y : i ≤ x ∧ x < i + k
    · rw [if_pos y, if_pos ⟨y.1, by omega⟩]
    · rw [if_neg y, if_neg (fun q => y ⟨q.1, by omega⟩)]
theorem nI_add9 (a b : Nat) : nI a + nI b = nI (a + b) := by
  unfold nI
  rw [Int32.ofNat_add]