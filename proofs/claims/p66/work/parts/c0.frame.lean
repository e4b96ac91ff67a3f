/-! the law's own objects: what changes, and what a list holds -/
/-- the kinds of which the law makes more while it runs -/
def inG (k : Nat) : Prop := k = 16 ∨ k = 34 ∨ k = 35
/-- a cell is as it was -/
def Sm (M M' : Mem) (k i : Nat) : Prop := mI M' k i = mI M k i ∧ mL M' k i = mL M k i ∧ mR M' k i = mR M k i ∧ mD M' k i = mD M k i ∧ mN M' k i = mN M k i
theorem Sm.rf (M : Mem) (k i : Nat) : Sm M M k i := ⟨rfl, rfl, rfl, rfl, rfl⟩
theorem Sm.tr {M M' M'' : Mem} {k i : Nat} (h : Sm M M' k i) (g : Sm M' M'' k i) : Sm M M'' k i := ⟨g.1.trans h.1, g.2.1.trans h.2.1, g.2.2.1.trans h.2.2.1, g.2.2.2.1.trans h.2.2.2.1, g.2.2.2.2.trans h.2.2.2.2⟩
/-- only the cells of S have changed, and new ones of those kinds -/
def Fx (S : Nat → Nat → Prop) (n s : Nat) (M M' : Mem) : Prop := (∀ k i, ¬ S k i → (inG k → i < mC M k) → Sm M M' k i) ∧ (∀ k, ¬ inG k → mC M' k = mC M k) ∧ (∀ k, mC M k ≤ mC M' k) ∧ mK M' ≤ mK M + n ∧ mS M' ≤ mS M + s
def Sz (_k _i : Nat) : Prop := False
theorem Fx.rf (S : Nat → Nat → Prop) (n s : Nat) (M : Mem) : Fx S n s M M := ⟨fun _ _ _ _ => Sm.rf _ _ _, fun _ _ => rfl, fun _ => Nat.le_refl _, by omega, by omega⟩
theorem Fx.mono {S S' : Nat → Nat → Prop} {n n' s s' : Nat} {M M' : Mem} (h : Fx S n s M M') (hS : ∀ k i, S k i → S' k i ∨ (inG k ∧ mC M k ≤ i)) (hn : n ≤ n') (hs : s ≤ s') : Fx S' n' s' M M' := by
  obtain ⟨h1, h2, h3, h4, h5⟩ := h
  refine ⟨fun k i hk hi => h1 k i (fun z => ?_) hi, h2, h3, by omega, by omega⟩
  rcases hS k i z with z | ⟨z, w⟩
  · exact hk z
  · have := hi z; omega
theorem Fx.tr {S S' : Nat → Nat → Prop} {n n' s s' : Nat} {M M' M'' : Mem} (h : Fx S n s M M') (g : Fx S' n' s' M' M'') (hS : ∀ k i, S' k i → S k i ∨ (inG k ∧ mC M k ≤ i)) : Fx S (n + n') (s + s') M M'' := by
  obtain ⟨h1, h2, h3, h4, h5⟩ := h
  obtain ⟨g1, g2, g3, g4, g5⟩ := g
  refine ⟨fun k i hk hi => (h1 k i hk hi).tr (g1 k i (fun z => ?_) (fun z => Nat.lt_of_lt_of_le (hi z) (h3 k))), fun k hk => (g2 k hk).trans (h2 k hk), fun k => Nat.le_trans (h3 k) (g3 k), by omega, by omega⟩
  rcases hS k i z with z | ⟨z, w⟩
  · exact hk z
  · have := hi z; omega
theorem Fx.le {S : Nat → Nat → Prop} {n n' s s' : Nat} {M M' : Mem} (h : Fx S n s M M') (hn : n ≤ n') (hs : s ≤ s') : Fx S n' s' M M' := h.mono (fun _ _ z => Or.inl z) hn hs
theorem Fx.trz {S : Nat → Nat → Prop} {n n' s s' : Nat} {M M' M'' : Mem} (h : Fx S n s M M') (g : Fx Sz n' s' M' M'') : Fx S (n + n') (s + s') M M'' := h.tr g fun _ _ z => z.elim
section FXU
variable {S : Nat → Nat → Prop} {n s : Nat} {M M' : Mem} {k i f : Nat}
theorem Fx.sI {v : Int32} (h : Fx S n s M M') (hs : S k i ∨ (inG k ∧ mC M k ≤ i)) : Fx S n s M (sI M' k i f v) := by
  refine ⟨fun k2 i2 hk hi => ?_, h.2.1, h.2.2.1, h.2.2.2.1, h.2.2.2.2⟩
  have h9 := h.1 k2 i2 hk hi
  refine ⟨?_, h9.2.1, h9.2.2.1, h9.2.2.2.1, h9.2.2.2.2⟩
  funext j
  rw [mI_sI, if_neg, h9.1]
  rintro ⟨rfl, rfl, rfl⟩
  rcases hs with z | ⟨z, w⟩
  · exact hk z
  · have := hi z; omega
theorem Fx.sR {v : Option Nat} (h : Fx S n s M M') (hs : S k i ∨ (inG k ∧ mC M k ≤ i)) : Fx S n s M (sR M' k i f v) := by
  refine ⟨fun k2 i2 hk hi => ?_, h.2.1, h.2.2.1, h.2.2.2.1, h.2.2.2.2⟩
  have h9 := h.1 k2 i2 hk hi
  refine ⟨h9.1, h9.2.1, ?_, h9.2.2.2.1, h9.2.2.2.2⟩
  funext j
  rw [mR_sR, if_neg, h9.2.2.1]
  rintro ⟨rfl, rfl, rfl⟩
  rcases hs with z | ⟨z, w⟩
  · exact hk z
  · have := hi z; omega
theorem Fx.cpR {v a w b N : Nat} (h : Fx S n s M M') (hs : S 16 w ∨ mC M 16 ≤ w) : Fx S n s M (cpR M' v a w b N) := by
  refine ⟨fun k2 i2 hk hi => ?_, h.2.1, h.2.2.1, h.2.2.2.1, h.2.2.2.2⟩
  have h9 := h.1 k2 i2 hk hi
  refine ⟨h9.1, h9.2.1, ?_, h9.2.2.2.1, h9.2.2.2.2⟩
  funext j
  rw [mR_cpR, if_neg, h9.2.2.1]
  rintro ⟨rfl, rfl, -⟩
  rcases hs with z | z
  · exact hk z
  · have := hi (Or.inl rfl); omega
theorem Fx.al {N sl : Nat} (h : Fx S n s M M') (hk : inG k) : Fx S (n + 1) (s + sl) M (al M' k N sl) := by
  refine ⟨fun k2 i2 hk2 hi => ?_, fun k2 hk2 => ?_, fun k2 => ?_, ?_, ?_⟩
  · have h9 := h.1 k2 i2 hk2 hi
    have hne : ¬ (k2 = k ∧ i2 = mC M' k) := by
      rintro ⟨rfl, rfl⟩
      have := hi hk
      have := h.2.2.1 k2
      omega
    refine ⟨?_, ?_, ?_, ?_, ?_⟩
    · funext j
      rw [mI_al, if_neg hne, h9.1]
    · funext j
      rw [mL_al, if_neg hne, h9.2.1]
    · funext j
      rw [mR_al, if_neg hne, h9.2.2.1]
    · funext j
      show (if k2 = k ∧ i2 = mC M' k then 0 else mD M' k2 i2 j) = _
      rw [if_neg hne, h9.2.2.2.1]
    · rw [mN_al, if_neg hne, h9.2.2.2.2]
  · rw [mC_al, if_neg (by rintro rfl; exact hk2 hk)]
    exact h.2.1 k2 hk2
  · rw [mC_al]
    have := h.2.2.1 k2
    split
    · next e => subst e; omega
    · exact this
  · rw [mK_al]; have := h.2.2.2.1; omega
  · rw [mS_al]; have := h.2.2.2.2; omega
end FXU
/-- list i holds xs; E: the number of its array (none: the empty one that all share) -/
def Ls (M : Mem) (i : Nat) (xs : List Nat) (E : Option Nat) : Prop := i < mC M 33 ∧ mI M 33 i 2 = nI xs.length ∧ match E with
  | none => xs = [] ∧ mR M 33 i 1 = some (rf 31 0)
  | some e => mR M 33 i 1 = some (rf 16 e) ∧ e < mC M 16 ∧ xs.length ≤ mN M 16 e ∧ 0 < mN M 16 e ∧ mN M 16 e ≤ 90 ∧ ∀ j x, xs[j]? = some x → mR M 16 e j = some x
/-- the cells of list i, with its array -/
def SL (i : Nat) (E : Option Nat) (k j : Nat) : Prop := (k = 33 ∧ j = i) ∨ (k = 16 ∧ E = some j)
theorem Ls.len {M : Mem} {i : Nat} {xs : List Nat} {E : Option Nat} (h : Ls M i xs E) : xs.length ≤ 90 := by
  obtain ⟨-, -, h⟩ := h
  cases E with
  | none => rw [h.1]; simp
  | some e => have := h.2.2.1; have := h.2.2.2.2.1; omega
theorem Ls.at {M : Mem} {i j x : Nat} {xs : List Nat} {E : Option Nat} (h : Ls M i xs E) (hx : xs[j]? = some x) : ∃ e, E = some e ∧ mR M 33 i 1 = some (rf 16 e) ∧ mR M 16 e j = some x ∧ j < xs.length ∧ xs.length ≤ mN M 16 e ∧ mN M 16 e ≤ 90 := by
  obtain ⟨-, -, h⟩ := h
  cases E with
  | none => rw [h.1] at hx; simp at hx
  | some e => exact ⟨e, rfl, h.1, h.2.2.2.2.2 j x hx, (List.getElem?_eq_some_iff.mp hx).1, h.2.2.1, h.2.2.2.2.1⟩
theorem Ls.fx {M M' : Mem} {i n s : Nat} {xs : List Nat} {E : Option Nat} {S : Nat → Nat → Prop} (h : Ls M i xs E) (F : Fx S n s M M') (h33 : ¬ S 33 i) (h16 : ∀ e, E = some e → ¬ S 16 e) : Ls M' i xs E := by
  obtain ⟨h0, h1, h2⟩ := h
  have e33 := F.1 33 i h33 (fun z => by unfold inG at z; omega)
  refine ⟨Nat.lt_of_lt_of_le h0 (F.2.2.1 33), by rw [e33.1]; exact h1, ?_⟩
  cases E with
  | none => exact ⟨h2.1, by rw [e33.2.2.1]; exact h2.2⟩
  | some e =>
    obtain ⟨a, b, c, c2, d, f⟩ := h2
    have e16 := F.1 16 e (h16 e rfl) (fun _ => b)
    refine ⟨by rw [e33.2.2.1]; exact a, Nat.lt_of_lt_of_le b (F.2.2.1 16), by rw [e16.2.2.2.2]; exact c, by rw [e16.2.2.2.2]; exact c2, by rw [e16.2.2.2.2]; exact d, fun j x hx => ?_⟩
    rw [e16.2.2.1]
    exact f j x hx
/-- an Integer and its number -/
def IvA (M : Mem) (a : Nat) (v : Int32) : Prop := (∃ j, j < 256 ∧ a = rf 28 j ∧ v = nI j - 128) ∨ ∃ j, j < mC M 35 ∧ a = rf 35 j ∧ mI M 35 j 0 = v
theorem IvA.fx {M M' : Mem} {a n s : Nat} {v : Int32} {S : Nat → Nat → Prop} (h : IvA M a v) (F : Fx S n s M M') (h35 : ∀ j, ¬ S 35 j) : IvA M' a v := by
  rcases h with h | ⟨j, h1, h2, h3⟩
  · exact Or.inl h
  · exact Or.inr ⟨j, Nat.lt_of_lt_of_le h1 (F.2.2.1 35), h2, by rw [(F.1 35 j (h35 j) (fun _ => h1)).1]; exact h3⟩
theorem IvA.el {M : Mem} {a : Nat} {v : Int32} (h : IvA M a v) (M2 : Mem) : ElOk M2 a := by
  rcases h with ⟨j, h1, rfl, -⟩ | ⟨j, -, rfl, -⟩
  · exact el_ic h1
  · exact el_in
/-- a walk through list i has come to place c -/
def It (M : Mem) (t i c : Nat) : Prop := t < mC M 34 ∧ mR M 34 t 3 = some (rf 33 i) ∧ mI M 34 t 0 = nI c ∧ mI M 34 t 2 = mI M 33 i 0
theorem It.fx {M M' : Mem} {t i c n s : Nat} {S : Nat → Nat → Prop} (h : It M t i c) (F : Fx S n s M M') (h34 : ¬ S 34 t) (h33 : ¬ S 33 i) : It M' t i c := by
  obtain ⟨h0, h1, h2, h3⟩ := h
  have e34 := F.1 34 t h34 (fun _ => h0)
  have e33 := F.1 33 i h33 (fun z => by unfold inG at z; omega)
  exact ⟨Nat.lt_of_lt_of_le h0 (F.2.2.1 34), by rw [e34.2.2.1]; exact h1, by rw [e34.1]; exact h2, by rw [e34.1, e33.1]; exact h3⟩
