/-! what a command may change: the input's length and the count of changes; which exceptions leave it -/
def RO (l : List String) (S : KS) (p : Nat) (r : Rr) : Prop := match r with
  | .inl E => E ∈ l
  | .inr (_, S', p') => kN S' = kN S ∧ p' ≤ p + 1
section ROS
variable {l : List String} {S : KS} {p T : Nat} {x v : Int32} {M : Mem} {Q : Out → Mem → Prop}
theorem RO.c {f : Nat → Rr} (hI : eI ∈ l) (hf : ∀ i, RO l S p (f i)) : RO l S p (rC S x f) := by
  unfold rC
  split
  · exact hI
  · exact hf _
theorem RO.u {f : Nat → Rr} (hI : eI ∈ l) (hf : ∀ i, RO l S p (f i)) : RO l S p (rU S x f) := by
  unfold rU
  split
  · exact hI
  · exact hf _
theorem RO.e {E : String} (h : E ∈ l) : RO l S p (.inl E) := h
theorem RO.one {Y : Yd} : RO l S p (r1 S p v Y) := ⟨rfl, Nat.le_refl _⟩
theorem RO.same : RO l S p (.inr (v, S, p)) := ⟨rfl, Nat.le_succ _⟩
theorem RO.gc {f : Nat → An} (hI : eI ∈ l) (hf : ∀ i, RO l S p (anR S p (f i))) : RO l S p (anR S p (aC S x f)) := by
  unfold aC
  split
  · exact hI
  · exact hf _
theorem RO.gu {f : Nat → An} (hI : eI ∈ l) (hf : ∀ i, RO l S p (anR S p (f i))) : RO l S p (anR S p (aU S x f)) := by
  unfold aU
  split
  · exact hI
  · exact hf _
theorem RO.out {i : Nat} (hS : eS ∈ l) : RO l S p (rOut S p i) := by
  unfold rOut
  split
  · exact hS
  · split
    · exact hS
    · exact RO.one
theorem RO.und (hN : eN ∈ l) : RO l S p (rUnd S p) := by
  unfold rUnd
  split
  · exact hN
  · exact ⟨rfl, by omega⟩
theorem RO.res (hN : eN ∈ l) : RO l S p (rRes S p) := by
  unfold rRes
  split
  · exact hN
  · exact ⟨rfl, by omega⟩
theorem RO.tre (hI : eI ∈ l) : RO l S p (rTre S p x) := by
  unfold rTre
  exact RO.c hI fun i => ⟨rfl, by omega⟩
theorem QMa.r {cd : String → Int32} {a : An} (h : QMr Q M S T cd (anR S p a)) : QMa Q M S T cd a := by
  cases a with
  | inl v => exact fun M' h1 h2 h3 => h M' (h1.mono (Nat.le_succ T)) h2 h3
  | inr E => exact h
end ROS
theorem cdA_ne (E : String) : ¬ cdA E = 0 := by unfold cdA; decide
theorem cdB_ne (E : String) : ¬ cdB E = 0 := by
  unfold cdB
  split <;> decide
theorem cdC_ne (E : String) : ¬ cdC E = 0 := by
  unfold cdC
  split
  · decide
  · split <;> decide
theorem LW.kn {M0 M : Mem} {S : KS} {p T n : Nat} (h : LW M0 M S p T n) : kN S ≤ 600 := h.m.i.2.1
theorem LW.hr {M0 M : Mem} {S : KS} {p T n : Nat} (h : LW M0 M S p T n) (hn : n < 512) : T + ctS S ≤ 56800 := by
  obtain ⟨m, b, hc⟩ := h.crb
  have h1 := ctS_b hc h.kn
  have h2 := h.2.2.2.2.1.2.1
  omega
theorem LW.wr {M0 M : Mem} {S : KS} {p T n : Nat} (h : LW M0 M S p T n) (hn : n < 512) : ∀ i, i < 16 → (wrF (kY S) 5 i).length ≤ 290 := fun i hi => by
  obtain ⟨m, b, -, hV⟩ := h.m.y
  have h1 := h.t hn
  have h2 := hV.wl (by omega) 5 hi
  omega
theorem rLod_i (S : KS) (p : Nat) : ∃ v S', rLod S p = .inr (v, S', p) ∧ kN S' = 0 := by
  unfold rLod
  split
  · exact ⟨_, _, rfl, rfl⟩
  · exact ⟨_, _, rfl, rfl⟩
theorem rRun_i (S : KS) (p : Nat) : ∃ v S' p', rRun S p = .inr (v, S', p') ∧ kN S' = 0 ∧ p' ≤ p + 1 := by
  unfold rRun
  split
  · exact ⟨_, _, _, rfl, rfl, Nat.le_succ _⟩
  · exact ⟨_, _, _, rfl, rfl, Nat.le_refl _⟩
theorem rApp_i (S : KS) (p : Nat) (x1 x2 x3 x4 x5 : Int32) : ∃ v S', rApp S p x1 x2 x3 x4 x5 = .inr (v, S', p) ∧ kN S' ≤ kN S + 20 := by
  unfold rApp
  split
  · exact ⟨_, _, rfl, by omega⟩
  · exact ⟨_, _, rfl, Nat.le_refl _⟩
theorem rTru_i (S : KS) (p : Nat) (x : Int32) (h : kN S ≤ 600) : ∃ v S', rTru S p x = .inr (v, S', p) ∧ kN S' ≤ kN S := by
  unfold rTru
  split
  · exact ⟨_, _, rfl, Nat.le_refl _⟩
  · rename_i hx
    refine ⟨_, _, rfl, ?_⟩
    show x.toNatClampNeg ≤ kN S
    have h0 : ¬ x < 0 := fun z => hx (Or.inl z)
    have h1 : ¬ nI (kN S) < x := fun z => hx (Or.inr z)
    rw [Int32.lt_iff_toInt_lt] at h0 h1
    have e : (nI (kN S)).toInt = (kN S : Int) := nI_toInt (by omega)
    have z0 : (0 : Int32).toInt = 0 := by decide
    rw [e] at h1
    rw [z0] at h0
    unfold Int32.toNatClampNeg
    omega
