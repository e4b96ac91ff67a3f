/-! the model as a whole -/
def inM (k _i : Nat) : Prop := k = 11 ∨ k = 14
/-- a yard, and the array that stands for it -/
def YI (Y : Yd) (T : Nat) (w : Nat → Int32) : Prop := ∃ m b, RW Y m b T w ∧ PV Y m b T
def MV (M : Mem) (V : Option Yd) (T : Nat) : Prop := match V with
  | none => mI M 11 0 6 = 0
  | some Z => mI M 11 0 6 = 1 ∧ YI Z T (mI M 14 3)
def MH (M : Mem) (H : List Yd) (T : Nat) : Prop := mI M 11 0 5 = nI H.length ∧ H.length ≤ 8 ∧ ∀ j Z, H[j]? = some Z → YI Z T (fun x => mI M 14 4 (370 * (H.length - 1 - j) + x))
/-- a byte of the model's, and the class's -/
def BY (u b : Int32) : Prop := (u = b ∧ 0 ≤ b.toInt ∧ b.toInt < 128) ∨ (128 ≤ u.toInt ∧ u.toInt < 256 ∧ b.toInt < 0)
def MI (M : Mem) (b : Nat → Int32) (n : Nat) : Prop := mI M 11 0 9 = nI n ∧ n ≤ 600 ∧ ∀ i, i < n → BY (mI M 14 5 i) (b i)
def OB (O : List Int32) : Prop := O.length ≤ 300 ∧ ∀ c ∈ O, ∃ k, c = nI k ∧ k < 128
/-- the model that stands for the class in the state S -/
def MSt (M : Mem) (S : KS) (T : Nat) : Prop := ML M ∧ YI (kY S) T (mI M 14 0) ∧ MV M (kV S) T ∧ MH M (kH S) T ∧ MI M (kB S) (kN S) ∧ (mI M 11 0 10 = kE S ∧ mI M 11 0 11 = kQ S) ∧ OU M (kO S) ∧ OB (kO S)
section MSS
variable {M M' : Mem} {S : KS} {T T' : Nat}
theorem RW.mono {Y : Yd} {m b K K' : Nat} {w : Nat → Int32} (h : RW Y m b K w) (hK : K ≤ K') : RW Y m b K' w := by
  obtain ⟨t1, a1, d1, g1, b1, n1, s1, ⟨k, k1, k2, k3⟩, bl⟩ := h
  exact ⟨t1, a1, d1, g1, b1, n1, s1, ⟨k, k1, by omega, k3⟩, bl⟩
theorem YI.mono {Y : Yd} {w : Nat → Int32} (h : YI Y T w) (hT : T ≤ T') : YI Y T' w := by
  obtain ⟨m, b, h1, h2⟩ := h
  exact ⟨m, b, h1.mono hT, h2.mono hT⟩
theorem YI.eq {Y : Yd} {w w' : Nat → Int32} (h : YI Y T w) (hw : ∀ x, x < 370 → w' x = w x) : YI Y T w' := by
  obtain ⟨m, b, h1, h2⟩ := h
  exact ⟨m, b, h1.eq hw, h2⟩
theorem MSt.l (h : MSt M S T) : ML M := h.1
theorem MSt.y (h : MSt M S T) : YI (kY S) T (mI M 14 0) := h.2.1
theorem MSt.v (h : MSt M S T) : MV M (kV S) T := h.2.2.1
theorem MSt.h (h : MSt M S T) : MH M (kH S) T := h.2.2.2.1
theorem MSt.i (h : MSt M S T) : MI M (kB S) (kN S) := h.2.2.2.2.1
theorem MSt.e (h : MSt M S T) : mI M 11 0 10 = kE S := h.2.2.2.2.2.1.1
theorem MSt.q (h : MSt M S T) : mI M 11 0 11 = kQ S := h.2.2.2.2.2.1.2
theorem MSt.o (h : MSt M S T) : OU M (kO S) := h.2.2.2.2.2.2.1
theorem MSt.ob (h : MSt M S T) : OB (kO S) := h.2.2.2.2.2.2.2
theorem ML.fr (h : ML M) (hR : mR M' 11 0 = mR M 11 0) (hN : mN M' 14 = mN M 14) : ML M' := by
  unfold ML at h ⊢
  rw [hR, hN]
  exact h
theorem MV.fr {V : Option Yd} (h : MV M V T) (h6 : mI M' 11 0 6 = mI M 11 0 6) (h3 : mI M' 14 3 = mI M 14 3) : MV M' V T := by
  unfold MV at h ⊢
  rw [h6, h3]
  exact h
theorem MV.mono {V : Option Yd} (h : MV M V T) (hT : T ≤ T') : MV M V T' := by
  unfold MV at h ⊢
  cases V with
  | none => exact h
  | some Z => exact ⟨h.1, h.2.mono hT⟩
theorem MH.fr {H : List Yd} (h : MH M H T) (h5 : mI M' 11 0 5 = mI M 11 0 5) (h4 : mI M' 14 4 = mI M 14 4) : MH M' H T := by
  unfold MH at h ⊢
  rw [h5, h4]
  exact h
theorem MH.mono {H : List Yd} (h : MH M H T) (hT : T ≤ T') : MH M H T' := ⟨h.1, h.2.1, fun j Z e => (h.2.2 j Z e).mono hT⟩
theorem MI.fr {b : Nat → Int32} {n : Nat} (h : MI M b n) (h9 : mI M' 11 0 9 = mI M 11 0 9) (h5 : mI M' 14 5 = mI M 14 5) : MI M' b n := by
  unfold MI at h ⊢
  rw [h9, h5]
  exact h
theorem OU.fr {O : List Int32} (h : OU M O) (h25 : mI M' 11 0 25 = mI M 11 0 25) (h10 : mI M' 14 10 = mI M 14 10) : OU M' O := by
  unfold OU at h ⊢
  rw [h25, h10]
  exact h
theorem MSt.fr (h : MSt M S T) (hR : mR M' 11 0 = mR M 11 0) (hN : mN M' 14 = mN M 14) (h14 : ∀ i, (i = 0 ∨ i = 3 ∨ i = 4 ∨ i = 5 ∨ i = 10) → mI M' 14 i = mI M 14 i) (h11 : ∀ f, (f = 5 ∨ f = 6 ∨ f = 9 ∨ f = 10 ∨ f = 11 ∨ f = 25) → mI M' 11 0 f = mI M 11 0 f) : MSt M' S T :=
  ⟨h.l.fr hR hN, by rw [h14 0 (by omega)]; exact h.y, h.v.fr (h11 6 (by omega)) (h14 3 (by omega)), h.h.fr (h11 5 (by omega)) (h14 4 (by omega)), h.i.fr (h11 9 (by omega)) (h14 5 (by omega)), ⟨by rw [h11 10 (by omega)]; exact h.e, by rw [h11 11 (by omega)]; exact h.q⟩, h.o.fr (h11 25 (by omega)) (h14 10 (by omega)), h.ob⟩
theorem MSt.mono (h : MSt M S T) (hT : T ≤ T') : MSt M S T' := ⟨h.l, h.y.mono hT, h.v.mono hT, h.h.mono hT, h.i, ⟨h.e, h.q⟩, h.o, h.ob⟩
/-- what the class does leaves the model as it is -/
theorem MSt.frK (h : MSt M S T) (F : FrK M M') : MSt M' S T := by
  obtain ⟨f1, -⟩ := F
  exact h.fr (f1 11 0 (Or.inl rfl)).2.2.1 (funext fun i => (f1 14 i (Or.inr (Or.inl rfl))).2.2.2.2) (fun i _ => (f1 14 i (Or.inr (Or.inl rfl))).1) (fun f _ => by rw [(f1 11 0 (Or.inl rfl)).1])
theorem MSt.th (h : MSt M S T) (c : Int32) : MSt (sI M 11 0 7 c) S T :=
  h.fr rfl rfl (fun i _ => rfl) (fun f hf => by rw [mI_sI, if_neg (by omega)])
theorem Fr_th (M : Mem) (c : Int32) : Fr inM M (sI M 11 0 7 c) := (Fr.rf _ M).sI (Or.inl rfl)
/-- what the model does leaves the class as it is -/
theorem CSt.frM {p : Nat} (h : CSt M S p) (F : Fr inM M M') : CSt M' S p :=
  h.fr F (by unfold inM; omega) (fun y _ k i z => by unfold inY at z; unfold inM; omega) (by unfold inM; omega) (by unfold inM; omega) (by unfold inM; omega) (by unfold inM; omega) (by unfold inM; omega) (by unfold inM; omega) (by unfold inM; omega) (fun v => by unfold inM; omega)
/-- what the model answers where it changes nothing: by the walk's memory, by its state -/
def QMA (Q : Out → Mem → Prop) (M : Mem) (w : Nat → Int32) (cd : String → Int32) (a : An) : Prop := match a with
  | .inl v => Q (.inl (some (.int v))) (sW (sI M 11 0 7 0) w)
  | .inr E => Q (.inl (some (.int 0))) (sW (sI (sI M 11 0 7 0) 11 0 7 (cd E)) w)
def QMa (Q : Out → Mem → Prop) (M : Mem) (S : KS) (T : Nat) (cd : String → Int32) (a : An) : Prop := match a with
  | .inl v => ∀ M', MSt M' S T → mI M' 11 0 7 = 0 → Fr inM M M' → Q (.inl (some (.int v))) M'
  | .inr E => ∀ M', MSt M' S T → mI M' 11 0 7 = cd E → Fr inM M M' → Q (.inl (some (.int 0))) M'
theorem QMA.of {Q : Out → Mem → Prop} {cd : String → Int32} {a : An} (h : MSt M S T) (hq : QMa Q M S T cd a) : QMA Q M (mI M 14 0) cd a := by
  cases a with
  | inl v =>
    show Q _ (sW (sI M 11 0 7 0) (mI M 14 0))
    rw [bW (show mI (sI M 11 0 7 0) 14 0 = mI M 14 0 from rfl)]
    exact hq _ (h.th 0) (by rw [mI_sI, if_pos ⟨rfl, rfl, rfl⟩]) (Fr_th M 0)
  | inr E =>
    show Q _ (sW (sI (sI M 11 0 7 0) 11 0 7 (cd E)) (mI M 14 0))
    rw [bW (show mI (sI (sI M 11 0 7 0) 11 0 7 (cd E)) 14 0 = mI M 14 0 from rfl)]
    exact hq _ ((h.th 0).th _) (by rw [mI_sI, if_pos ⟨rfl, rfl, rfl⟩]) ((Fr_th M 0).tr (Fr_th _ _))
/-- what the model's exceptions are called: 1, or 1 and 2, or 1, 2 and 3 -/
def cdA (_E : String) : Int32 := 1
def cdB (E : String) : Int32 := if E = eI then 1 else 2
def cdC (E : String) : Int32 := if E = eI then 1 else if E = eA then 2 else 3
theorem cdB_I : cdB eI = 1 := if_pos rfl
theorem cdB_N : cdB eN = 2 := if_neg (by decide)
theorem cdB_S : cdB eS = 2 := if_neg (by decide)
theorem cdC_I : cdC eI = 1 := if_pos rfl
theorem cdC_A : cdC eA = 2 := by decide
theorem cdC_S : cdC eS = 3 := by decide
theorem QMC.of {Q : Out → Mem → Prop} {x : Int32} {f : Nat → Int32} (h : MSt M S T) (hq : QMa Q M S T cdA (aC S x fun i => .inl (f i))) : QMC Q M (mI M 14 0) (kC (kY S) x) f := by
  have k := QMA.of h hq
  unfold aC at k
  unfold QMC
  cases hx : kC (kY S) x with
  | none => rw [hx] at k; exact k
  | some i => rw [hx] at k; exact k
theorem QMC.ofU {Q : Out → Mem → Prop} {x : Int32} {f : Nat → Int32} (h : MSt M S T) (hq : QMa Q M S T cdA (aU S x fun i => .inl (f i))) : QMC Q M (mI M 14 0) (kU (kY S) x) f := by
  have k := QMA.of h hq
  unfold aU at k
  unfold QMC
  cases hx : kU (kY S) x with
  | none => rw [hx] at k; exact k
  | some i => rw [hx] at k; exact k
end MSS
