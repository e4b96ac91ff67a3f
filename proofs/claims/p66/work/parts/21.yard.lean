/-! a yard as one value; frames -/
abbrev Yd : Type := (Nat → Nat → Int32) × (Nat → Nat → Int64) × (Nat → Option Nat) × (Nat → Nat → Int32) × (Nat → Int32) × (Nat → Int32) × (Nat → Int32)
def yC (Y : Yd) : Nat → Nat → Int32 := Y.1
def yL (Y : Yd) : Nat → Nat → Int64 := Y.2.1
def yP (Y : Yd) : Nat → Option Nat := Y.2.2.1
def yB (Y : Yd) : Nat → Nat → Int32 := Y.2.2.2.1
def yS (Y : Yd) : Nat → Int32 := Y.2.2.2.2.1
def yT (Y : Yd) : Nat → Int32 := Y.2.2.2.2.2.1
def yF (Y : Yd) : Nat → Int32 := Y.2.2.2.2.2.2
def uC (Y : Yd) (i f : Nat) (v : Int32) : Yd := (fun i' f' => if i' = i ∧ f' = f then v else Y.1 i' f', Y.2)
def uL (Y : Yd) (i f : Nat) (v : Int64) : Yd := (Y.1, (fun i' f' => if i' = i ∧ f' = f then v else Y.2.1 i' f'), Y.2.2)
def uP (Y : Yd) (i : Nat) (v : Option Nat) : Yd := (Y.1, Y.2.1, (fun i' => if i' = i then v else Y.2.2.1 i'), Y.2.2.2)
def uB (Y : Yd) (i f : Nat) (v : Int32) : Yd := (Y.1, Y.2.1, Y.2.2.1, (fun i' f' => if i' = i ∧ f' = f then v else Y.2.2.2.1 i' f'), Y.2.2.2.2)
def uS (Y : Yd) (f : Nat) (v : Int32) : Yd := (Y.1, Y.2.1, Y.2.2.1, Y.2.2.2.1, (fun f' => if f' = f then v else Y.2.2.2.2.1 f'), Y.2.2.2.2.2)
def uT (Y : Yd) (f : Nat) (v : Int32) : Yd := (Y.1, Y.2.1, Y.2.2.1, Y.2.2.2.1, Y.2.2.2.2.1, (fun f' => if f' = f then v else Y.2.2.2.2.2.1 f'), Y.2.2.2.2.2.2)
def uF (Y : Yd) (f : Nat) (v : Int32) : Yd := (Y.1, Y.2.1, Y.2.2.1, Y.2.2.2.1, Y.2.2.2.2.1, Y.2.2.2.2.2.1, fun f' => if f' = f then v else Y.2.2.2.2.2.2 f')
section YR
variable (Y : Yd) (i f i2 f2 : Nat)
theorem yC_uC (v : Int32) : yC (uC Y i f v) i2 f2 = if i2 = i ∧ f2 = f then v else yC Y i2 f2 := rfl
theorem yC_uL (v : Int64) : yC (uL Y i f v) = yC Y := rfl
theorem yC_uP (v : Option Nat) : yC (uP Y i v) = yC Y := rfl
theorem yC_uB (v : Int32) : yC (uB Y i f v) = yC Y := rfl
theorem yC_uS (v : Int32) : yC (uS Y f v) = yC Y := rfl
theorem yC_uT (v : Int32) : yC (uT Y f v) = yC Y := rfl
theorem yC_uF (v : Int32) : yC (uF Y f v) = yC Y := rfl
theorem yL_uC (v : Int32) : yL (uC Y i f v) = yL Y := rfl
theorem yL_uL (v : Int64) : yL (uL Y i f v) i2 f2 = if i2 = i ∧ f2 = f then v else yL Y i2 f2 := rfl
theorem yL_uP (v : Option Nat) : yL (uP Y i v) = yL Y := rfl
theorem yL_uB (v : Int32) : yL (uB Y i f v) = yL Y := rfl
theorem yL_uS (v : Int32) : yL (uS Y f v) = yL Y := rfl
theorem yL_uT (v : Int32) : yL (uT Y f v) = yL Y := rfl
theorem yL_uF (v : Int32) : yL (uF Y f v) = yL Y := rfl
theorem yP_uC (v : Int32) : yP (uC Y i f v) = yP Y := rfl
theorem yP_uL (v : Int64) : yP (uL Y i f v) = yP Y := rfl
theorem yP_uP (v : Option Nat) : yP (uP Y i v) i2 = if i2 = i then v else yP Y i2 := rfl
theorem yP_uB (v : Int32) : yP (uB Y i f v) = yP Y := rfl
theorem yP_uS (v : Int32) : yP (uS Y f v) = yP Y := rfl
theorem yP_uT (v : Int32) : yP (uT Y f v) = yP Y := rfl
theorem yP_uF (v : Int32) : yP (uF Y f v) = yP Y := rfl
theorem yB_uC (v : Int32) : yB (uC Y i f v) = yB Y := rfl
theorem yB_uL (v : Int64) : yB (uL Y i f v) = yB Y := rfl
theorem yB_uP (v : Option Nat) : yB (uP Y i v) = yB Y := rfl
theorem yB_uB (v : Int32) : yB (uB Y i f v) i2 f2 = if i2 = i ∧ f2 = f then v else yB Y i2 f2 := rfl
theorem yB_uS (v : Int32) : yB (uS Y f v) = yB Y := rfl
theorem yB_uT (v : Int32) : yB (uT Y f v) = yB Y := rfl
theorem yB_uF (v : Int32) : yB (uF Y f v) = yB Y := rfl
theorem yS_uC (v : Int32) : yS (uC Y i f v) = yS Y := rfl
theorem yS_uL (v : Int64) : yS (uL Y i f v) = yS Y := rfl
theorem yS_uP (v : Option Nat) : yS (uP Y i v) = yS Y := rfl
theorem yS_uB (v : Int32) : yS (uB Y i f v) = yS Y := rfl
theorem yS_uS (v : Int32) : yS (uS Y f v) f2 = if f2 = f then v else yS Y f2 := rfl
theorem yS_uT (v : Int32) : yS (uT Y f v) = yS Y := rfl
theorem yS_uF (v : Int32) : yS (uF Y f v) = yS Y := rfl
theorem yT_uC (v : Int32) : yT (uC Y i f v) = yT Y := rfl
theorem yT_uL (v : Int64) : yT (uL Y i f v) = yT Y := rfl
theorem yT_uP (v : Option Nat) : yT (uP Y i v) = yT Y := rfl
theorem yT_uB (v : Int32) : yT (uB Y i f v) = yT Y := rfl
theorem yT_uS (v : Int32) : yT (uS Y f v) = yT Y := rfl
theorem yT_uT (v : Int32) : yT (uT Y f v) f2 = if f2 = f then v else yT Y f2 := rfl
theorem yT_uF (v : Int32) : yT (uF Y f v) = yT Y := rfl
theorem yF_uC (v : Int32) : yF (uC Y i f v) = yF Y := rfl
theorem yF_uL (v : Int64) : yF (uL Y i f v) = yF Y := rfl
theorem yF_uP (v : Option Nat) : yF (uP Y i v) = yF Y := rfl
theorem yF_uB (v : Int32) : yF (uB Y i f v) = yF Y := rfl
theorem yF_uS (v : Int32) : yF (uS Y f v) = yF Y := rfl
theorem yF_uT (v : Int32) : yF (uT Y f v) = yF Y := rfl
theorem yF_uF (v : Int32) : yF (uF Y f v) f2 = if f2 = f then v else yF Y f2 := rfl
end YR
def inY (y k i : Nat) : Prop := (k = 1 ∧ i / 16 = y) ∨ (k = 0 ∧ i / 6 = y) ∨ ((k = 3 ∨ k = 8 ∨ k = 9 ∨ k = 17 ∨ k = 18) ∧ i = y)
theorem inY_u {y y' k i : Nat} (h : inY y k i) (h2 : inY y' k i) : y = y' := by
  unfold inY at h h2
  omega
/-- all outside S is as it was -/
def Fr (S : Nat → Nat → Prop) (M M' : Mem) : Prop := mC M' = mC M ∧ mN M' = mN M ∧ mK M' = mK M ∧ mS M' = mS M ∧ ∀ k i, ¬ S k i → mI M' k i = mI M k i ∧ mL M' k i = mL M k i ∧ mR M' k i = mR M k i ∧ mD M' k i = mD M k i
theorem Fr.rf (S : Nat → Nat → Prop) (M : Mem) : Fr S M M := ⟨rfl, rfl, rfl, rfl, fun _ _ _ => ⟨rfl, rfl, rfl, rfl⟩⟩
theorem Fr.tr {S : Nat → Nat → Prop} {M M' M'' : Mem} (h : Fr S M M') (h2 : Fr S M' M'') : Fr S M M'' :=
  ⟨h2.1.trans h.1, h2.2.1.trans h.2.1, h2.2.2.1.trans h.2.2.1, h2.2.2.2.1.trans h.2.2.2.1, fun k i hn => ⟨(h2.2.2.2.2 k i hn).1.trans (h.2.2.2.2 k i hn).1, (h2.2.2.2.2 k i hn).2.1.trans (h.2.2.2.2 k i hn).2.1, (h2.2.2.2.2 k i hn).2.2.1.trans (h.2.2.2.2 k i hn).2.2.1, (h2.2.2.2.2 k i hn).2.2.2.trans (h.2.2.2.2 k i hn).2.2.2⟩⟩
theorem Fr.mo {S S' : Nat → Nat → Prop} {M M' : Mem} (h : Fr S M M') (hs : ∀ k i, S k i → S' k i) : Fr S' M M' :=
  ⟨h.1, h.2.1, h.2.2.1, h.2.2.2.1, fun k i hn => h.2.2.2.2 k i fun z => hn (hs k i z)⟩
theorem up3_ne {α : Type} {F : Nat → Nat → Nat → α} {k i f : Nat} {v : α} {k' i' : Nat} (h : ¬ (k' = k ∧ i' = i)) : up3 F k i f v k' i' = F k' i' := by
  funext f'
  unfold up3
  exact if_neg fun z => h ⟨z.1, z.2.1⟩
theorem Fr.sI {S : Nat → Nat → Prop} {M M' : Mem} {k i f : Nat} {v : Int32} (h : Fr S M M') (hs : S k i) : Fr S M (sI M' k i f v) :=
  h.tr ⟨rfl, rfl, rfl, rfl, fun k' i' hn => ⟨up3_ne fun z => hn (by rw [z.1, z.2]; exact hs), rfl, rfl, rfl⟩⟩
theorem Fr.sL {S : Nat → Nat → Prop} {M M' : Mem} {k i f : Nat} {v : Int64} (h : Fr S M M') (hs : S k i) : Fr S M (sL M' k i f v) :=
  h.tr ⟨rfl, rfl, rfl, rfl, fun k' i' hn => ⟨rfl, up3_ne fun z => hn (by rw [z.1, z.2]; exact hs), rfl, rfl⟩⟩
theorem Fr.sR {S : Nat → Nat → Prop} {M M' : Mem} {k i f : Nat} {v : Option Nat} (h : Fr S M M') (hs : S k i) : Fr S M (sR M' k i f v) :=
  h.tr ⟨rfl, rfl, rfl, rfl, fun k' i' hn => ⟨rfl, rfl, up3_ne fun z => hn (by rw [z.1, z.2]; exact hs), rfl⟩⟩
/-- how a yard hangs together -/
def Lay (M : Mem) (y : Nat) : Prop := mR M 9 y 0 = some (rf 18 y) ∧ mR M 9 y 1 = some (rf 17 y) ∧ mR M 9 y 2 = some (rf 3 y) ∧ mR M 9 y 3 = some (rf 8 y) ∧ mN M 18 y = 16 ∧ mN M 17 y = 6 ∧ (∀ i, i < 16 → mR M 18 y i = some (rf 1 (16 * y + i))) ∧ ∀ j, j < 6 → mR M 17 y j = some (rf 0 (6 * y + j))
/-- the fields that there are -/
def vC (f : Nat) : Bool := decide (f ∈ [0, 1, 2, 3, 4, 6, 7, 8, 11, 12])
def vL (f : Nat) : Bool := decide (f ∈ [9, 10])
def vB (f : Nat) : Bool := decide (f ∈ [0, 1, 2, 3, 4, 5])
def vS (f : Nat) : Bool := decide (f ∈ [0, 1, 2, 3])
def vT (f : Nat) : Bool := decide (f ∈ [0, 1, 2, 3, 4, 5, 6])
def vF (f : Nat) : Bool := decide (f ∈ [4, 5, 6, 7, 8])
def Nf (Y : Yd) : Prop := (∀ i, i < 16 → ∀ f, vC f = false → yC Y i f = 0) ∧ (∀ i, i < 16 → ∀ f, vL f = false → yL Y i f = 0) ∧ (∀ j, j < 6 → ∀ f, vB f = false → yB Y j f = 0) ∧ (∀ f, vS f = false → yS Y f = 0) ∧ (∀ f, vT f = false → yT Y f = 0) ∧ ∀ f, vF f = false → yF Y f = 0
theorem tf_n {b : Bool} (h : b = true) (h2 : b = false) : False := by rw [h] at h2; cases h2
theorem Nf.uC {Y : Yd} (h : Nf Y) {i f : Nat} {v : Int32} (hf : vC f = true) : Nf (uC Y i f v) :=
  ⟨fun i' hi f' hf' => by rw [yC_uC, if_neg (fun z => tf_n hf (by rw [← z.2]; exact hf'))]; exact h.1 i' hi f' hf', h.2⟩
theorem Nf.uL {Y : Yd} (h : Nf Y) {i f : Nat} {v : Int64} (hf : vL f = true) : Nf (uL Y i f v) :=
  ⟨h.1, fun i' hi f' hf' => by rw [yL_uL, if_neg (fun z => tf_n hf (by rw [← z.2]; exact hf'))]; exact h.2.1 i' hi f' hf', h.2.2⟩
theorem Nf.uP {Y : Yd} (h : Nf Y) {i : Nat} {v : Option Nat} : Nf (uP Y i v) := h
theorem Nf.uB {Y : Yd} (h : Nf Y) {i f : Nat} {v : Int32} (hf : vB f = true) : Nf (uB Y i f v) :=
  ⟨h.1, h.2.1, fun i' hi f' hf' => by rw [yB_uB, if_neg (fun z => tf_n hf (by rw [← z.2]; exact hf'))]; exact h.2.2.1 i' hi f' hf', h.2.2.2⟩
theorem Nf.uS {Y : Yd} (h : Nf Y) {f : Nat} {v : Int32} (hf : vS f = true) : Nf (uS Y f v) :=
  ⟨h.1, h.2.1, h.2.2.1, fun f' hf' => by rw [yS_uS, if_neg (fun z => tf_n hf (by rw [← z]; exact hf'))]; exact h.2.2.2.1 f' hf', h.2.2.2.2⟩
theorem Nf.uT {Y : Yd} (h : Nf Y) {f : Nat} {v : Int32} (hf : vT f = true) : Nf (uT Y f v) :=
  ⟨h.1, h.2.1, h.2.2.1, h.2.2.2.1, fun f' hf' => by rw [yT_uT, if_neg (fun z => tf_n hf (by rw [← z]; exact hf'))]; exact h.2.2.2.2.1 f' hf', h.2.2.2.2.2⟩
theorem Nf.uF {Y : Yd} (h : Nf Y) {f : Nat} {v : Int32} (hf : vF f = true) : Nf (uF Y f v) :=
  ⟨h.1, h.2.1, h.2.2.1, h.2.2.2.1, h.2.2.2.2.1, fun f' hf' => by rw [yF_uF, if_neg (fun z => tf_n hf (by rw [← z]; exact hf'))]; exact h.2.2.2.2.2 f' hf'⟩
/-- the value of a yard -/
def Yv (M : Mem) (y : Nat) (Y : Yd) : Prop := Lay M y ∧ (∀ i, i < 16 → ∀ f, mI M 1 (16 * y + i) f = yC Y i f) ∧ (∀ i, i < 16 → ∀ f, mL M 1 (16 * y + i) f = yL Y i f) ∧ (∀ i, i < 16 → mR M 1 (16 * y + i) 5 = (yP Y i).map (fun j => rf 1 (16 * y + j))) ∧ (∀ i, i < 16 → ∀ j, yP Y i = some j → j < 16) ∧ (∀ j, j < 6 → ∀ f, mI M 0 (6 * y + j) f = yB Y j f) ∧ (∀ f, mI M 3 y f = yS Y f) ∧ (∀ f, mI M 8 y f = yT Y f) ∧ (∀ f, mI M 9 y f = yF Y f) ∧ (∀ i, i < 16 → yC Y i 0 = nI i) ∧ (∀ j, j < 6 → yB Y j 0 = nI j) ∧ Nf Y
section YW
variable {M M' : Mem} {y : Nat} {Y : Yd}
theorem Yv.lay (h : Yv M y Y) : Lay M y := h.1
theorem Yv.rC (h : Yv M y Y) {i : Nat} (hi : i < 16) (f : Nat) : mI M 1 (16 * y + i) f = yC Y i f := h.2.1 i hi f
theorem Yv.rL (h : Yv M y Y) {i : Nat} (hi : i < 16) (f : Nat) : mL M 1 (16 * y + i) f = yL Y i f := h.2.2.1 i hi f
theorem Yv.rP (h : Yv M y Y) {i : Nat} (hi : i < 16) : mR M 1 (16 * y + i) 5 = (yP Y i).map (fun j => rf 1 (16 * y + j)) := h.2.2.2.1 i hi
theorem Yv.lP (h : Yv M y Y) {i j : Nat} (hi : i < 16) (hj : yP Y i = some j) : j < 16 := h.2.2.2.2.1 i hi j hj
theorem Yv.rB (h : Yv M y Y) {j : Nat} (hj : j < 6) (f : Nat) : mI M 0 (6 * y + j) f = yB Y j f := h.2.2.2.2.2.1 j hj f
theorem Yv.rS (h : Yv M y Y) (f : Nat) : mI M 3 y f = yS Y f := h.2.2.2.2.2.2.1 f
theorem Yv.rT (h : Yv M y Y) (f : Nat) : mI M 8 y f = yT Y f := h.2.2.2.2.2.2.2.1 f
theorem Yv.rF (h : Yv M y Y) (f : Nat) : mI M 9 y f = yF Y f := h.2.2.2.2.2.2.2.2.1 f
theorem Yv.xC (h : Yv M y Y) {i : Nat} (hi : i < 16) : yC Y i 0 = nI i := h.2.2.2.2.2.2.2.2.2.1 i hi
theorem Yv.xB (h : Yv M y Y) {j : Nat} (hj : j < 6) : yB Y j 0 = nI j := h.2.2.2.2.2.2.2.2.2.2.1 j hj
theorem Yv.nf (h : Yv M y Y) : Nf Y := h.2.2.2.2.2.2.2.2.2.2.2
theorem Yv.sC (h : Yv M y Y) {i f : Nat} {v v' : Int32} (hi : i < 16) (hf : f ≠ 0) (hf2 : vC f = true) (hv : v = v') : Yv (sI M 1 (16 * y + i) f v) y (uC Y i f v') := by
  subst hv
  obtain ⟨h1, h2, h3, h4, h5, h6, h7, h8, h9, h10, h11, h12⟩ := h
  refine ⟨h1, fun i' hi' f' => ?_, h3, h4, h5, fun j hj f' => ?_, fun f' => ?_, fun f' => ?_, fun f' => ?_, fun i' hi' => ?_, h11, h12.uC hf2⟩
  · rw [mI_sI, yC_uC, h2 i' hi' f']
    by_cases e : i' = i ∧ f' = f
    · rw [if_pos e, if_pos ⟨rfl, by rw [e.1], e.2⟩]
    · rw [if_neg e, if_neg (fun z => e ⟨by omega, z.2.2⟩)]
  · rw [mI_sI, if_neg (by omega)]; exact h6 j hj f'
  · rw [mI_sI, if_neg (by omega)]; exact h7 f'
  · rw [mI_sI, if_neg (by omega)]; exact h8 f'
  · rw [mI_sI, if_neg (by omega)]; exact h9 f'
  · rw [yC_uC, if_neg (fun z => hf z.2.symm)]; exact h10 i' hi'
theorem Yv.sB (h : Yv M y Y) {i f : Nat} {v v' : Int32} (hi : i < 6) (hf : f ≠ 0) (hf2 : vB f = true) (hv : v = v') : Yv (sI M 0 (6 * y + i) f v) y (uB Y i f v') := by
  subst hv
  obtain ⟨h1, h2, h3, h4, h5, h6, h7, h8, h9, h10, h11, h12⟩ := h
  refine ⟨h1, fun i' hi' f' => ?_, h3, h4, h5, fun j hj f' => ?_, fun f' => ?_, fun f' => ?_, fun f' => ?_, h10, fun i' hi' => ?_, h12.uB hf2⟩
  · rw [mI_sI, if_neg (by omega)]; exact h2 i' hi' f'
  · rw [mI_sI, yB_uB, h6 j hj f']
    by_cases e : j = i ∧ f' = f
    · rw [if_pos e, if_pos ⟨rfl, by rw [e.1], e.2⟩]
    · rw [if_neg e, if_neg (fun z => e ⟨by omega, z.2.2⟩)]
  · rw [mI_sI, if_neg (by omega)]; exact h7 f'
  · rw [mI_sI, if_neg (by omega)]; exact h8 f'
  · rw [mI_sI, if_neg (by omega)]; exact h9 f'
  · rw [yB_uB, if_neg (fun z => hf z.2.symm)]; exact h11 i' hi'
theorem Yv.sL (h : Yv M y Y) {i f : Nat} {v v' : Int64} (hi : i < 16) (hf2 : vL f = true) (hv : v = v') : Yv (sL M 1 (16 * y + i) f v) y (uL Y i f v') := by
  subst hv
  obtain ⟨h1, h2, h3, h4, h5, h6, h7, h8, h9, h10, h11, h12⟩ := h
  refine ⟨h1, h2, fun i' hi' f' => ?_, h4, h5, h6, h7, h8, h9, h10, h11, h12.uL hf2⟩
  rw [mL_sL, yL_uL, h3 i' hi' f']
  by_cases e : i' = i ∧ f' = f
  · rw [if_pos e, if_pos ⟨rfl, by rw [e.1], e.2⟩]
  · rw [if_neg e, if_neg (fun z => e ⟨by omega, z.2.2⟩)]
theorem Yv.sP (h : Yv M y Y) {i : Nat} {v : Option Nat} {p : Option Nat} (hi : i < 16) (hp : ∀ j, p = some j → j < 16) (hv : v = p.map (fun j => rf 1 (16 * y + j))) : Yv (sR M 1 (16 * y + i) 5 v) y (uP Y i p) := by
  subst hv
  obtain ⟨h1, h2, h3, h4, h5, h6, h7, h8, h9, h10, h11, h12⟩ := h
  refine ⟨?_, h2, h3, fun i' hi' => ?_, fun i' hi' j' hj' => ?_, h6, h7, h8, h9, h10, h11, h12⟩
  · obtain ⟨a1, a2, a3, a4, a5, a6, a7, a8⟩ := h1
    refine ⟨?_, ?_, ?_, ?_, a5, a6, fun i' hi' => ?_, fun i' hi' => ?_⟩ <;> (rw [mR_sR, if_neg (by omega)]; first | assumption | exact a7 i' hi' | exact a8 i' hi')
  · rw [mR_sR, yP_uP, h4 i' hi']
    by_cases e : i' = i
    · rw [if_pos e, if_pos ⟨rfl, by rw [e], rfl⟩]
    · rw [if_neg e, if_neg (by omega)]
  · rw [yP_uP] at hj'
    by_cases e : i' = i
    · rw [if_pos e] at hj'; exact hp j' hj'
    · rw [if_neg e] at hj'; exact h5 i' hi' j' hj'
theorem Yv.sS (h : Yv M y Y) {f : Nat} {v v' : Int32} (hf2 : vS f = true) (hv : v = v') : Yv (sI M 3 y f v) y (uS Y f v') := by
  subst hv
  obtain ⟨h1, h2, h3, h4, h5, h6, h7, h8, h9, h10, h11, h12⟩ := h
  refine ⟨h1, fun i' hi' f' => ?_, h3, h4, h5, fun j hj f' => ?_, fun f' => ?_, fun f' => ?_, fun f' => ?_, h10, h11, h12.uS hf2⟩
  · rw [mI_sI, if_neg (by omega)]; exact h2 i' hi' f'
  · rw [mI_sI, if_neg (by omega)]; exact h6 j hj f'
  · rw [mI_sI, yS_uS, h7 f']
    by_cases e : f' = f
    · rw [if_pos e, if_pos ⟨rfl, rfl, e⟩]
    · rw [if_neg e, if_neg (fun z => e z.2.2)]
  · rw [mI_sI, if_neg (by omega)]; exact h8 f'
  · rw [mI_sI, if_neg (by omega)]; exact h9 f'
theorem Yv.sT (h : Yv M y Y) {f : Nat} {v v' : Int32} (hf2 : vT f = true) (hv : v = v') : Yv (sI M 8 y f v) y (uT Y f v') := by
  subst hv
  obtain ⟨h1, h2, h3, h4, h5, h6, h7, h8, h9, h10, h11, h12⟩ := h
  refine ⟨h1, fun i' hi' f' => ?_, h3, h4, h5, fun j hj f' => ?_, fun f' => ?_, fun f' => ?_, fun f' => ?_, h10, h11, h12.uT hf2⟩
  · rw [mI_sI, if_neg (by omega)]; exact h2 i' hi' f'
  · rw [mI_sI, if_neg (by omega)]; exact h6 j hj f'
  · rw [mI_sI, if_neg (by omega)]; exact h7 f'
  · rw [mI_sI, yT_uT, h8 f']
    by_cases e : f' = f
    · rw [if_pos e, if_pos ⟨rfl, rfl, e⟩]
    · rw [if_neg e, if_neg (fun z => e z.2.2)]
  · rw [mI_sI, if_neg (by omega)]; exact h9 f'
theorem Yv.sF (h : Yv M y Y) {f : Nat} {v v' : Int32} (hf2 : vF f = true) (hv : v = v') : Yv (sI M 9 y f v) y (uF Y f v') := by
  subst hv
  obtain ⟨h1, h2, h3, h4, h5, h6, h7, h8, h9, h10, h11, h12⟩ := h
  refine ⟨h1, fun i' hi' f' => ?_, h3, h4, h5, fun j hj f' => ?_, fun f' => ?_, fun f' => ?_, fun f' => ?_, h10, h11, h12.uF hf2⟩
  · rw [mI_sI, if_neg (by omega)]; exact h2 i' hi' f'
  · rw [mI_sI, if_neg (by omega)]; exact h6 j hj f'
  · rw [mI_sI, if_neg (by omega)]; exact h7 f'
  · rw [mI_sI, if_neg (by omega)]; exact h8 f'
  · rw [mI_sI, yF_uF, h9 f']
    by_cases e : f' = f
    · rw [if_pos e, if_pos ⟨rfl, rfl, e⟩]
    · rw [if_neg e, if_neg (fun z => e z.2.2)]
/-- what is not written stays -/
theorem Lay.fr {S : Nat → Nat → Prop} (h : Lay M y) (hF : Fr S M M') (hS : ∀ k i, inY y k i → ¬ S k i) : Lay M' y := by
  obtain ⟨a1, a2, a3, a4, a5, a6, a7, a8⟩ := h
  obtain ⟨f1, f2, f3, f4, f5⟩ := hF
  refine ⟨?_, ?_, ?_, ?_, by rw [f2]; exact a5, by rw [f2]; exact a6, fun i hi => ?_, fun i hi => ?_⟩ <;> (rw [(f5 _ _ (hS _ _ (by unfold inY; omega))).2.2.1]; first | assumption | exact a7 i hi | exact a8 i hi)
theorem Yv.fr {S : Nat → Nat → Prop} (h : Yv M y Y) (hF : Fr S M M') (hS : ∀ k i, inY y k i → ¬ S k i) : Yv M' y Y := by
  obtain ⟨h1, h2, h3, h4, h5, h6, h7, h8, h9, h10, h11, h12⟩ := h
  have f5 := hF.2.2.2.2
  refine ⟨h1.fr hF hS, fun i hi f => ?_, fun i hi f => ?_, fun i hi => ?_, h5, fun j hj f => ?_, fun f => ?_, fun f => ?_, fun f => ?_, h10, h11, h12⟩
  · rw [(f5 _ _ (hS _ _ (by unfold inY; omega))).1]; exact h2 i hi f
  · rw [(f5 _ _ (hS _ _ (by unfold inY; omega))).2.1]; exact h3 i hi f
  · rw [(f5 _ _ (hS _ _ (by unfold inY; omega))).2.2.1]; exact h4 i hi
  · rw [(f5 _ _ (hS _ _ (by unfold inY; omega))).1]; exact h6 j hj f
  · rw [(f5 _ _ (hS _ _ (by unfold inY; omega))).1]; exact h7 f
  · rw [(f5 _ _ (hS _ _ (by unfold inY; omega))).1]; exact h8 f
  · rw [(f5 _ _ (hS _ _ (by unfold inY; omega))).1]; exact h9 f
theorem Yv.other {y' : Nat} (h : Yv M y Y) (hF : Fr (inY y') M M') (hn : y ≠ y') : Yv M' y Y := h.fr hF fun k i h1 h2 => hn (inY_u h1 h2)
theorem inY_C {i : Nat} (hi : i < 16) : inY y 1 (16 * y + i) := by unfold inY; omega
theorem inY_B {j : Nat} (hj : j < 6) : inY y 0 (6 * y + j) := by unfold inY; omega
theorem inY_S : inY y 3 y := by unfold inY; omega
theorem inY_T : inY y 8 y := by unfold inY; omega
theorem inY_F : inY y 9 y := by unfold inY; omega
theorem Yv.tC (h : Yv M y Y) {i f : Nat} {v v' : Int32} (hi : i < 16) (hf : f ≠ 0) (hf2 : vC f = true) (hv : Yv M y Y → v = v') : Yv (sI M 1 (16 * y + i) f v) y (uC Y i f v') := h.sC hi hf hf2 (hv h)
theorem YtL (h : Yv M y Y) {i f : Nat} {v v' : Int64} (hi : i < 16) (hf2 : vL f = true) (hv : Yv M y Y → v = v') : Yv (sL M 1 (16 * y + i) f v) y (uL Y i f v') := h.sL hi hf2 (hv h)
theorem Yv.tB (h : Yv M y Y) {i f : Nat} {v v' : Int32} (hi : i < 6) (hf : f ≠ 0) (hf2 : vB f = true) (hv : Yv M y Y → v = v') : Yv (sI M 0 (6 * y + i) f v) y (uB Y i f v') := h.sB hi hf hf2 (hv h)
theorem Yv.tS (h : Yv M y Y) {f : Nat} {v v' : Int32} (hf2 : vS f = true) (hv : Yv M y Y → v = v') : Yv (sI M 3 y f v) y (uS Y f v') := h.sS hf2 (hv h)
theorem Yv.tT (h : Yv M y Y) {f : Nat} {v v' : Int32} (hf2 : vT f = true) (hv : Yv M y Y → v = v') : Yv (sI M 8 y f v) y (uT Y f v') := h.sT hf2 (hv h)
theorem Yv.tF (h : Yv M y Y) {f : Nat} {v v' : Int32} (hf2 : vF f = true) (hv : Yv M y Y → v = v') : Yv (sI M 9 y f v) y (uF Y f v') := h.sF hf2 (hv h)
theorem Yv.cong {Z : Yd} (h : Yv M y Y) (nz : Nf Z) (eC : ∀ i, i < 16 → ∀ f, vC f = true → yC Y i f = yC Z i f) (eL : ∀ i, i < 16 → ∀ f, vL f = true → yL Y i f = yL Z i f) (eP : ∀ i, i < 16 → yP Y i = yP Z i) (eB : ∀ j, j < 6 → ∀ f, vB f = true → yB Y j f = yB Z j f) (eS : ∀ f, vS f = true → yS Y f = yS Z f) (eT : ∀ f, vT f = true → yT Y f = yT Z f) (eF : ∀ f, vF f = true → yF Y f = yF Z f) : Yv M y Z := by
  obtain ⟨h1, h2, h3, h4, h5, h6, h7, h8, h9, h10, h11, h12⟩ := h
  obtain ⟨a1, a2, a3, a4, a5, a6⟩ := h12
  obtain ⟨b1, b2, b3, b4, b5, b6⟩ := nz
  refine ⟨h1, fun i hi f => (h2 i hi f).trans ?_, fun i hi f => (h3 i hi f).trans ?_, fun i hi => by rw [h4 i hi, eP i hi], fun i hi j hj => h5 i hi j ((eP i hi).trans hj), fun j hj f => (h6 j hj f).trans ?_, fun f => (h7 f).trans ?_, fun f => (h8 f).trans ?_, fun f => (h9 f).trans ?_, fun i hi => (eC i hi 0 rfl).symm.trans (h10 i hi), fun j hj => (eB j hj 0 rfl).symm.trans (h11 j hj), b1, b2, b3, b4, b5, b6⟩
  · cases e : vC f with
    | true => exact eC i hi f e
    | false => exact (a1 i hi f e).trans (b1 i hi f e).symm
  · cases e : vL f with
    | true => exact eL i hi f e
    | false => exact (a2 i hi f e).trans (b2 i hi f e).symm
  · cases e : vB f with
    | true => exact eB j hj f e
    | false => exact (a3 j hj f e).trans (b3 j hj f e).symm
  · cases e : vS f with
    | true => exact eS f e
    | false => exact (a4 f e).trans (b4 f e).symm
  · cases e : vT f with
    | true => exact eT f e
    | false => exact (a5 f e).trans (b5 f e).symm
  · cases e : vF f with
    | true => exact eF f e
    | false => exact (a6 f e).trans (b6 f e).symm
theorem vC_or {f : Nat} (h : vC f = true) : f = 0 ∨ f = 1 ∨ f = 2 ∨ f = 3 ∨ f = 4 ∨ f = 6 ∨ f = 7 ∨ f = 8 ∨ f = 11 ∨ f = 12 := by simpa [vC] using h
theorem vL_or {f : Nat} (h : vL f = true) : f = 9 ∨ f = 10 := by simpa [vL] using h
theorem vB_or {f : Nat} (h : vB f = true) : f = 0 ∨ f = 1 ∨ f = 2 ∨ f = 3 ∨ f = 4 ∨ f = 5 := by simpa [vB] using h
theorem vS_or {f : Nat} (h : vS f = true) : f = 0 ∨ f = 1 ∨ f = 2 ∨ f = 3 := by simpa [vS] using h
theorem vT_or {f : Nat} (h : vT f = true) : f = 0 ∨ f = 1 ∨ f = 2 ∨ f = 3 ∨ f = 4 ∨ f = 5 ∨ f = 6 := by simpa [vT] using h
theorem vF_or {f : Nat} (h : vF f = true) : f = 4 ∨ f = 5 ∨ f = 6 ∨ f = 7 ∨ f = 8 := by simpa [vF] using h
theorem lay0 (h : Lay M y) : mR M 9 y 0 = some (rf 18 y) := h.1
theorem lay1 (h : Lay M y) : mR M 9 y 1 = some (rf 17 y) := h.2.1
theorem lay2 (h : Lay M y) : mR M 9 y 2 = some (rf 3 y) := h.2.2.1
theorem lay3 (h : Lay M y) : mR M 9 y 3 = some (rf 8 y) := h.2.2.2.1
theorem lay4 (h : Lay M y) : mN M 18 y = 16 := h.2.2.2.2.1
theorem lay5 (h : Lay M y) : mN M 17 y = 6 := h.2.2.2.2.2.1
theorem Lay.cr (h : Lay M y) {i : Nat} (hi : i < 16) : mR M 18 y (nI i).toNatClampNeg = some (rf 1 (16 * y + i)) := by rw [nI_clamp (by omega)]; exact h.2.2.2.2.2.2.1 i hi
theorem Lay.crl (h : Lay M y) {i : Nat} (hi : i < 16) : (nI i).toNatClampNeg < mN M 18 y := by rw [nI_clamp (by omega), h.2.2.2.2.1]; exact hi
theorem Lay.br (h : Lay M y) {i : Nat} (hi : i < 6) : mR M 17 y (nI i).toNatClampNeg = some (rf 0 (6 * y + i)) := by rw [nI_clamp (by omega)]; exact h.2.2.2.2.2.2.2 i hi
theorem Lay.brl (h : Lay M y) {i : Nat} (hi : i < 6) : (nI i).toNatClampNeg < mN M 17 y := by rw [nI_clamp (by omega), h.2.2.2.2.2.1]; exact hi
theorem inc_nI (i : Nat) : nI i + Int32.ofInt 1 = nI (i + 1) := (nI_succ i).symm
end YW
section MR2
variable {m : MRec} {d pc : Nat} {ls st : List Value} {M : Mem} {Q : Out → Mem → Prop}
theorem R.alenS {k i n : Nat} (hx : mN M k i = n) (h1 : 13 ≤ k) (h2 : k < 21) (hd : decode m.2.1 pc = .ok (.arraylength, 1)) (kn9 : WP m d (pc + 1) ls (.int (nI n) :: st) M Q) : WP m d pc ls (.ref (rf k i) :: st) M Q :=
  R.alen h1 h2 hd (by rw [hx]; exact kn9)
theorem R.geT {x y : Int32} {off : Int} {tgt : Nat} (hc : y ≤ x) (hd : decode m.2.1 pc = .ok (.if_icmp .ge off, 3)) (ht : (pc : Int) + off = (tgt : Int)) (kt : WP m d tgt ls st M Q) : WP m d pc ls (.int y :: .int x :: st) M Q :=
  R.icmp_ge hd ht (fun _ => kt) (fun c => absurd hc c)
theorem R.geF {x y : Int32} {off : Int} {tgt : Nat} (hc : ¬ y ≤ x) (hd : decode m.2.1 pc = .ok (.if_icmp .ge off, 3)) (ht : (pc : Int) + off = (tgt : Int)) (kf : WP m d (pc + 3) ls st M Q) : WP m d pc ls (.int y :: .int x :: st) M Q :=
  R.icmp_ge hd ht (fun c => absurd c hc) (fun _ => kf)
end MR2
