/-! the law between two commands: class and model stand for one state -/
def in9 (k _i : Nat) : Prop := k = 15 ∨ k = 16
theorem Fr9_L (M : Mem) (v : Int64) : Fr in9 M (sL M 15 0 0 v) := ⟨rfl, rfl, rfl, rfl, fun k i hn => ⟨rfl, up3_ne (fun z => hn (Or.inl z.1)), rfl, rfl⟩⟩
theorem Fr9_D (M : Mem) (v : UInt64) : Fr in9 M (sD M 16 0 0 v) := ⟨rfl, rfl, rfl, rfl, fun k i hn => ⟨rfl, rfl, rfl, up3_ne (fun z => hn (Or.inr z.1))⟩⟩
theorem CSt.f9 {M M' : Mem} {S : KS} {p : Nat} (h : CSt M S p) (F : Fr in9 M M') : CSt M' S p :=
  h.fr F (by unfold in9; omega) (fun y _ k i z => by unfold inY at z; unfold in9; omega) (by unfold in9; omega) (by unfold in9; omega) (by unfold in9; omega) (by unfold in9; omega) (by unfold in9; omega) (by unfold in9; omega) (by unfold in9; omega) (fun v => by unfold in9; omega)
theorem MSt.f9 {M M' : Mem} {S : KS} {T : Nat} (h : MSt M S T) (F : Fr in9 M M') : MSt M' S T := by
  obtain ⟨-, f2, -, -, f5⟩ := F
  exact h.fr (f5 11 0 (by unfold in9; omega)).2.2.1 (by rw [f2]) (fun i _ => (f5 14 i (by unfold in9; omega)).1) (fun f _ => by rw [(f5 11 0 (by unfold in9; omega)).1])
theorem c_ax9 {M : Mem} {S : KS} {p : Nat} (h : CSt M S p) : CSt (ax M) S p := h.ax
set_option maxRecDepth 8000 in
theorem le_601 {a b c n : Nat} (h1 : a ≤ b + 600) (h2 : b ≤ c + 601 * n) : a ≤ c + 601 * (n + 1) := by rw [Nat.mul_add]; omega
set_option maxRecDepth 8000 in
theorem le_1206 {a b c n : Nat} (h1 : a ≤ b + 1200) (h2 : b ≤ c + 1206 * n) : a ≤ c + 1206 * (n + 1) := by rw [Nat.mul_add]; omega
theorem MSt.ax9 {M : Mem} {S : KS} {T : Nat} (h : MSt M S T) : MSt (ax M) S T := h.fr rfl rfl (fun _ _ => rfl) (fun _ _ => rfl)
def LW (M0 M : Mem) (S : KS) (p T n : Nat) : Prop := CSt M S p ∧ MSt M S T ∧ (mN M 15 0 = 1 ∧ mN M 16 0 = 1) ∧ (mN M 27 0 = mN M0 27 0 ∧ mI M 27 0 = mI M0 27 0) ∧ (16 ≤ T ∧ 9 * T + 50 * kN S ≤ 1000 * n + 144 ∧ p ≤ n) ∧ mK M ≤ mK M0 + 601 * n ∧ mS M ≤ mS M0 + 1206 * n
section LWS
variable {M0 M M1 M2 M3 : Mem} {S S' : KS} {p p' T T' n : Nat}
theorem LW.c (h : LW M0 M S p T n) : CSt M S p := h.1
theorem LW.m (h : LW M0 M S p T n) : MSt M S T := h.2.1
theorem LW.n15 (h : LW M0 M S p T n) : mN M 15 0 = 1 := h.2.2.1.1
theorem LW.n16 (h : LW M0 M S p T n) : mN M 16 0 = 1 := h.2.2.1.2
theorem LW.t (h : LW M0 M S p T n) (hn : n < 512) : T ≤ 56800 := by
  have := h.2.2.2.2.1.2.1
  omega
theorem LW.t16 (h : LW M0 M S p T n) : 16 ≤ T := h.2.2.2.2.1.1
theorem LW.p30 (h : LW M0 M S p T n) (hn : n < 512) : p < 2 ^ 30 := by
  have := h.2.2.2.2.1.2.2
  omega
theorem LW.kg (h : LW M0 M S p T n) : KG (kY S) := by
  obtain ⟨m, b, -, hV⟩ := h.m.y
  exact hV.kg
theorem LW.acy (h : LW M0 M S p T n) : Acy (kY S) := by
  obtain ⟨m, b, -, hV⟩ := h.m.y
  exact hV.acy
theorem LW.che (h : LW M0 M S p T n) (hn : n < 512) : ChE (kY S) := by
  obtain ⟨m, b, -, hV⟩ := h.m.y
  have := h.t hn
  exact chE_all (hV.sb (by omega))
theorem LW.gro (h : LW M0 M S p T n) : GrO (kY S) := by
  obtain ⟨m, b, -, hV⟩ := h.m.y
  exact hV.gro
theorem LW.kgH (h : LW M0 M S p T n) : ∀ Z ∈ kH S, KG Z := fun Z hZ => by
  obtain ⟨j, hj⟩ := List.getElem?_of_mem hZ
  obtain ⟨m, b, -, hV⟩ := h.m.h.2.2 j Z hj
  exact hV.kg
theorem LW.kgV (h : LW M0 M S p T n) : ∀ Z, kV S = some Z → KG Z := fun Z hZ => by
  have q := h.m.v
  rw [hZ] at q
  obtain ⟨m, b, -, hV⟩ := q.2
  exact hV.kg
theorem LW.crb (h : LW M0 M S p T n) : ∃ m w, CrB (kY S) m w := by
  obtain ⟨m, b, -, hV⟩ := h.m.y
  exact ⟨m, b, hV.c⟩
/-- the class has done its part, the model too -/
theorem LW.yes (h : LW M0 M S p T n) (c1 : CSt M1 S' p') (F : FrK M M1) (hm : Mono M M1) (F9 : Fr in9 M1 M2) (m3 : MSt M3 S' T') (F2 : Fr inM M2 M3) (hT : T ≤ T') (ha : 9 * T' + 50 * kN S' ≤ 9 * T + 50 * kN S + 1000) (hp : p' ≤ p + 1) : LW M0 M3 S' p' T' (n + 1) := by
  obtain ⟨-, -, ⟨a1, a2⟩, ⟨a3, a4⟩, ⟨a5, a6, a7⟩, a8, a9⟩ := h
  obtain ⟨f1, f2, f3, f4⟩ := F
  obtain ⟨g1, g2, g3, g4, g5⟩ := F9
  obtain ⟨e1, e2, e3, e4, e5⟩ := id F2
  refine ⟨(c1.f9 ⟨g1, g2, g3, g4, g5⟩).frM F2, m3, ⟨?_, ?_⟩, ⟨?_, ?_⟩, ⟨by omega, by omega, by omega⟩, ?_, ?_⟩
  · rw [e2, g2, (f1 15 0 (Or.inr (Or.inr (Or.inl rfl)))).2.2.2.2]; exact a1
  · rw [e2, g2, (f1 16 0 (Or.inr (Or.inr (Or.inr rfl)))).2.2.2.2]; exact a2
  · rw [e2, g2, hm.2.2.2.1]; exact a3
  · rw [(e5 27 0 (by unfold inM; omega)).1, (g5 27 0 (by unfold in9; omega)).1, hm.2.2.2.2]; exact a4
  · rw [e3, g3]; exact le_601 f3 a8
  · rw [e4, g4]; exact le_1206 f4 a9
theorem LW.no (h : LW M0 M S p T n) (m3 : MSt M3 S T) (F2 : Fr inM (ax M) M3) : LW M0 M3 S p T (n + 1) := by
  obtain ⟨a0, -, ⟨a1, a2⟩, ⟨a3, a4⟩, ⟨a5, a6, a7⟩, a8, a9⟩ := h
  obtain ⟨e1, e2, e3, e4, e5⟩ := id F2
  refine ⟨(c_ax9 a0).frM F2, m3, ⟨?_, ?_⟩, ⟨?_, ?_⟩, ⟨by omega, by omega, by omega⟩, ?_, ?_⟩
  · rw [e2]; exact a1
  · rw [e2]; exact a2
  · rw [e2]; exact a3
  · rw [(e5 27 0 (by unfold inM; omega)).1]; exact a4
  · rw [e3]; show mK M + 1 ≤ _; omega
  · rw [e4]; show mS M + 6 ≤ _; omega
end LWS
