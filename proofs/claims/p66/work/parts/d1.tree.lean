/-! the law's tree beside the class's: children's lists, gross weights, heights, who holds whom -/
theorem fold_sm {α : Type} [Lean.Grind.AddCommMonoid α] {g : Nat → α} : ∀ (l : List Nat) (b : α), l.Nodup → (∀ c, c ∈ l → c < 16) → l.foldl (fun a c => a + g c) b = b + sm (fun c => if c ∈ l then g c else 0) 16 := by
  intro l
  induction l with
  | nil =>
    intro b _ _
    rw [sm_z (fun i _ => if_neg (by simp)), az]
    rfl
  | cons c l ih =>
    intro b hn hl
    obtain ⟨h1, h2⟩ := List.nodup_cons.mp hn
    have e1 : sm (fun x => if x ∈ c :: l then g x else 0) 16 = g c + sm (fun x => if x ∈ l then g x else 0) 16 := by
      rw [sm_c (g := fun x => (if x = c then g x else 0) + (if x ∈ l then g x else 0)) (fun x _ => ?_), sm_a, sm_1 (i := c) (hl c List.mem_cons_self) (fun j _ hj => if_neg hj), if_pos rfl]
      by_cases z : x = c
      · subst z
        rw [if_pos List.mem_cons_self, if_pos rfl, if_neg h1, az]
      · by_cases w : x ∈ l
        · rw [if_pos (List.mem_cons_of_mem _ w), if_neg z, if_pos w, za]
        · rw [if_neg (fun q => (List.mem_cons.mp q).elim z w), if_neg z, if_neg w, az]
    rw [List.foldl_cons, ih (b + g c) h2 (fun x hx => hl x (List.mem_cons_of_mem _ hx)), e1, aa]
theorem fold_cg {α : Type} {f g : α → Nat → α} : ∀ (l : List Nat) (b : α), (∀ a c, c ∈ l → f a c = g a c) → l.foldl f b = l.foldl g b := by
  intro l
  induction l with
  | nil => intro b _; rfl
  | cons c l ih =>
    intro b h
    rw [List.foldl_cons, List.foldl_cons, h b c List.mem_cons_self]
    exact ih _ fun a c hc => h a c (List.mem_cons_of_mem _ hc)
/-- l: the children of k, in their order -/
def ChR (Y : Yd) (k : Nat) (l : List Nat) : Prop := (∀ c, c ∈ l ↔ c < 16 ∧ yP Y c = some k) ∧ l.Pairwise (fun a b => (yC Y a 6).toInt < (yC Y b 6).toInt)
theorem ChR.nd {Y : Yd} {k : Nat} {l : List Nat} (h : ChR Y k l) : l.Nodup := h.2.imp (fun hlt e => by subst e; exact absurd hlt (Int.lt_irrefl _))
theorem ChR.sum {α : Type} [Lean.Grind.AddCommMonoid α] {Y : Yd} {k : Nat} {l : List Nat} (h : ChR Y k l) (g : Nat → α) (b : α) : l.foldl (fun a c => a + g c) b = b + sm (fun c => if yP Y c = some k then g c else 0) 16 := by
  rw [fold_sm l b h.nd (fun c hc => ((h.1 c).mp hc).1)]
  congr 1
  refine sm_c fun c hc => ?_
  by_cases z : yP Y c = some k
  · rw [if_pos z, if_pos ((h.1 c).mpr ⟨hc, z⟩)]
  · rw [if_neg z, if_neg (fun w => z ((h.1 c).mp w).2)]
theorem ChR.eq {Y Z : Yd} {k : Nat} {l : List Nat} (h : ChR Y k l) (hp : yP Z = yP Y) (h6 : ∀ c, yC Z c 6 = yC Y c 6) : ChR Z k l := by
  refine ⟨fun c => by rw [hp]; exact h.1 c, h.2.imp (fun {a b} hlt => ?_)⟩
  rw [h6, h6]
  exact hlt
/-- the law's tree is the class's -/
def TR9 (Y : Yd) (W : LW) : Prop := wN W ≤ 16 ∧ yP Y = wP W ∧ (∀ k, k < wN W → ChR Y k (wC W k)) ∧ (∀ i j, i < 16 → yP Y i = some j → i < wN W ∧ j < wN W) ∧ Acy Y
section T9
variable {Y : Yd} {W : LW}
theorem TR9.p16 (h : TR9 Y W) : ∀ i, i < 16 → ∀ j, yP Y i = some j → j < 16 := fun i hi j e => by have := (h.2.2.2.1 i j hi e).2; have := h.1; omega
theorem TR9.i6 (h : TR9 Y W) : ∀ i, i < 16 → itO (yP Y) 6 (some i) = none := fun i hi => it_6 h.2.2.2.2 hi
theorem TR9.cn (h : TR9 Y W) {k c : Nat} (hk : k < wN W) (hc : c ∈ wC W k) : c < wN W := by
  have := ((h.2.2.1 k hk).1 c).mp hc
  exact (h.2.2.2.1 c k this.1 this.2).1
theorem gr_e (h : TR9 Y W) (hl : LG Y) (ho : ∀ k, k < wN W → yC Y k 2 = wI W k 1 ∧ yC Y k 3 = wI W k 2) : ∀ f k, k < wN W → hgK W f k → grF W f k = yC Y k 4 := by
  intro f
  induction f with
  | zero =>
    intro k hk hh
    have c := h.2.2.1 k hk
    have e : wC W k = [] := hh
    rw [hl k (by have := h.1; omega), (ho k hk).1, (ho k hk).2]
    have := c.sum (fun c => yC Y c 4) (wI W k 1 + wI W k 2)
    rw [e] at this
    exact this
  | succ f ih =>
    intro k hk hh
    have c := h.2.2.1 k hk
    rw [hl k (by have := h.1; omega), (ho k hk).1, (ho k hk).2, ← c.sum (fun c => yC Y c 4)]
    exact fold_cg _ _ fun a x hx => by rw [ih x (h.cn hk hx) (hh x hx)]
theorem hg_ok (h : TR9 Y W) : ∀ f k, k < wN W → 5 ≤ dp Y k + f → hgK W f k := by
  intro f
  induction f with
  | zero =>
    intro k hk h5
    refine List.eq_nil_iff_forall_not_mem.mpr fun c hc => ?_
    have hc2 := ((h.2.2.1 k hk).1 c).mp hc
    have := dp_s h.2.2.2.2 hc2.1 (by have := h.1; omega) hc2.2
    have := dp_le Y c
    omega
  | succ f ih =>
    intro k hk h5 c hc
    have hc2 := ((h.2.2.1 k hk).1 c).mp hc
    have := dp_s h.2.2.2.2 hc2.1 (by have := h.1; omega) hc2.2
    exact ih c (h.cn hk hc) (by omega)
theorem hg_5 (h : TR9 Y W) {k : Nat} (hk : k < wN W) : hgK W 5 k := hg_ok h 5 k hk (by omega)
/-- how many stand within crate k, itself among them -/
def dsc (Y : Yd) (k : Nat) : Nat := sm (fun j => if inO 6 (yP Y) (some j) k = true then 1 else 0) 16
theorem sm_mo {f g : Nat → Nat} : ∀ n, (∀ i, i < n → f i ≤ g i) → sm f n ≤ sm g n := by
  intro n
  induction n with
  | zero => intro _; exact Nat.le_refl _
  | succ n ih => intro h; exact Nat.add_le_add (ih fun i hi => h i (by omega)) (h n (by omega))
theorem ds_rec (h : TR9 Y W) {k : Nat} (hk : k < 16) : dsc Y k = 1 + sm (fun c => if yP Y c = some k then dsc Y c else 0) 16 := by
  have e : dsc Y k = sm (fun i => (if i = k then 1 else 0) + sm (fun c => if yP Y c = some k then (if inO 6 (yP Y) (some i) c = true then 1 else 0) else 0) 16) 16 := sm_c fun i hi => sm_ch h.p16 h.i6 hi 1
  rw [e, sm_a, sm_1 (i := k) hk (fun j _ hj => if_neg hj), if_pos rfl, sm_w]
  congr 1
  exact sm_c fun c _ => by rw [← sm_i]; rfl
theorem ns_le (h : TR9 Y W) : ∀ f k, k < wN W → nsF W f k ≤ dsc Y k := by
  intro f
  induction f with
  | zero => intro k hk; rw [ds_rec h (by have := h.1; omega)]; exact Nat.le_add_right _ _
  | succ f ih =>
    intro k hk
    rw [ds_rec h (by have := h.1; omega)]
    show (wC W k).foldl (fun a c => a + nsF W f c) 1 ≤ _
    rw [(h.2.2.1 k hk).sum]
    refine Nat.add_le_add_left (sm_mo 16 fun c hc => ?_) 1
    by_cases z : yP Y c = some k
    · rw [if_pos z, if_pos z]
      exact ih c (h.2.2.2.1 c k hc z).1
    · rw [if_neg z, if_neg z]; exact Nat.le_refl _
theorem ds_le (h : TR9 Y W) {k : Nat} (hk : k < wN W) : dsc Y k ≤ wN W := by
  have e : dsc Y k = sm (fun j => if inO 6 (yP Y) (some j) k = true then 1 else 0) (wN W) := sm_m h.1 fun j hj hm => if_neg fun z => by
    have hne : ¬ j = k := by omega
    rw [in_n hne] at z
    cases hp : yP Y j with
    | none => rw [hp] at z; cases z
    | some q => have := (h.2.2.2.1 j q hj hp).1; omega
  rw [e]
  have := sm_le (f := fun j => if inO 6 (yP Y) (some j) k = true then 1 else 0) (b := 1) (n := wN W) (fun i _ => by split <;> omega)
  omega
theorem nh_fold {f : Nat} (hf : ∀ c, nhF W f c ≤ 2 ^ f * nsF W f c) : ∀ (l : List Nat) (a b : Nat), a ≤ 2 ^ (f + 1) * b → l.foldl (fun a c => a + 2 * nhF W f c) a ≤ 2 ^ (f + 1) * l.foldl (fun a c => a + nsF W f c) b := by
  intro l
  induction l with
  | nil => intro a b h; exact h
  | cons c l ih =>
    intro a b h
    refine ih _ _ ?_
    have h1 := hf c
    have e : 2 ^ (f + 1) * (b + nsF W f c) = 2 ^ (f + 1) * b + 2 * (2 ^ f * nsF W f c) := by
      rw [Nat.mul_add]
      congr 1
      rw [Nat.pow_succ, Nat.mul_comm (2 ^ f) 2, Nat.mul_assoc]
    rw [e]
    exact Nat.add_le_add h (Nat.mul_le_mul_left 2 h1)
theorem nh_le : ∀ f k, nhF W f k ≤ 2 ^ f * nsF W f k := by
  intro f
  induction f with
  | zero => intro k; exact Nat.le_refl _
  | succ f ih => intro k; exact nh_fold ih _ 1 1 (by have : 0 < 2 ^ (f + 1) := Nat.pow_pos (by decide); omega)
theorem mx_fold {g : Nat → Nat} {h : Nat} : ∀ (l : List Nat) (a : Nat), l.foldl (fun a c => if a < g c + 1 then g c + 1 else a) a ≤ h ↔ a ≤ h ∧ ∀ c, c ∈ l → g c + 1 ≤ h := by
  intro l
  induction l with
  | nil => intro a; exact ⟨fun q => ⟨q, fun c hc => nomatch hc⟩, fun q => q.1⟩
  | cons c l ih =>
    intro a
    rw [List.foldl_cons, ih]
    constructor
    · rintro ⟨h1, h2⟩
      refine ⟨by split at h1 <;> omega, fun x hx => ?_⟩
      rcases List.mem_cons.mp hx with rfl | hx
      · split at h1 <;> omega
      · exact h2 x hx
    · rintro ⟨h1, h2⟩
      have := h2 c List.mem_cons_self
      exact ⟨by split <;> omega, fun x hx => h2 x (List.mem_cons_of_mem _ hx)⟩
theorem he_e (h : TR9 Y W) : ∀ f k, k < wN W → heF W f k = hgt Y f k := by
  intro f
  induction f with
  | zero => intro k _; rfl
  | succ f ih =>
    intro k hk
    have c := h.2.2.1 k hk
    have key : ∀ b, heF W (f + 1) k ≤ b ↔ hgt Y (f + 1) k ≤ b := by
      intro b
      show (wC W k).foldl (fun a c => if a < heF W f c + 1 then heF W f c + 1 else a) 0 ≤ b ↔ mxN (fun x => if yP Y x = some k then 1 + hgt Y f x else 0) 16 ≤ b
      rw [mx_fold, mxN_le]
      constructor
      · rintro ⟨-, h2⟩ x hx
        by_cases z : yP Y x = some k
        · have := h2 x ((c.1 x).mpr ⟨hx, z⟩)
          rw [ih x (h.2.2.2.1 x k hx z).1] at this
          rw [if_pos z]; omega
        · rw [if_neg z]; exact Nat.zero_le _
      · intro h2
        refine ⟨Nat.zero_le _, fun x hx => ?_⟩
        have hx2 := (c.1 x).mp hx
        have := h2 x hx2.1
        rw [if_pos hx2.2] at this
        rw [ih x (h.2.2.2.1 x k hx2.1 hx2.2).1]
        omega
    exact Nat.le_antisymm ((key _).mpr (Nat.le_refl _)) ((key _).mp (Nat.le_refl _))
theorem mxN_cg {f g : Nat → Nat} : ∀ n, (∀ i, i < n → f i = g i) → mxN f n = mxN g n := by
  intro n
  induction n with
  | zero => intro _; rfl
  | succ n ih =>
    intro h
    rw [mxN, mxN, ih (fun i hi => h i (by omega)), h n (by omega)]
theorem hgt_st (h : TR9 Y W) : ∀ f k, k < 16 → 5 ≤ dp Y k + f → hgt Y (f + 1) k = hgt Y f k := by
  intro f
  induction f with
  | zero =>
    intro k hk h5
    show mxN (fun x => if yP Y x = some k then 1 + hgt Y 0 x else 0) 16 = 0
    refine Nat.le_zero.mp ((mxN_le 16).mpr fun x hx => ?_)
    by_cases z : yP Y x = some k
    · have := dp_s h.2.2.2.2 hx hk z
      have := dp_le Y x
      omega
    · rw [if_neg z]; exact Nat.le_refl _
  | succ f ih =>
    intro k hk h5
    show mxN (fun x => if yP Y x = some k then 1 + hgt Y (f + 1) x else 0) 16 = mxN (fun x => if yP Y x = some k then 1 + hgt Y f x else 0) 16
    refine mxN_cg 16 fun x hx => ?_
    by_cases z : yP Y x = some k
    · have := dp_s h.2.2.2.2 hx hk z
      rw [if_pos z, if_pos z, ih x hx (by omega)]
    · rw [if_neg z, if_neg z]
theorem he_5 (h : TR9 Y W) {k : Nat} (hk : k < wN W) : heF W 5 k = lvN Y k 16 0 0 := by
  have hk16 : k < 16 := by have := h.1; omega
  rw [he_e h 5 k hk, ← hgt_st h 5 k hk16 (by omega)]
  exact hgt_lv h.2.2.2.2 (fun i j hi e => h.p16 i hi j e) hk16
theorem ho_i (h : TR9 Y W) {t : Nat} (ht : t < 16) : ∀ f k, k < wN W → (hoF W t f k = true ↔ ∃ m, m ≤ f ∧ itO (yP Y) m (some t) = some k) := by
  intro f
  induction f with
  | zero =>
    intro k hk
    show decide (t = k) = true ↔ _
    rw [decide_eq_true_iff]
    constructor
    · rintro rfl; exact ⟨0, Nat.le_refl _, rfl⟩
    · rintro ⟨m, hm, e⟩
      have : m = 0 := by omega
      subst this
      exact Option.some.inj e
  | succ f ih =>
    intro k hk
    have c := h.2.2.1 k hk
    show (decide (t = k) || (wC W k).any (fun c => hoF W t f c)) = true ↔ _
    rw [Bool.or_eq_true, decide_eq_true_iff, List.any_eq_true]
    constructor
    · rintro (rfl | ⟨x, hx, hb⟩)
      · exact ⟨0, Nat.zero_le _, rfl⟩
      · have hx2 := (c.1 x).mp hx
        obtain ⟨m, hm, e⟩ := (ih x (h.cn hk hx)).mp hb
        exact ⟨m + 1, by omega, it_st e hx2.2⟩
    · rintro ⟨m, hm, e⟩
      cases m with
      | zero => exact Or.inl (Option.some.inj e)
      | succ m =>
        rw [it_a] at e
        cases e1 : itO (yP Y) m (some t) with
        | none => rw [e1] at e; cases e
        | some x =>
          rw [e1] at e
          have hx16 := it_lt h.p16 m t x ht e1
          have e2 : yP Y x = some k := e
          exact Or.inr ⟨x, (c.1 x).mpr ⟨hx16, e2⟩, (ih x (h.2.2.2.1 x k hx16 e2).1).mpr ⟨m, by omega, e1⟩⟩
theorem ho_5 (h : TR9 Y W) {t k : Nat} (ht : t < 16) (hk : k < wN W) : hoF W t 5 k = ins Y t k := by
  have h1 := ho_i h ht 5 k hk
  have h2 : ins Y t k = true ↔ _ := inO_i 6 (some t)
  cases e1 : hoF W t 5 k <;> cases e2 : ins Y t k
  · rfl
  · obtain ⟨m, hm, e⟩ := h2.mp e2
    rw [h1.mpr ⟨m, by omega, e⟩] at e1
    cases e1
  · obtain ⟨m, hm, e⟩ := h1.mp e1
    rw [h2.mpr ⟨m, by omega, e⟩] at e2
    cases e2
  · rfl
end T9
