/-! the law's yard: a picture of its objects, and how it changes -/
/-- how many crates; their numbers (number, tare, goods, error, gone, open); parents; children; readings (place and number); the lists' arrays; the yard's own numbers -/
abbrev LW : Type := Nat × (Nat → Nat → Int32) × (Nat → Option Nat) × (Nat → List Nat) × (Nat → List (Nat × Int32)) × (Nat → Option Nat) × (Nat → Int32)
def wN (W : LW) : Nat := W.1
def wI (W : LW) : Nat → Nat → Int32 := W.2.1
def wP (W : LW) : Nat → Option Nat := W.2.2.1
def wC (W : LW) : Nat → List Nat := W.2.2.2.1
def wR (W : LW) : Nat → List (Nat × Int32) := W.2.2.2.2.1
def wE (W : LW) : Nat → Option Nat := W.2.2.2.2.2.1
def wYs (W : LW) : Nat → Int32 := W.2.2.2.2.2.2
def up1 {α : Type} (F : Nat → α) (k : Nat) (v : α) : Nat → α := fun i => if i = k then v else F i
theorem up1_s {α : Type} (F : Nat → α) (k : Nat) (v : α) : up1 F k v k = v := if_pos rfl
theorem up1_n {α : Type} {F : Nat → α} {k i : Nat} {v : α} (h : i ≠ k) : up1 F k v i = F i := if_neg h
def vI (W : LW) (k f : Nat) (v : Int32) : LW := (W.1, (fun i j => if i = k ∧ j = f then v else W.2.1 i j), W.2.2)
def vP (W : LW) (k : Nat) (o : Option Nat) : LW := (W.1, W.2.1, up1 W.2.2.1 k o, W.2.2.2)
def vCh (W : LW) (k : Nat) (l : List Nat) (e : Option Nat) : LW := (W.1, W.2.1, W.2.2.1, up1 W.2.2.2.1 k l, W.2.2.2.2.1, up1 W.2.2.2.2.2.1 (1 + 2 * k) e, W.2.2.2.2.2.2)
def vR (W : LW) (k : Nat) (l : List (Nat × Int32)) (e : Option Nat) : LW := (W.1, W.2.1, W.2.2.1, W.2.2.2.1, up1 W.2.2.2.2.1 k l, up1 W.2.2.2.2.2.1 (2 + 2 * k) e, W.2.2.2.2.2.2)
def vY (W : LW) (f : Nat) (v : Int32) : LW := (W.1, W.2.1, W.2.2.1, W.2.2.2.1, W.2.2.2.2.1, W.2.2.2.2.2.1, up1 W.2.2.2.2.2.2 f v)
/-- crate k -/
def LC (M : Mem) (W : LW) (k : Nat) : Prop := (∀ f, mI M 11 k f = wI W k f) ∧ mR M 11 k 6 = (wP W k).map (rf 11) ∧ mR M 11 k 7 = some (rf 33 (1 + 2 * k)) ∧ mR M 11 k 8 = some (rf 33 (2 + 2 * k)) ∧ Ls M (1 + 2 * k) ((wC W k).map (rf 11)) (wE W (1 + 2 * k)) ∧ Ls M (2 + 2 * k) ((wR W k).map Prod.fst) (wE W (2 + 2 * k)) ∧ (∀ q, q ∈ wR W k → IvA M q.1 q.2) ∧ (∀ c, c ∈ wC W k → c < wN W) ∧ ∀ j, wP W k = some j → j < wN W
/-- the law's yard -/
def LM (M : Mem) (W : LW) : Prop := wN W ≤ 9 ∧ mR M 32 0 0 = some (rf 33 0) ∧ (∀ f, 1 ≤ f → mI M 32 0 f = wYs W f) ∧ Ls M 0 ((List.range (wN W)).map (rf 11)) (wE W 0) ∧ (∀ k, k < wN W → LC M W k) ∧ ∀ i j e, i < 1 + 2 * wN W → j < 1 + 2 * wN W → wE W i = some e → wE W j = some e → i = j
section LMS
variable {M M' : Mem} {W : LW}
theorem LM.n (h : LM M W) : wN W ≤ 9 := h.1
theorem LM.y (h : LM M W) : mR M 32 0 0 = some (rf 33 0) := h.2.1
theorem LM.yi (h : LM M W) {f : Nat} (hf : 1 ≤ f) : mI M 32 0 f = wYs W f := h.2.2.1 f hf
theorem LM.all (h : LM M W) : Ls M 0 ((List.range (wN W)).map (rf 11)) (wE W 0) := h.2.2.2.1
theorem LM.c (h : LM M W) {k : Nat} (hk : k < wN W) : LC M W k := h.2.2.2.2.1 k hk
theorem LM.inj (h : LM M W) {i j e : Nat} (hi : i < 1 + 2 * wN W) (hj : j < 1 + 2 * wN W) (h1 : wE W i = some e) (h2 : wE W j = some e) : i = j := h.2.2.2.2.2 i j e hi hj h1 h2
theorem LC.i {k f : Nat} (h : LC M W k) : mI M 11 k f = wI W k f := h.1 f
theorem LC.p {k : Nat} (h : LC M W k) : mR M 11 k 6 = (wP W k).map (rf 11) := h.2.1
theorem LC.r7 {k : Nat} (h : LC M W k) : mR M 11 k 7 = some (rf 33 (1 + 2 * k)) := h.2.2.1
theorem LC.r8 {k : Nat} (h : LC M W k) : mR M 11 k 8 = some (rf 33 (2 + 2 * k)) := h.2.2.2.1
theorem LC.ch {k : Nat} (h : LC M W k) : Ls M (1 + 2 * k) ((wC W k).map (rf 11)) (wE W (1 + 2 * k)) := h.2.2.2.2.1
theorem LC.rd {k : Nat} (h : LC M W k) : Ls M (2 + 2 * k) ((wR W k).map Prod.fst) (wE W (2 + 2 * k)) := h.2.2.2.2.2.1
theorem LC.iv {k : Nat} (h : LC M W k) : ∀ q, q ∈ wR W k → IvA M q.1 q.2 := h.2.2.2.2.2.2.1
theorem LC.cn {k : Nat} (h : LC M W k) : ∀ c, c ∈ wC W k → c < wN W := h.2.2.2.2.2.2.2.1
theorem LC.pn {k : Nat} (h : LC M W k) : ∀ j, wP W k = some j → j < wN W := h.2.2.2.2.2.2.2.2
/-- every list stands -/
theorem LM.ls (h : LM M W) {i : Nat} (hi : i < 1 + 2 * wN W) : ∃ xs, Ls M i xs (wE W i) := by
  by_cases h0 : i = 0
  · subst h0; exact ⟨_, h.all⟩
  · by_cases h1 : i % 2 = 1
    · have e : i = 1 + 2 * ((i - 1) / 2) := by omega
      rw [e]
      exact ⟨_, (h.c (k := (i - 1) / 2) (by omega)).ch⟩
    · have e : i = 2 + 2 * ((i - 2) / 2) := by omega
      rw [e]
      exact ⟨_, (h.c (k := (i - 2) / 2) (by omega)).rd⟩
theorem LM.lt (h : LM M W) {i e : Nat} (hi : i < 1 + 2 * wN W) (he : wE W i = some e) : e < mC M 16 := by
  obtain ⟨xs, -, -, hx⟩ := h.ls hi
  rw [he] at hx
  exact hx.2.1
theorem LM.fy {S : Nat → Nat → Prop} {n s : Nat} (h : LM M W) (F : Fx S n s M M') (hS : ∀ k i, S k i → k = 34) : LM M' W := by
  obtain ⟨h1, h2, h3, h4, h5, h6⟩ := h
  have z : ∀ k i, k ≠ 34 → ¬ S k i := fun k i hk q => hk (hS k i q)
  have e32 := F.1 32 0 (z _ _ (by omega)) (fun q => by unfold inG at q; omega)
  refine ⟨h1, by rw [e32.2.2.1]; exact h2, fun f hf => by rw [e32.1]; exact h3 f hf, h4.fx F (z _ _ (by omega)) (fun _ _ => z _ _ (by omega)), fun k hk => ?_, h6⟩
  have c := h5 k hk
  have e11 := F.1 11 k (z _ _ (by omega)) (fun q => by unfold inG at q; omega)
  exact ⟨fun f => by rw [e11.1]; exact c.i, by rw [e11.2.2.1]; exact c.p, by rw [e11.2.2.1]; exact c.r7, by rw [e11.2.2.1]; exact c.r8, c.ch.fx F (z _ _ (by omega)) (fun _ _ => z _ _ (by omega)), c.rd.fx F (z _ _ (by omega)) (fun _ _ => z _ _ (by omega)), fun q hq => (c.iv q hq).fx F (fun _ => z _ _ (by omega)), c.cn, c.pn⟩
theorem LM.fx {n s : Nat} (h : LM M W) (F : Fx Sz n s M M') : LM M' W := h.fy F fun _ _ z => z.elim
/-- a number of a crate is set -/
theorem LM.uI {k f : Nat} {v : Int32} (h : LM M W) : LM (sI M 11 k f v) (vI W k f v) := by
  have F : Fx (fun k' i' => k' = 11 ∧ i' = k) 0 0 M (sI M 11 k f v) := (Fx.rf _ 0 0 M).sI (Or.inl ⟨rfl, rfl⟩)
  obtain ⟨h1, h2, h3, h4, h5, h6⟩ := h
  refine ⟨h1, h2, fun g hg => by rw [mI_sI, if_neg (by omega)]; exact h3 g hg, h4.fx F (by omega) (fun _ _ => by omega), fun k' hk => ?_, h6⟩
  have c := h5 k' hk
  exact ⟨fun g => by rw [mI_sI, c.i]; by_cases z : k' = k ∧ g = f
                     · rw [if_pos ⟨rfl, z⟩]; show v = if k' = k ∧ g = f then v else wI W k' g; rw [if_pos z]
                     · rw [if_neg (fun q => z q.2)]; show wI W k' g = if k' = k ∧ g = f then v else wI W k' g; rw [if_neg z], c.p, c.r7, c.r8, c.ch.fx F (by omega) (fun _ _ => by omega), c.rd.fx F (by omega) (fun _ _ => by omega), fun q hq => (c.iv q hq).fx F (fun _ => by omega), c.cn, c.pn⟩
/-- a number of the yard is set -/
theorem LM.sY {f : Nat} {v : Int32} (h : LM M W) : LM (sI M 32 0 f v) (vY W f v) := by
  have F : Fx (fun k' i' => k' = 32 ∧ i' = 0) 0 0 M (sI M 32 0 f v) := (Fx.rf _ 0 0 M).sI (Or.inl ⟨rfl, rfl⟩)
  obtain ⟨h1, h2, h3, h4, h5, h6⟩ := h
  refine ⟨h1, h2, fun g hg => ?_, h4.fx F (by omega) (fun _ _ => by omega), fun k' hk => ?_, h6⟩
  · rw [mI_sI, h3 g hg]
    show _ = up1 (wYs W) f v g
    unfold up1
    by_cases z : g = f
    · rw [if_pos ⟨rfl, rfl, z⟩, if_pos z]
    · rw [if_neg (fun q => z q.2.2), if_neg z]
  · have c := h5 k' hk
    exact ⟨fun g => by rw [mI_sI, if_neg (by omega)]; exact c.i, c.p, c.r7, c.r8, c.ch.fx F (by omega) (fun _ _ => by omega), c.rd.fx F (by omega) (fun _ _ => by omega), fun q hq => (c.iv q hq).fx F (fun _ => by omega), c.cn, c.pn⟩
/-- a parent is set -/
theorem LM.sP {k : Nat} {o : Option Nat} (h : LM M W) (ho : ∀ j, o = some j → j < wN W) : LM (sR M 11 k 6 (o.map (rf 11))) (vP W k o) := by
  have F : Fx (fun k' i' => k' = 11 ∧ i' = k) 0 0 M (sR M 11 k 6 (o.map (rf 11))) := (Fx.rf _ 0 0 M).sR (Or.inl ⟨rfl, rfl⟩)
  obtain ⟨h1, h2, h3, h4, h5, h6⟩ := h
  refine ⟨h1, by rw [mR_sR, if_neg (by omega)]; exact h2, h3, h4.fx F (by omega) (fun _ _ => by omega), fun k' hk => ?_, h6⟩
  have c := h5 k' hk
  have e : wP (vP W k o) k' = if k' = k then o else wP W k' := rfl
  refine ⟨c.1, ?_, by rw [mR_sR, if_neg (by omega)]; exact c.r7, by rw [mR_sR, if_neg (by omega)]; exact c.r8, c.ch.fx F (by omega) (fun _ _ => by omega), c.rd.fx F (by omega) (fun _ _ => by omega), fun q hq => (c.iv q hq).fx F (fun _ => by omega), c.cn, ?_⟩
  · rw [mR_sR, e]
    by_cases z : k' = k
    · rw [if_pos ⟨rfl, z, rfl⟩, if_pos z]
    · rw [if_neg (fun q => z q.2.1), if_neg z]; exact c.p
  · rw [e]
    by_cases z : k' = k
    · rw [if_pos z]; exact ho
    · rw [if_neg z]; exact c.pn
/-- what a change of list i leaves of the others -/
theorem LM.oth {i n s : Nat} (h : LM M W) (F : Fx (SL i (wE W i)) n s M M') (hi : i < 1 + 2 * wN W) {j : Nat} {xs : List Nat} (hj : j < 1 + 2 * wN W) (hne : j ≠ i) (hx : Ls M j xs (wE W j)) : Ls M' j xs (wE W j) := by
  refine hx.fx F ?_ (fun e he z => ?_)
  · intro z; unfold SL at z; omega
  · unfold SL at z
    rcases z with z | z
    · omega
    · exact hne (h.inj hj hi he z.2)
theorem LM.inj9 {i : Nat} {e9 : Option Nat} (h : LM M W) (hE : e9 = wE W i ∨ e9 = some (mC M 16)) (hi : i < 1 + 2 * wN W) : ∀ a b e, a < 1 + 2 * wN W → b < 1 + 2 * wN W → up1 (wE W) i e9 a = some e → up1 (wE W) i e9 b = some e → a = b := by
  intro a b e ha hb h1 h2
  unfold up1 at h1 h2
  by_cases za : a = i <;> by_cases zb : b = i
  · rw [za, zb]
  · rw [if_pos za] at h1
    rw [if_neg zb] at h2
    rcases hE with z | z
    · rw [za]; exact h.inj hi hb (z.symm.trans h1) h2
    · rw [z] at h1; cases h1
      exact absurd (h.lt hb h2) (by omega)
  · rw [if_neg za] at h1
    rw [if_pos zb] at h2
    rcases hE with z | z
    · rw [zb]; exact h.inj ha hi h1 (z.symm.trans h2)
    · rw [z] at h2; cases h2
      exact absurd (h.lt ha h1) (by omega)
  · rw [if_neg za] at h1
    rw [if_neg zb] at h2
    exact h.inj ha hb h1 h2
/-- the children of crate k are others -/
theorem LM.sC {k n s : Nat} {l : List Nat} {e9 : Option Nat} (h : LM M W) (hk : k < wN W) (F : Fx (SL (1 + 2 * k) (wE W (1 + 2 * k))) n s M M') (hL : Ls M' (1 + 2 * k) (l.map (rf 11)) e9) (hE : e9 = wE W (1 + 2 * k) ∨ e9 = some (mC M 16)) (hl : ∀ c, c ∈ l → c < wN W) : LM M' (vCh W k l e9) := by
  have hi : 1 + 2 * k < 1 + 2 * wN W := by omega
  have e32 := F.1 32 0 (by unfold SL; omega) (fun q => by unfold inG at q; omega)
  have eE : ∀ j, j ≠ 1 + 2 * k → wE (vCh W k l e9) j = wE W j := fun j hj => if_neg hj
  refine ⟨h.n, by rw [e32.2.2.1]; exact h.y, fun f hf => by rw [e32.1]; exact h.yi hf, ?_, fun k' hk' => ?_, h.inj9 hE hi⟩
  · rw [eE 0 (by omega)]; exact h.oth F hi (by omega) (by omega) h.all
  · have hk2 : k' < wN W := hk'
    have c := h.c hk2
    have e11 := F.1 11 k' (by unfold SL; omega) (fun q => by unfold inG at q; omega)
    refine ⟨fun f => by rw [e11.1]; exact c.i, by rw [e11.2.2.1]; exact c.p, by rw [e11.2.2.1]; exact c.r7, by rw [e11.2.2.1]; exact c.r8, ?_, ?_, fun q hq => (c.iv q hq).fx F (fun _ => by unfold SL; omega), ?_, c.pn⟩
    · by_cases z : k' = k
      · subst z
        rw [show wC (vCh W k' l e9) k' = l from if_pos rfl, show wE (vCh W k' l e9) (1 + 2 * k') = e9 from if_pos rfl]
        exact hL
      · rw [show wC (vCh W k l e9) k' = wC W k' from if_neg z, eE _ (by omega)]
        exact h.oth F hi (by omega) (by omega) c.ch
    · rw [eE _ (by omega)]
      exact h.oth F hi (by omega) (by omega) c.rd
    · intro c9
      by_cases z : k' = k
      · rw [show wC (vCh W k l e9) k' = l from if_pos z]; exact hl c9
      · rw [show wC (vCh W k l e9) k' = wC W k' from if_neg z]; exact c.cn c9
/-- the readings of crate k are others -/
theorem LM.uR {k n s : Nat} {l : List (Nat × Int32)} {e9 : Option Nat} (h : LM M W) (hk : k < wN W) (F : Fx (SL (2 + 2 * k) (wE W (2 + 2 * k))) n s M M') (hL : Ls M' (2 + 2 * k) (l.map Prod.fst) e9) (hE : e9 = wE W (2 + 2 * k) ∨ e9 = some (mC M 16)) (hl : ∀ q, q ∈ l → IvA M' q.1 q.2) : LM M' (vR W k l e9) := by
  have hi : 2 + 2 * k < 1 + 2 * wN W := by omega
  have e32 := F.1 32 0 (by unfold SL; omega) (fun q => by unfold inG at q; omega)
  have eE : ∀ j, j ≠ 2 + 2 * k → wE (vR W k l e9) j = wE W j := fun j hj => if_neg hj
  refine ⟨h.n, by rw [e32.2.2.1]; exact h.y, fun f hf => by rw [e32.1]; exact h.yi hf, ?_, fun k' hk' => ?_, h.inj9 hE hi⟩
  · rw [eE 0 (by omega)]; exact h.oth F hi (by omega) (by omega) h.all
  · have hk2 : k' < wN W := hk'
    have c := h.c hk2
    have e11 := F.1 11 k' (by unfold SL; omega) (fun q => by unfold inG at q; omega)
    refine ⟨fun f => by rw [e11.1]; exact c.i, by rw [e11.2.2.1]; exact c.p, by rw [e11.2.2.1]; exact c.r7, by rw [e11.2.2.1]; exact c.r8, ?_, ?_, ?_, c.cn, c.pn⟩
    · rw [eE _ (by omega)]
      exact h.oth F hi (by omega) (by omega) c.ch
    · by_cases z : k' = k
      · subst z
        rw [show wR (vR W k' l e9) k' = l from if_pos rfl, show wE (vR W k' l e9) (2 + 2 * k') = e9 from if_pos rfl]
        exact hL
      · rw [show wR (vR W k l e9) k' = wR W k' from if_neg z, eE _ (by omega)]
        exact h.oth F hi (by omega) (by omega) c.rd
    · intro q
      by_cases z : k' = k
      · rw [show wR (vR W k l e9) k' = l from if_pos z]; exact hl q
      · rw [show wR (vR W k l e9) k' = wR W k' from if_neg z]; exact fun hq => (c.iv q hq).fx F (fun _ => by unfold SL; omega)
end LMS
