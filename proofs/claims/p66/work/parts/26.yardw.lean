/-! what a yard's methods make of it -/
def dscY (Y : Yd) (i : Nat) : Yd := uC (uC (uL (uL (uC Y i 8 0) i 9 0) i 10 0) i 11 0) i 12 0
def rstY (Y : Yd) (i : Nat) : Yd := dscY (uC (uC (uP (uC (uC (uC (uC Y i 1 0) i 2 0) i 3 0) i 4 0) i none) i 6 0) i 7 0) i
def stoY (Y : Yd) (i : Nat) (r s : Int32) : Yd := uC (uL (uL (uC Y i 8 (yC Y i 8 + 1)) i 9 (yL Y i 9 + r.toInt64)) i 10 (yL Y i 10 + s.toInt64)) i 11 r
def bstY (Y : Yd) (j : Nat) : Yd := uB (uB (uB (uB (uB Y j 1 0) j 2 0) j 3 0) j 4 0) j 5 0
def tstY (Y : Yd) : Yd := uT (uT (uT (uT (uT (uT (uT Y 0 0) 1 0) 2 0) 3 0) 4 0) 5 0) 6 0
def sstY (Y : Yd) : Yd := uS (uS (uS (uS Y 0 1) 1 5) 2 50) 3 0
def rdYF (Y : Yd) (i : Nat) (e : Int32) : Int32 × Yd := (yC Y i 4 + fSag (yS Y 2) (yS Y 3) + e, uS (stoY Y i (yC Y i 4 + fSag (yS Y 2) (yS Y 3) + e) (fSag (yS Y 2) (yS Y 3))) 3 (yS Y 3 + 1))
def rdYN (Y : Yd) (i : Nat) : Int32 × Yd := rdYF (uC (uS Y 0 (nxG (yS Y 0))) i 12 (fNz (nxG (yS Y 0)) (yS Y 1))) i (fNz (nxG (yS Y 0)) (yS Y 1))
def rdY (Y : Yd) (i : Nat) : Int32 × Yd := if rem (yC Y i 8) 2 = 0 then rdYN Y i else rdYF Y i (- yC Y i 12)
def awC (Y : Yd) (j : Nat) (w : Int32) : Yd := dscY (uT (uC Y j 4 (yC Y j 4 + w)) 1 (yT Y 1 + yC Y j 8)) j
def awO : Nat → Yd → Option Nat → Int32 → Yd
  | 0, Y, _, _ => Y
  | n + 1, Y, o, w => match o with
    | none => Y
    | some j => awO n (awC Y j w) (yP Y j) w
theorem Yv.disc {M : Mem} {y : Nat} {Y : Yd} {i : Nat} (h : Yv M y Y) (hi : i < 16) : Yv (cDisc M (16 * y + i)) y (dscY Y i) := by
  refine Yv.tC ?_ hi (by decide) (by decide) (fun _ => rfl)
  refine Yv.tC ?_ hi (by decide) (by decide) (fun _ => rfl)
  refine YtL ?_ hi (by decide) (fun _ => rfl)
  refine YtL ?_ hi (by decide) (fun _ => rfl)
  refine Yv.tC ?_ hi (by decide) (by decide) (fun _ => rfl)
  exact h
theorem Fr.disc {M M0 : Mem} {y : Nat} {i : Nat} (h : Fr (inY y) M0 M) (hi : i < 16) : Fr (inY y) M0 (cDisc M (16 * y + i)) := by
  refine Fr.sI ?_ (inY_C hi)
  refine Fr.sI ?_ (inY_C hi)
  refine Fr.sL ?_ (inY_C hi)
  refine Fr.sL ?_ (inY_C hi)
  refine Fr.sI ?_ (inY_C hi)
  exact h
theorem Yv.crst {M : Mem} {y : Nat} {Y : Yd} {i : Nat} (h : Yv M y Y) (hi : i < 16) : Yv (cReset M (16 * y + i)) y (rstY Y i) := by
  refine Yv.disc ?_ hi
  refine Yv.tC ?_ hi (by decide) (by decide) (fun _ => rfl)
  refine Yv.tC ?_ hi (by decide) (by decide) (fun _ => rfl)
  refine Yv.sP ?_ hi (fun _ e => nomatch e) rfl
  refine Yv.tC ?_ hi (by decide) (by decide) (fun _ => rfl)
  refine Yv.tC ?_ hi (by decide) (by decide) (fun _ => rfl)
  refine Yv.tC ?_ hi (by decide) (by decide) (fun _ => rfl)
  refine Yv.tC ?_ hi (by decide) (by decide) (fun _ => rfl)
  exact h
theorem Fr.crst {M M0 : Mem} {y : Nat} {i : Nat} (h : Fr (inY y) M0 M) (hi : i < 16) : Fr (inY y) M0 (cReset M (16 * y + i)) := by
  refine Fr.disc ?_ hi
  refine Fr.sI ?_ (inY_C hi)
  refine Fr.sI ?_ (inY_C hi)
  refine Fr.sR ?_ (inY_C hi)
  refine Fr.sI ?_ (inY_C hi)
  refine Fr.sI ?_ (inY_C hi)
  refine Fr.sI ?_ (inY_C hi)
  refine Fr.sI ?_ (inY_C hi)
  exact h
theorem Yv.sto {M : Mem} {y : Nat} {Y : Yd} {i : Nat} {r s : Int32} (h : Yv M y Y) (hi : i < 16) : Yv (cStore M (16 * y + i) r s) y (stoY Y i r s) := by
  refine Yv.tC ?_ hi (by decide) (by decide) (fun _ => rfl)
  refine YtL ?_ hi (by decide) (fun g => by rw [g.rL hi]; simp [yL_uL, yL_uC])
  refine YtL ?_ hi (by decide) (fun g => by simp only [g.rL hi, yL_uC])
  refine Yv.tC ?_ hi (by decide) (by decide) (fun g => by simp only [g.rC hi])
  exact h
theorem Fr.sto {M M0 : Mem} {y : Nat} {i : Nat} {r s : Int32} (h : Fr (inY y) M0 M) (hi : i < 16) : Fr (inY y) M0 (cStore M (16 * y + i) r s) := by
  refine Fr.sI ?_ (inY_C hi)
  refine Fr.sL ?_ (inY_C hi)
  refine Fr.sL ?_ (inY_C hi)
  refine Fr.sI ?_ (inY_C hi)
  exact h
theorem Yv.brst {M : Mem} {y : Nat} {Y : Yd} {i : Nat} (h : Yv M y Y) (hi : i < 6) : Yv (bReset M (6 * y + i)) y (bstY Y i) := by
  refine Yv.tB ?_ hi (by decide) (by decide) (fun _ => rfl)
  refine Yv.tB ?_ hi (by decide) (by decide) (fun _ => rfl)
  refine Yv.tB ?_ hi (by decide) (by decide) (fun _ => rfl)
  refine Yv.tB ?_ hi (by decide) (by decide) (fun _ => rfl)
  refine Yv.tB ?_ hi (by decide) (by decide) (fun _ => rfl)
  exact h
theorem Fr.brst {M M0 : Mem} {y : Nat} {i : Nat} (h : Fr (inY y) M0 M) (hi : i < 6) : Fr (inY y) M0 (bReset M (6 * y + i)) := by
  refine Fr.sI ?_ (inY_B hi)
  refine Fr.sI ?_ (inY_B hi)
  refine Fr.sI ?_ (inY_B hi)
  refine Fr.sI ?_ (inY_B hi)
  refine Fr.sI ?_ (inY_B hi)
  exact h
theorem Yv.trst {M : Mem} {y : Nat} {Y : Yd} (h : Yv M y Y)  : Yv (tReset M y) y (tstY Y) := by
  refine Yv.tT ?_ (by decide) (fun _ => rfl)
  refine Yv.tT ?_ (by decide) (fun _ => rfl)
  refine Yv.tT ?_ (by decide) (fun _ => rfl)
  refine Yv.tT ?_ (by decide) (fun _ => rfl)
  refine Yv.tT ?_ (by decide) (fun _ => rfl)
  refine Yv.tT ?_ (by decide) (fun _ => rfl)
  refine Yv.tT ?_ (by decide) (fun _ => rfl)
  exact h
theorem Fr.trst {M M0 : Mem} {y : Nat} (h : Fr (inY y) M0 M)  : Fr (inY y) M0 (tReset M y) := by
  refine Fr.sI ?_ inY_T
  refine Fr.sI ?_ inY_T
  refine Fr.sI ?_ inY_T
  refine Fr.sI ?_ inY_T
  refine Fr.sI ?_ inY_T
  refine Fr.sI ?_ inY_T
  refine Fr.sI ?_ inY_T
  exact h
theorem Yv.srst {M : Mem} {y : Nat} {Y : Yd} (h : Yv M y Y)  : Yv (sReset M y) y (sstY Y) := by
  refine Yv.tS ?_ (by decide) (fun _ => rfl)
  refine Yv.tS ?_ (by decide) (fun _ => rfl)
  refine Yv.tS ?_ (by decide) (fun _ => rfl)
  refine Yv.tS ?_ (by decide) (fun _ => rfl)
  exact h
theorem Fr.srst {M M0 : Mem} {y : Nat} (h : Fr (inY y) M0 M)  : Fr (inY y) M0 (sReset M y) := by
  refine Fr.sI ?_ inY_S
  refine Fr.sI ?_ inY_S
  refine Fr.sI ?_ inY_S
  refine Fr.sI ?_ inY_S
  exact h
theorem Yv.rdF {M : Mem} {y : Nat} {Y : Yd} {i : Nat} {e : Int32} (h : Yv M y Y) (hi : i < 16) : (rdFin M y (16 * y + i) e).1 = (rdYF Y i e).1 ∧ Yv (rdFin M y (16 * y + i) e).2 y (rdYF Y i e).2 := by
  have e0 : (rdFin M y (16 * y + i) e).1 = (rdYF Y i e).1 := by simp only [rdFin, rdYF, h.rC hi, h.rS]
  refine ⟨e0, ?_⟩
  simp only [rdFin, rdYF, h.rC hi, h.rS]
  refine Yv.tS ?_ (by decide) (fun g => by rw [g.rS]; rfl)
  exact h.sto hi
theorem Fr.rdF {M M0 : Mem} {y : Nat} {i : Nat} {e : Int32} (h : Fr (inY y) M0 M) (hi : i < 16) : Fr (inY y) M0 (rdFin M y (16 * y + i) e).2 := by
  unfold rdFin
  exact Fr.sI (h.sto hi) inY_S
theorem Yv.rd {M : Mem} {y : Nat} {Y : Yd} {i : Nat} (h : Yv M y Y) (hi : i < 16) : (rdM M y (16 * y + i)).1 = (rdY Y i).1 ∧ Yv (rdM M y (16 * y + i)).2 y (rdY Y i).2 := by
  unfold rdM rdY
  rw [h.rC hi, h.rC hi]
  by_cases c : rem (yC Y i 8) 2 = 0
  · rw [if_pos c, if_pos c]
    unfold rdNew rdYN
    rw [h.rS, h.rS]
    exact Yv.rdF (Yv.tC (Yv.tS h (by decide) (fun _ => rfl)) hi (by decide) (by decide) (fun _ => rfl)) hi
  · rw [if_neg c, if_neg c]
    exact Yv.rdF h hi
theorem Fr.rd {M M0 : Mem} {y : Nat} {i : Nat} (h : Fr (inY y) M0 M) (hi : i < 16) : Fr (inY y) M0 (rdM M y (16 * y + i)).2 := by
  unfold rdM
  split
  · unfold rdNew
    exact Fr.rdF (Fr.sI (Fr.sI h inY_S) (inY_C hi)) hi
  · exact Fr.rdF h hi
theorem Yv.aw {M : Mem} {y : Nat} {Y : Yd} {j : Nat} {w : Int32} (h : Yv M y Y) (hj : j < 16) : Yv (cDisc (sI (sI M 1 (16 * y + j) 4 (mI M 1 (16 * y + j) 4 + w)) 8 y 1 (mI (sI M 1 (16 * y + j) 4 (mI M 1 (16 * y + j) 4 + w)) 8 y 1 + mI (sI M 1 (16 * y + j) 4 (mI M 1 (16 * y + j) 4 + w)) 1 (16 * y + j) 8)) (16 * y + j)) y (awC Y j w) := by
  refine Yv.disc (Yv.tT (Yv.tC h hj (by decide) (by decide) (fun g => by rw [g.rC hj])) (by decide) (fun g => ?_)) hj
  rw [g.rT, g.rC hj, yT_uC, yC_uC, if_neg (fun z => absurd z.2 (by decide))]
