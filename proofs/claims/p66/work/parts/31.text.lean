/-! the text and its tokens -/
theorem nI_sub {a b : Nat} (h : a ≤ b) : nI b - nI a = nI (b - a) := by
  have e : nI b = nI (b - a) + nI a := by
    unfold nI
    rw [← Int32.ofNat_add]
    congr 1; omega
  rw [e, Int32.add_sub_cancel]
def ck (v : Int32) : Int32 := if 97 ≤ v ∧ v ≤ 122 then 2 else if 48 ≤ v ∧ v ≤ 57 then 3 else if v = 59 then 4 else if v = 32 ∨ v = 10 then 1 else 5
def kp (b : Nat → Int32) (n i : Nat) : Int32 := if n ≤ i then 0 else ck (b i)
theorem ck_ne0 (v : Int32) : ¬ ck v = 0 := by
  unfold ck
  repeat' split
  all_goals decide
theorem kp_0 {b : Nat → Int32} {n i : Nat} (h : ¬ kp b n i = 0) : i < n := by
  unfold kp at h
  by_cases c : n ≤ i
  · rw [if_pos c] at h; exact absurd rfl h
  · omega
def runF (κ : Nat → Int32) (k : Int32) : Nat → Nat → Nat
  | 0, i => i
  | f + 1, i => if κ i = k then runF κ k f (i + 1) else i
theorem runF_le {b : Nat → Int32} {n : Nat} {k : Int32} (hk : ¬ k = 0) : ∀ f i, i ≤ n → runF (kp b n) k f i ≤ n := by
  intro f
  induction f with
  | zero => intro i h; exact h
  | succ f ih =>
    intro i h
    rw [runF]
    split
    next e => exact ih _ (kp_0 (by rw [e]; exact hk))
    next => exact h
theorem runF_ge (κ : Nat → Int32) (k : Int32) : ∀ f i, i ≤ runF κ k f i := by
  intro f
  induction f with
  | zero => intro i; exact Nat.le_refl _
  | succ f ih =>
    intro i
    rw [runF]
    split
    · exact Nat.le_trans (Nat.le_succ i) (ih _)
    · exact Nat.le_refl _
def tS (b : Nat → Int32) (n e : Nat) : Nat := runF (kp b n) 1 601 e
def tE (b : Nat → Int32) (n e : Nat) : Nat := if kp b n (tS b n e) = 0 then tS b n e else if kp b n (tS b n e) = 2 ∨ kp b n (tS b n e) = 3 then runF (kp b n) (kp b n (tS b n e)) 601 (tS b n e + 1) else tS b n e + 1
def tK (b : Nat → Int32) (n e : Nat) : Int32 := if (kp b n (tS b n e) = 2 ∧ 8 < tE b n e - tS b n e) ∨ (kp b n (tS b n e) = 3 ∧ 4 < tE b n e - tS b n e) then 5 else kp b n (tS b n e)
abbrev Ta : Type := Nat × Nat × Int32 × Int32 × Int32
def Tx (M : Mem) (b : Nat → Int32) (n : Nat) (a : Ta) : Prop := mR M 7 0 0 = some (rf 13 0) ∧ mN M 13 0 = 600 ∧ (∀ i, i < 600 → mI M 13 0 i = b i) ∧ mI M 7 0 1 = nI n ∧ n ≤ 600 ∧ mI M 7 0 5 = nI a.1 ∧ mI M 7 0 6 = nI a.2.1 ∧ mI M 7 0 4 = a.2.2.1 ∧ mI M 7 0 2 = a.2.2.2.1 ∧ mI M 7 0 3 = a.2.2.2.2 ∧ a.1 ≤ 600 ∧ a.2.1 ≤ n
def inT (k i : Nat) : Prop := (k = 7 ∨ k = 13) ∧ i = 0
theorem inT_F : inT 7 0 := ⟨Or.inl rfl, rfl⟩
theorem inT_B : inT 13 0 := ⟨Or.inr rfl, rfl⟩
section TXS
variable {M M' : Mem} {b : Nat → Int32} {n s e : Nat} {k c q : Int32}
theorem Tx.hy (h : Tx M b n (s, e, k, c, q)) : mR M 7 0 0 = some (rf 13 0) := h.1
theorem Tx.hN (h : Tx M b n (s, e, k, c, q)) : mN M 13 0 = 600 := h.2.1
theorem Tx.hb (h : Tx M b n (s, e, k, c, q)) {i : Nat} (hi : i < 600) : mI M 13 0 i = b i := h.2.2.1 i hi
theorem Tx.hl (h : Tx M b n (s, e, k, c, q)) : mI M 7 0 1 = nI n := h.2.2.2.1
theorem Tx.hn (h : Tx M b n (s, e, k, c, q)) : n ≤ 600 := h.2.2.2.2.1
theorem Tx.hs (h : Tx M b n (s, e, k, c, q)) : mI M 7 0 5 = nI s := h.2.2.2.2.2.1
theorem Tx.he (h : Tx M b n (s, e, k, c, q)) : mI M 7 0 6 = nI e := h.2.2.2.2.2.2.1
theorem Tx.hk (h : Tx M b n (s, e, k, c, q)) : mI M 7 0 4 = k := h.2.2.2.2.2.2.2.1
theorem Tx.hc (h : Tx M b n (s, e, k, c, q)) : mI M 7 0 2 = c := h.2.2.2.2.2.2.2.2.1
theorem Tx.ho (h : Tx M b n (s, e, k, c, q)) : mI M 7 0 3 = q := h.2.2.2.2.2.2.2.2.2.1
theorem Tx.hsn (h : Tx M b n (s, e, k, c, q)) : s ≤ 600 := h.2.2.2.2.2.2.2.2.2.2.1
theorem Tx.hen (h : Tx M b n (s, e, k, c, q)) : e ≤ n := h.2.2.2.2.2.2.2.2.2.2.2
theorem Tx.fr {S : Nat → Nat → Prop} {a : Ta} (h : Tx M b n a) (hF : Fr S M M') (h1 : ¬ S 7 0) (h2 : ¬ S 13 0) : Tx M' b n a := by
  obtain ⟨a1, a2, a3, a4, a5, a6, a7, a8, a9, a10, a11⟩ := h
  obtain ⟨f1, f2, f3, f4, f5⟩ := hF
  have e7 := f5 7 0 h1
  have e13 := f5 13 0 h2
  refine ⟨by rw [e7.2.2.1]; exact a1, by rw [f2]; exact a2, fun i hi => by rw [e13.1]; exact a3 i hi, ?_, a5, ?_, ?_, ?_, ?_, ?_, a11⟩ <;> (rw [e7.1]; assumption)
theorem Tx.uS {v : Int32} (h : Tx M b n (s, e, k, c, q)) {s' : Nat} (hv : v = nI s') (hs : s' ≤ n) : Tx (sI M 7 0 5 v) b n (s', e, k, c, q) := by
  obtain ⟨a1, a2, a3, a4, a5, a6, a7, a8, a9, a10, a11, a12⟩ := h
  refine ⟨a1, a2, fun i hi => ?_, ?_, a5, ?_, ?_, ?_, ?_, ?_, (Nat.le_trans hs a5), a12⟩
  · rw [mI_sI, if_neg (by omega)]; exact a3 i hi
  all_goals rw [mI_sI]
  · rw [if_neg (by omega)]; exact a4
  · rw [if_pos ⟨rfl, rfl, rfl⟩]; exact hv
  · rw [if_neg (by omega)]; exact a7
  · rw [if_neg (by omega)]; exact a8
  · rw [if_neg (by omega)]; exact a9
  · rw [if_neg (by omega)]; exact a10
theorem Tx.uE {v : Int32} (h : Tx M b n (s, e, k, c, q)) {e' : Nat} (hv : v = nI e') (hs : e' ≤ n) : Tx (sI M 7 0 6 v) b n (s, e', k, c, q) := by
  obtain ⟨a1, a2, a3, a4, a5, a6, a7, a8, a9, a10, a11, a12⟩ := h
  refine ⟨a1, a2, fun i hi => ?_, ?_, a5, ?_, ?_, ?_, ?_, ?_, a11, hs⟩
  · rw [mI_sI, if_neg (by omega)]; exact a3 i hi
  all_goals rw [mI_sI]
  · rw [if_neg (by omega)]; exact a4
  · rw [if_neg (by omega)]; exact a6
  · rw [if_pos ⟨rfl, rfl, rfl⟩]; exact hv
  · rw [if_neg (by omega)]; exact a8
  · rw [if_neg (by omega)]; exact a9
  · rw [if_neg (by omega)]; exact a10
theorem Tx.uK {v : Int32} (h : Tx M b n (s, e, k, c, q)) {k' : Int32} (hv : v = k') : Tx (sI M 7 0 4 v) b n (s, e, k', c, q) := by
  obtain ⟨a1, a2, a3, a4, a5, a6, a7, a8, a9, a10, a11, a12⟩ := h
  refine ⟨a1, a2, fun i hi => ?_, ?_, a5, ?_, ?_, ?_, ?_, ?_, a11, a12⟩
  · rw [mI_sI, if_neg (by omega)]; exact a3 i hi
  all_goals rw [mI_sI]
  · rw [if_neg (by omega)]; exact a4
  · rw [if_neg (by omega)]; exact a6
  · rw [if_neg (by omega)]; exact a7
  · rw [if_pos ⟨rfl, rfl, rfl⟩]; exact hv
  · rw [if_neg (by omega)]; exact a9
  · rw [if_neg (by omega)]; exact a10
theorem Tx.uC {v : Int32} (h : Tx M b n (s, e, k, c, q)) {c' : Int32} (hv : v = c') : Tx (sI M 7 0 2 v) b n (s, e, k, c', q) := by
  obtain ⟨a1, a2, a3, a4, a5, a6, a7, a8, a9, a10, a11, a12⟩ := h
  refine ⟨a1, a2, fun i hi => ?_, ?_, a5, ?_, ?_, ?_, ?_, ?_, a11, a12⟩
  · rw [mI_sI, if_neg (by omega)]; exact a3 i hi
  all_goals rw [mI_sI]
  · rw [if_neg (by omega)]; exact a4
  · rw [if_neg (by omega)]; exact a6
  · rw [if_neg (by omega)]; exact a7
  · rw [if_neg (by omega)]; exact a8
  · rw [if_pos ⟨rfl, rfl, rfl⟩]; exact hv
  · rw [if_neg (by omega)]; exact a10
theorem Tx.uO {v : Int32} (h : Tx M b n (s, e, k, c, q)) {q' : Int32} (hv : v = q') : Tx (sI M 7 0 3 v) b n (s, e, k, c, q') := by
  obtain ⟨a1, a2, a3, a4, a5, a6, a7, a8, a9, a10, a11, a12⟩ := h
  refine ⟨a1, a2, fun i hi => ?_, ?_, a5, ?_, ?_, ?_, ?_, ?_, a11, a12⟩
  · rw [mI_sI, if_neg (by omega)]; exact a3 i hi
  all_goals rw [mI_sI]
  · rw [if_neg (by omega)]; exact a4
  · rw [if_neg (by omega)]; exact a6
  · rw [if_neg (by omega)]; exact a7
  · rw [if_neg (by omega)]; exact a8
  · rw [if_neg (by omega)]; exact a9
  · rw [if_pos ⟨rfl, rfl, rfl⟩]; exact hv
/-- a text before it is read: where the last token stood may lie behind its end -/
def Tz (M : Mem) (b : Nat → Int32) (n : Nat) (c q : Int32) : Prop := mR M 7 0 0 = some (rf 13 0) ∧ mN M 13 0 = 600 ∧ (∀ i, i < 600 → mI M 13 0 i = b i) ∧ mI M 7 0 1 = nI n ∧ n ≤ 600 ∧ (∃ s, s ≤ 600 ∧ mI M 7 0 5 = nI s) ∧ mI M 7 0 2 = c ∧ mI M 7 0 3 = q
theorem Tx.z (h : Tx M b n (s, e, k, c, q)) : Tz M b n c q := ⟨h.1, h.2.1, h.2.2.1, h.hl, h.hn, ⟨s, h.hsn, h.hs⟩, h.hc, h.ho⟩
theorem Tz.hy (h : Tz M b n c q) : mR M 7 0 0 = some (rf 13 0) := h.1
theorem Tz.hN (h : Tz M b n c q) : mN M 13 0 = 600 := h.2.1
theorem Tz.hl (h : Tz M b n c q) : mI M 7 0 1 = nI n := h.2.2.2.1
theorem Tz.hn (h : Tz M b n c q) : n ≤ 600 := h.2.2.2.2.1
theorem Tz.hc (h : Tz M b n c q) : mI M 7 0 2 = c := h.2.2.2.2.2.2.1
theorem Tz.ho (h : Tz M b n c q) : mI M 7 0 3 = q := h.2.2.2.2.2.2.2
theorem Tz.fr {S : Nat → Nat → Prop} (h : Tz M b n c q) (hF : Fr S M M') (h1 : ¬ S 7 0) (h2 : ¬ S 13 0) : Tz M' b n c q := by
  obtain ⟨a1, a2, a3, a4, a5, ⟨s, a6, a7⟩, a8, a9⟩ := h
  obtain ⟨f1, f2, f3, f4, f5⟩ := hF
  have e7 := f5 7 0 h1
  have e13 := f5 13 0 h2
  exact ⟨by rw [e7.2.2.1]; exact a1, by rw [f2]; exact a2, fun i hi => by rw [e13.1]; exact a3 i hi, by rw [e7.1]; exact a4, a5, ⟨s, a6, by rw [e7.1]; exact a7⟩, by rw [e7.1]; exact a8, by rw [e7.1]; exact a9⟩
theorem Tz.rew (h : Tz M b n c q) : ∃ s k, Tx (sI (sI (sI M 7 0 2 0) 7 0 3 (-1)) 7 0 6 0) b n (s, 0, k, 0, -1) := by
  obtain ⟨a1, a2, a3, a4, a5, ⟨s, a6, a7⟩, a8, a9⟩ := h
  exact ⟨s, mI M 7 0 4, a1, a2, a3, a4, a5, a7, rfl, rfl, rfl, rfl, a6, Nat.zero_le _⟩
theorem Tz.len {m : Nat} (h : Tz M b n c q) (hm : m ≤ 600) : Tz (sI M 7 0 1 (nI m)) b m c q := by
  obtain ⟨a1, a2, a3, a4, a5, a6, a8, a9⟩ := h
  exact ⟨a1, a2, a3, rfl, hm, a6, a8, a9⟩
end TXS
theorem nI_inj {a b : Nat} (ha : a < 2 ^ 31) (hb : b < 2 ^ 31) : nI a = nI b ↔ a = b := by
  constructor
  · intro h
    have := congrArg Int32.toInt h
    rw [nI_toInt ha, nI_toInt hb] at this
    omega
  · intro h; rw [h]
theorem tI_add (a b : Nat) : nI a + nI b = nI (a + b) := (Int32.ofNat_add a b).symm
theorem tI_pred {a : Nat} (h : 0 < a) : nI a - 1 = nI (a - 1) := by
  have := nI_sub (a := 1) (b := a) (by omega)
  exact this
def eqW (b : Nat → Int32) (s w : Nat) : Nat → Nat → Bool
  | 0, _ => true
  | f + 1, i => decide (b (s + i) = sB w i) && eqW b s w f (i + 1)
def isW (b : Nat → Int32) (s e : Nat) (k : Int32) (w : Nat) : Bool := decide (k = 2) && (decide (e - s = sLn w) && eqW b s w (sLn w) 0)
def nmG (b : Nat → Int32) : Nat → Nat → Int32 → Int32
  | 0, _, a => a
  | k + 1, i, a => nmG b k (i - 1) ((a <<< ((5 : Int32) &&& 31)) + b (i - 1) - 97 + 1)
def nmF (b : Nat → Int32) (s e : Nat) : Int32 := nmG b (e - s) e 0
def nuG (b : Nat → Int32) : Nat → Nat → Int32 → Int32
  | 0, _, a => a
  | k + 1, i, a => nuG b k (i + 1) (a * 10 + b i - 48)
def nuF (b : Nat → Int32) (s e : Nat) : Int32 := nuG b (e - s) s 0
def erA (cd : Int32) (a : Ta) : Ta := if cd = 0 then a else (a.1, a.2.1, a.2.2.1, cd, nI a.1)
def erR (cd : Int32) : Int32 := if cd = 0 then 1 else 0
def avA (b : Nat → Int32) (n e : Nat) (c q : Int32) : Ta := (tS b n e, tE b n e, tK b n e, c, q)
theorem er_0 {cd : Int32} (h : ¬ erR cd = 0) : cd = 0 := by
  unfold erR at h
  by_cases z : cd = 0
  · exact z
  · rw [if_neg z] at h; exact absurd rfl h
theorem er_1 {cd : Int32} (h : erR cd = 0) : ¬ cd = 0 := by
  intro z
  unfold erR at h
  rw [if_pos z] at h; exact absurd h (by decide)
theorem tS_le {b : Nat → Int32} {n e : Nat} (h : e ≤ n) : tS b n e ≤ n := runF_le (by decide) _ _ h
theorem tE_le {b : Nat → Int32} {n e : Nat} (h : e ≤ n) : tE b n e ≤ n := by
  unfold tE
  split
  next => exact tS_le h
  next z =>
    have := kp_0 z
    split
    · exact runF_le z _ _ this
    · exact this
theorem tS_tE {b : Nat → Int32} {n e : Nat} : tS b n e ≤ tE b n e := by
  unfold tE
  split
  · exact Nat.le_refl _
  · split
    · exact Nat.le_trans (Nat.le_succ _) (runF_ge _ _ _ _)
    · exact Nat.le_succ _
def bt (v : Int32) : Int32 := vp_nar .byte v.toInt8.toInt32
def upB (b : Nat → Int32) (i : Nat) (v : Int32) : Nat → Int32 := fun j => if j = i then v else b j
set_option maxHeartbeats 1000000 in
set_option maxRecDepth 4000 in
theorem s_tByte {d : Nat} {b : Nat → Int32} {n s e : Nat} {k c q : Int32} {i : Nat} {M : Mem} {Q : Out → Mem → Prop} (h : Tx M b n (s, e, k, c, q)) (hi : i < 600) (hq : Q (.inl (some (.int (b i)))) M) : WPc d mX8_byteAt [.ref (rf 7 0), .int (nI i)] M Q := by
  refine WPc.of (by decide +kernel) (Nat.le_of_ble_eq_true rfl) rfl ?_
  refine R.iload_n dX8_byteAt_0 rfl ?_
  refine R.if_lt (tgt := 13) dX8_byteAt_1 (by decide) (fun c1 => ?_) (fun c1 => ?_)
  · have n1 := i_nle c1
    exact absurd c1 (nI_pos (by omega))
  · have n1 := i_nlt c1
    refine R.iload_n dX8_byteAt_4 rfl ?_
    refine R.aload_n dX8_byteAt_5 rfl (by first | rfl | exact rfv_rf _) ?_
    refine R.getS (h.hy) dX8_byteAt_6 fl_X8_9 (by decide) rfl ?_
    refine R.alenS (h.hN) (by decide) (by decide) dX8_byteAt_9 ?_
    refine R.icmp_lt (tgt := 17) dX8_byteAt_10 (by decide) (fun c10 => ?_) (fun c10 => ?_)
    · have n10 := i_nle c10
      refine R.aload_n dX8_byteAt_17 rfl (by first | rfl | exact rfv_rf _) ?_
      refine R.getS (h.hy) dX8_byteAt_18 fl_X8_9 (by decide) rfl ?_
      refine R.iload_n dX8_byteAt_21 rfl ?_
      refine R.bald dX8_byteAt_22 (nI_pos (by omega)) (by rw [nI_clamp (by omega), h.hN]; exact hi) ?_
      rw [nI_clamp (by omega), h.hb hi]
      refine WP.ret (ov := some (.int _)) dX8_byteAt_23 ⟨rfl, _, rfl, by first | rfl | assumption | exact nar_b01 (by assumption)⟩ ?_
      exact hq
    · have n10 := i_nlt c10
      exact absurd (nI_lt (b := 600) hi (by decide)) c10
set_option maxHeartbeats 1000000 in
set_option maxRecDepth 4000 in
theorem s_tKind {d : Nat} {b : Nat → Int32} {n s e : Nat} {k c q : Int32} {i : Nat} {M : Mem} {Q : Out → Mem → Prop} (h : Tx M b n (s, e, k, c, q)) (hi : i ≤ n) (hq : Q (.inl (some (.int (kp b n i)))) M) : WPc d mX8_kindAt [.ref (rf 7 0), .int (nI i)] M Q := by
  refine WPc.of (by decide +kernel) (Nat.le_of_ble_eq_true rfl) rfl ?_
  have hn6 := h.hn
  by_cases hin : n ≤ i
  · refine R.iload_n dX8_kindAt_0 rfl ?_
    refine R.if_lt (tgt := 21) dX8_kindAt_1 (by decide) (fun c => absurd c (nI_pos (by have := h.hn; omega))) (fun _ => ?_)
    refine R.iload_n dX8_kindAt_4 rfl ?_
    refine R.aload_n dX8_kindAt_5 rfl (by first | rfl | exact rfv_rf _) ?_
    refine R.getI dX8_kindAt_6 fl_X8_22 (by decide) rfl ?_
    rw [h.hl]
    refine R.geT (tgt := 21) (nI_le hin (by have := h.hn; omega)) dX8_kindAt_9 (by decide) ?_
    refine R.iconst (v := 0) dX8_kindAt_21 rfl ?_
    refine WP.ret (ov := some (.int _)) dX8_kindAt_22 ⟨rfl, _, rfl, by first | rfl | assumption | exact nar_b01 (by assumption)⟩ ?_
    rw [kp, if_pos hin] at hq
    exact hq
  · refine R.iload_n dX8_kindAt_0 rfl ?_
    refine R.if_lt (tgt := 21) dX8_kindAt_1 (by decide) (fun c => absurd c (nI_pos (by have := h.hn; omega))) (fun _ => ?_)
    refine R.iload_n dX8_kindAt_4 rfl ?_
    refine R.aload_n dX8_kindAt_5 rfl (by first | rfl | exact rfv_rf _) ?_
    refine R.getI dX8_kindAt_6 fl_X8_22 (by decide) rfl ?_
    rw [h.hl]
    refine R.geF (tgt := 21) (nI_ge (by omega) (by have := h.hn; omega)) dX8_kindAt_9 (by decide) ?_
    refine R.iload_n dX8_kindAt_12 rfl ?_
    refine R.aload_n dX8_kindAt_13 rfl (by first | rfl | exact rfv_rf _) ?_
    refine R.getS (h.hy) dX8_kindAt_14 fl_X8_9 (by decide) rfl ?_
    refine R.alenS (h.hN) (by decide) (by decide) dX8_kindAt_17 ?_
    refine R.icmp_lt (tgt := 23) dX8_kindAt_18 (by decide) (fun _ => ?_) (fun c => absurd (nI_lt (b := 600) (by have := h.hn; omega) (by decide)) c)
    refine R.aload_n dX8_kindAt_23 rfl (by first | rfl | exact rfv_rf _) ?_
    refine R.getS (h.hy) dX8_kindAt_24 fl_X8_9 (by decide) rfl ?_
    refine R.iload_n dX8_kindAt_27 rfl ?_
    refine R.bald dX8_kindAt_28 (nI_pos (by omega)) (by rw [nI_clamp (by omega), h.hN]; have := h.hn; omega) ?_
    rw [nI_clamp (by omega), h.hb (by have := h.hn; omega)]
    refine R.istore_n dX8_kindAt_29 (Nat.le_of_ble_eq_true rfl) (by decide) (by first | rfl | simp [lft, rf_cat]) rfl ?_
    refine R.iload_n dX8_kindAt_30 rfl ?_
    refine R.bipush (v := 97) dX8_kindAt_31 (by decide) ?_
    refine R.icmp_lt (tgt := 44) dX8_kindAt_33 (by decide) (fun c33 => ?_) (fun c33 => ?_)
    · have n33 := i_nle c33
      refine R.iload_n dX8_kindAt_44 rfl ?_
      refine R.bipush (v := 48) dX8_kindAt_45 (by decide) ?_
      refine R.icmp_lt (tgt := 58) dX8_kindAt_47 (by decide) (fun c47 => ?_) (fun c47 => ?_)
      · have n47 := i_nle c47
        refine R.iload_n dX8_kindAt_58 rfl ?_
        refine R.bipush (v := 59) dX8_kindAt_59 (by decide) ?_
        refine R.icmp_ne (tgt := 66) dX8_kindAt_61 (by decide) (fun c61 => ?_) (fun c61 => ?_)
        · refine R.iload_n dX8_kindAt_66 rfl ?_
          refine R.bipush (v := 32) dX8_kindAt_67 (by decide) ?_
          refine R.icmp_eq (tgt := 78) dX8_kindAt_69 (by decide) (fun c69 => ?_) (fun c69 => ?_)
          · refine R.iconst (v := 1) dX8_kindAt_78 rfl ?_
            refine R.goto (tgt := 83) dX8_kindAt_79 (by decide) ?_
            refine WP.ret (ov := some (.int _)) dX8_kindAt_83 ⟨rfl, _, rfl, by first | rfl | assumption | exact nar_b01 (by assumption)⟩ ?_
            rw [kp, if_neg (by omega)] at hq
            unfold ck at hq
            simpa [*] using hq
          · refine R.iload_n dX8_kindAt_72 rfl ?_
            refine R.bipush (v := 10) dX8_kindAt_73 (by decide) ?_
            refine R.icmp_ne (tgt := 82) dX8_kindAt_75 (by decide) (fun c75 => ?_) (fun c75 => ?_)
            · refine R.iconst (v := 5) dX8_kindAt_82 rfl ?_
              refine WP.ret (ov := some (.int _)) dX8_kindAt_83 ⟨rfl, _, rfl, by first | rfl | assumption | exact nar_b01 (by assumption)⟩ ?_
              rw [kp, if_neg (by omega)] at hq
              unfold ck at hq
              simpa [*] using hq
            · refine R.iconst (v := 1) dX8_kindAt_78 rfl ?_
              refine R.goto (tgt := 83) dX8_kindAt_79 (by decide) ?_
              refine WP.ret (ov := some (.int _)) dX8_kindAt_83 ⟨rfl, _, rfl, by first | rfl | assumption | exact nar_b01 (by assumption)⟩ ?_
              rw [kp, if_neg (by omega)] at hq
              unfold ck at hq
              simpa [*] using hq
        · refine R.iconst (v := 4) dX8_kindAt_64 rfl ?_
          refine WP.ret (ov := some (.int _)) dX8_kindAt_65 ⟨rfl, _, rfl, by first | rfl | assumption | exact nar_b01 (by assumption)⟩ ?_
          rw [kp, if_neg (by omega)] at hq
          unfold ck at hq
          simpa [*] using hq
      · have n47 := i_nlt c47
        refine R.iload_n dX8_kindAt_50 rfl ?_
        refine R.bipush (v := 57) dX8_kindAt_51 (by decide) ?_
        refine R.icmp_gt (tgt := 58) dX8_kindAt_53 (by decide) (fun c53 => ?_) (fun c53 => ?_)
        · have n53 := i_nle c53
          refine R.iload_n dX8_kindAt_58 rfl ?_
          refine R.bipush (v := 59) dX8_kindAt_59 (by decide) ?_
          refine R.icmp_ne (tgt := 66) dX8_kindAt_61 (by decide) (fun c61 => ?_) (fun c61 => ?_)
          · refine R.iload_n dX8_kindAt_66 rfl ?_
            refine R.bipush (v := 32) dX8_kindAt_67 (by decide) ?_
            refine R.icmp_eq (tgt := 78) dX8_kindAt_69 (by decide) (fun c69 => ?_) (fun c69 => ?_)
            · refine R.iconst (v := 1) dX8_kindAt_78 rfl ?_
              refine R.goto (tgt := 83) dX8_kindAt_79 (by decide) ?_
              refine WP.ret (ov := some (.int _)) dX8_kindAt_83 ⟨rfl, _, rfl, by first | rfl | assumption | exact nar_b01 (by assumption)⟩ ?_
              rw [kp, if_neg (by omega)] at hq
              unfold ck at hq
              simpa [*] using hq
            · refine R.iload_n dX8_kindAt_72 rfl ?_
              refine R.bipush (v := 10) dX8_kindAt_73 (by decide) ?_
              refine R.icmp_ne (tgt := 82) dX8_kindAt_75 (by decide) (fun c75 => ?_) (fun c75 => ?_)
              · refine R.iconst (v := 5) dX8_kindAt_82 rfl ?_
                refine WP.ret (ov := some (.int _)) dX8_kindAt_83 ⟨rfl, _, rfl, by first | rfl | assumption | exact nar_b01 (by assumption)⟩ ?_
                rw [kp, if_neg (by omega)] at hq
                unfold ck at hq
                simpa [*] using hq
              · refine R.iconst (v := 1) dX8_kindAt_78 rfl ?_
                refine R.goto (tgt := 83) dX8_kindAt_79 (by decide) ?_
                refine WP.ret (ov := some (.int _)) dX8_kindAt_83 ⟨rfl, _, rfl, by first | rfl | assumption | exact nar_b01 (by assumption)⟩ ?_
                rw [kp, if_neg (by omega)] at hq
                unfold ck at hq
                simpa [*] using hq
          · refine R.iconst (v := 4) dX8_kindAt_64 rfl ?_
            refine WP.ret (ov := some (.int _)) dX8_kindAt_65 ⟨rfl, _, rfl, by first | rfl | assumption | exact nar_b01 (by assumption)⟩ ?_
            rw [kp, if_neg (by omega)] at hq
            unfold ck at hq
            simpa [*] using hq
        · have n53 := i_nlt c53
          refine R.iconst (v := 3) dX8_kindAt_56 rfl ?_
          refine WP.ret (ov := some (.int _)) dX8_kindAt_57 ⟨rfl, _, rfl, by first | rfl | assumption | exact nar_b01 (by assumption)⟩ ?_
          rw [kp, if_neg (by omega)] at hq
          unfold ck at hq
          simpa [*] using hq
    · have n33 := i_nlt c33
      refine R.iload_n dX8_kindAt_36 rfl ?_
      refine R.bipush (v := 122) dX8_kindAt_37 (by decide) ?_
      refine R.icmp_gt (tgt := 44) dX8_kindAt_39 (by decide) (fun c39 => ?_) (fun c39 => ?_)
      · have n39 := i_nle c39
        refine R.iload_n dX8_kindAt_44 rfl ?_
        refine R.bipush (v := 48) dX8_kindAt_45 (by decide) ?_
        refine R.icmp_lt (tgt := 58) dX8_kindAt_47 (by decide) (fun c47 => ?_) (fun c47 => ?_)
        · have n47 := i_nle c47
          refine R.iload_n dX8_kindAt_58 rfl ?_
          refine R.bipush (v := 59) dX8_kindAt_59 (by decide) ?_
          refine R.icmp_ne (tgt := 66) dX8_kindAt_61 (by decide) (fun c61 => ?_) (fun c61 => ?_)
          · refine R.iload_n dX8_kindAt_66 rfl ?_
            refine R.bipush (v := 32) dX8_kindAt_67 (by decide) ?_
            refine R.icmp_eq (tgt := 78) dX8_kindAt_69 (by decide) (fun c69 => ?_) (fun c69 => ?_)
            · refine R.iconst (v := 1) dX8_kindAt_78 rfl ?_
              refine R.goto (tgt := 83) dX8_kindAt_79 (by decide) ?_
              refine WP.ret (ov := some (.int _)) dX8_kindAt_83 ⟨rfl, _, rfl, by first | rfl | assumption | exact nar_b01 (by assumption)⟩ ?_
              rw [kp, if_neg (by omega)] at hq
              unfold ck at hq
              simpa [*] using hq
            · refine R.iload_n dX8_kindAt_72 rfl ?_
              refine R.bipush (v := 10) dX8_kindAt_73 (by decide) ?_
              refine R.icmp_ne (tgt := 82) dX8_kindAt_75 (by decide) (fun c75 => ?_) (fun c75 => ?_)
              · refine R.iconst (v := 5) dX8_kindAt_82 rfl ?_
                refine WP.ret (ov := some (.int _)) dX8_kindAt_83 ⟨rfl, _, rfl, by first | rfl | assumption | exact nar_b01 (by assumption)⟩ ?_
                rw [kp, if_neg (by omega)] at hq
                unfold ck at hq
                simpa [*] using hq
              · refine R.iconst (v := 1) dX8_kindAt_78 rfl ?_
                refine R.goto (tgt := 83) dX8_kindAt_79 (by decide) ?_
                refine WP.ret (ov := some (.int _)) dX8_kindAt_83 ⟨rfl, _, rfl, by first | rfl | assumption | exact nar_b01 (by assumption)⟩ ?_
                rw [kp, if_neg (by omega)] at hq
                unfold ck at hq
                simpa [*] using hq
          · refine R.iconst (v := 4) dX8_kindAt_64 rfl ?_
            refine WP.ret (ov := some (.int _)) dX8_kindAt_65 ⟨rfl, _, rfl, by first | rfl | assumption | exact nar_b01 (by assumption)⟩ ?_
            rw [kp, if_neg (by omega)] at hq
            unfold ck at hq
            simpa [*] using hq
        · have n47 := i_nlt c47
          refine R.iload_n dX8_kindAt_50 rfl ?_
          refine R.bipush (v := 57) dX8_kindAt_51 (by decide) ?_
          refine R.icmp_gt (tgt := 58) dX8_kindAt_53 (by decide) (fun c53 => ?_) (fun c53 => ?_)
          · have n53 := i_nle c53
            refine R.iload_n dX8_kindAt_58 rfl ?_
            refine R.bipush (v := 59) dX8_kindAt_59 (by decide) ?_
            refine R.icmp_ne (tgt := 66) dX8_kindAt_61 (by decide) (fun c61 => ?_) (fun c61 => ?_)
            · refine R.iload_n dX8_kindAt_66 rfl ?_
              refine R.bipush (v := 32) dX8_kindAt_67 (by decide) ?_
              refine R.icmp_eq (tgt := 78) dX8_kindAt_69 (by decide) (fun c69 => ?_) (fun c69 => ?_)
              · refine R.iconst (v := 1) dX8_kindAt_78 rfl ?_
                refine R.goto (tgt := 83) dX8_kindAt_79 (by decide) ?_
                refine WP.ret (ov := some (.int _)) dX8_kindAt_83 ⟨rfl, _, rfl, by first | rfl | assumption | exact nar_b01 (by assumption)⟩ ?_
                rw [kp, if_neg (by omega)] at hq
                unfold ck at hq
                simpa [*] using hq
              · refine R.iload_n dX8_kindAt_72 rfl ?_
                refine R.bipush (v := 10) dX8_kindAt_73 (by decide) ?_
                refine R.icmp_ne (tgt := 82) dX8_kindAt_75 (by decide) (fun c75 => ?_) (fun c75 => ?_)
                · refine R.iconst (v := 5) dX8_kindAt_82 rfl ?_
                  refine WP.ret (ov := some (.int _)) dX8_kindAt_83 ⟨rfl, _, rfl, by first | rfl | assumption | exact nar_b01 (by assumption)⟩ ?_
                  rw [kp, if_neg (by omega)] at hq
                  unfold ck at hq
                  simpa [*] using hq
                · refine R.iconst (v := 1) dX8_kindAt_78 rfl ?_
                  refine R.goto (tgt := 83) dX8_kindAt_79 (by decide) ?_
                  refine WP.ret (ov := some (.int _)) dX8_kindAt_83 ⟨rfl, _, rfl, by first | rfl | assumption | exact nar_b01 (by assumption)⟩ ?_
                  rw [kp, if_neg (by omega)] at hq
                  unfold ck at hq
                  simpa [*] using hq
            · refine R.iconst (v := 4) dX8_kindAt_64 rfl ?_
              refine WP.ret (ov := some (.int _)) dX8_kindAt_65 ⟨rfl, _, rfl, by first | rfl | assumption | exact nar_b01 (by assumption)⟩ ?_
              rw [kp, if_neg (by omega)] at hq
              unfold ck at hq
              simpa [*] using hq
          · have n53 := i_nlt c53
            refine R.iconst (v := 3) dX8_kindAt_56 rfl ?_
            refine WP.ret (ov := some (.int _)) dX8_kindAt_57 ⟨rfl, _, rfl, by first | rfl | assumption | exact nar_b01 (by assumption)⟩ ?_
            rw [kp, if_neg (by omega)] at hq
            unfold ck at hq
            simpa [*] using hq
      · have n39 := i_nlt c39
        refine R.iconst (v := 2) dX8_kindAt_42 rfl ?_
        refine WP.ret (ov := some (.int _)) dX8_kindAt_43 ⟨rfl, _, rfl, by first | rfl | assumption | exact nar_b01 (by assumption)⟩ ?_
        rw [kp, if_neg (by omega)] at hq
        unfold ck at hq
        simpa [*] using hq
set_option maxHeartbeats 1000000 in
set_option maxRecDepth 4000 in
theorem s_tFail {d : Nat} {b : Nat → Int32} {n s e : Nat} {k c q : Int32} {x : Int32} {M : Mem} {Q : Out → Mem → Prop} (h : Tx M b n (s, e, k, c, q)) (hq : ∀ M', Tx M' b n (s, e, k, x, nI s) → Fr inT M M' → Q (.inl (some (.int 0))) M') : WPc d mX8_fail [.ref (rf 7 0), .int x] M Q := by
  refine WPc.of (by decide +kernel) (Nat.le_of_ble_eq_true rfl) rfl ?_
  refine R.aload_n dX8_fail_0 rfl (by first | rfl | exact rfv_rf _) ?_
  refine R.iload_n dX8_fail_1 rfl ?_
  refine R.putI dX8_fail_2 fl_X8_15 (fun q hq => by cases hq; exact Or.inl rfl) (by decide) rfl rfl rfl ?_
  refine R.aload_n dX8_fail_5 rfl (by first | rfl | exact rfv_rf _) ?_
  refine R.aload_n dX8_fail_6 rfl (by first | rfl | exact rfv_rf _) ?_
  refine R.getI dX8_fail_7 fl_X8_41 (by decide) rfl ?_
  refine R.putI dX8_fail_10 fl_X8_19 (fun q hq => by cases hq; exact Or.inl rfl) (by decide) rfl rfl rfl ?_
  refine R.iconst (v := 0) dX8_fail_13 rfl ?_
  refine WP.ret (ov := some (.int _)) dX8_fail_14 ⟨rfl, _, rfl, by first | rfl | assumption | exact nar_b01 (by assumption)⟩ ?_
  refine hq _ ?_ (Fr.sI (Fr.sI (Fr.rf _ _) inT_F) inT_F)
  have h1 := h.uC (v := x) rfl
  exact h1.uO h1.hs
set_option maxHeartbeats 1000000 in
set_option maxRecDepth 4000 in
theorem s_tRew {d : Nat} {b : Nat → Int32} {n : Nat} {c q : Int32} {M : Mem} {Q : Out → Mem → Prop} (h : Tz M b n c q) (hq : ∀ M' s k, Tx M' b n (s, 0, k, 0, -1) → Fr inT M M' → Q (.inl none) M') : WPc d mX8_rewind [.ref (rf 7 0)] M Q := by
  refine WPc.of (by decide +kernel) (Nat.le_of_ble_eq_true rfl) rfl ?_
  refine R.aload_n dX8_rewind_0 rfl (by first | rfl | exact rfv_rf _) ?_
  refine R.iconst (v := 0) dX8_rewind_1 rfl ?_
  refine R.putI dX8_rewind_2 fl_X8_15 (fun q hq => by cases hq; exact Or.inl rfl) (by decide) rfl rfl rfl ?_
  refine R.aload_n dX8_rewind_5 rfl (by first | rfl | exact rfv_rf _) ?_
  refine R.iconst (v := (-1)) dX8_rewind_6 rfl ?_
  refine R.putI dX8_rewind_7 fl_X8_19 (fun q hq => by cases hq; exact Or.inl rfl) (by decide) rfl rfl rfl ?_
  refine R.aload_n dX8_rewind_10 rfl (by first | rfl | exact rfv_rf _) ?_
  refine R.iconst (v := 0) dX8_rewind_11 rfl ?_
  refine R.putI dX8_rewind_12 fl_X8_38 (fun q hq => by cases hq; exact Or.inl rfl) (by decide) rfl rfl rfl ?_
  refine WP.ret (ov := none) dX8_rewind_15 ⟨rfl, rfl⟩ ?_
  obtain ⟨s9, k9, h9⟩ := h.rew
  exact hq _ _ _ h9 (Fr.sI (Fr.sI (Fr.sI (Fr.rf _ _) inT_F) inT_F) inT_F)
set_option maxHeartbeats 1000000 in
set_option maxRecDepth 4000 in
theorem s_tAdv {d : Nat} {b : Nat → Int32} {n s e : Nat} {k c q : Int32} {M : Mem} {Q : Out → Mem → Prop} (h : Tx M b n (s, e, k, c, q)) (hq : ∀ M', Tx M' b n (avA b n e c q) → Fr inT M M' → Q (.inl none) M') : WPc (d + 1) mX8_advance [.ref (rf 7 0)] M Q := by
  refine WPc.of (by decide +kernel) (Nat.le_of_ble_eq_true rfl) rfl ?_
  have hen := h.hen
  have hn6 := h.hn
  have lt_of : ∀ {x y : Nat}, x < tE b n e - tS b n e → x = y → nI y < nI (tE b n e - tS b n e) := fun hx e => by subst e; exact nI_lt hx (by have := tE_le (b := b) hen; omega)
  have nlt_of : ∀ {y : Nat}, y < 2 ^ 31 → nI y < nI (tE b n e - tS b n e) → y < tE b n e - tS b n e := fun hy hx => by
    apply Decidable.byContradiction
    intro z
    exact absurd hx (nI_nlt (by omega) hy)
  have p145 : ∀ (M1 : Mem) (v1 : Int32), Tx M1 b n (tS b n e, tE b n e, kp b n (tS b n e), c, q) → Fr inT M M1 → WP mX8_advance (d + 1) 145 [.ref (rf 7 0), .int v1, UN] [] M1 Q := by
    intro M1 v1 h1 hF
    refine R.aload_n dX8_advance_145 rfl (by first | rfl | exact rfv_rf _) ?_
    refine R.getI dX8_advance_146 fl_X8_48 (by decide) rfl ?_
    rw [h1.hk]
    refine R.iconst (v := 2) dX8_advance_149 rfl ?_
    refine R.icmp_ne (tgt := 167) dX8_advance_150 (by decide) (fun c150 => ?_) (fun c150 => ?_)
    · refine R.aload_n dX8_advance_167 rfl (by first | rfl | exact rfv_rf _) ?_
      refine R.getI dX8_advance_168 fl_X8_48 (by decide) rfl ?_
      rw [h1.hk]
      refine R.iconst (v := 3) dX8_advance_171 rfl ?_
      refine R.icmp_ne (tgt := 192) dX8_advance_172 (by decide) (fun c172 => ?_) (fun c172 => ?_)
      · refine R.iconst (v := 0) dX8_advance_192 rfl ?_
        refine R.istore_n dX8_advance_193 (Nat.le_of_ble_eq_true rfl) (by decide) (by first | rfl | simp [lft, rf_cat]) rfl ?_
        refine R.iload_n dX8_advance_194 rfl ?_
        refine R.if_eq (tgt := 203) dX8_advance_195 (by decide) (fun _ => ?_) (fun c => absurd (by decide) c)
        refine WP.ret (ov := none) dX8_advance_203 ⟨rfl, rfl⟩ ?_
        have hK : tK b n e = kp b n (tS b n e) := by
          unfold tK
          rw [if_neg (fun z => z.elim (fun z => c150 z.1) (fun z => c172 z.1))]
        refine hq _ ?_ hF
        unfold avA
        rw [hK]
        exact h1
      · refine R.aload_n dX8_advance_175 rfl (by first | rfl | exact rfv_rf _) ?_
        refine R.getI dX8_advance_176 fl_X8_38 (by decide) rfl ?_
        rw [h1.he]
        refine R.aload_n dX8_advance_179 rfl (by first | rfl | exact rfv_rf _) ?_
        refine R.getI dX8_advance_180 fl_X8_41 (by decide) rfl ?_
        rw [h1.hs]
        refine R.isub dX8_advance_183 ?_
        rw [nI_sub tS_tE]
        refine R.iconst (v := 4) dX8_advance_184 rfl ?_
        refine R.icmp_le (tgt := 192) dX8_advance_185 (by decide) (fun c185 => ?_) (fun c185 => ?_)
        · have n185 := i_nl2 c185
          refine R.iconst (v := 0) dX8_advance_192 rfl ?_
          refine R.istore_n dX8_advance_193 (Nat.le_of_ble_eq_true rfl) (by decide) (by first | rfl | simp [lft, rf_cat]) rfl ?_
          refine R.iload_n dX8_advance_194 rfl ?_
          refine R.if_eq (tgt := 203) dX8_advance_195 (by decide) (fun _ => ?_) (fun c => absurd (by decide) c)
          refine WP.ret (ov := none) dX8_advance_203 ⟨rfl, rfl⟩ ?_
          have hK : tK b n e = kp b n (tS b n e) := by
            unfold tK
            rw [if_neg (fun z => z.elim (fun z => c150 z.1) (fun z => absurd (lt_of (y := 4) z.2 rfl) (i_nl2 c185)))]
          refine hq _ ?_ hF
          unfold avA
          rw [hK]
          exact h1
        · have n185 := i_lt c185
          refine R.iconst (v := 1) dX8_advance_188 rfl ?_
          refine R.goto (tgt := 193) dX8_advance_189 (by decide) ?_
          refine R.istore_n dX8_advance_193 (Nat.le_of_ble_eq_true rfl) (by decide) (by first | rfl | simp [lft, rf_cat]) rfl ?_
          refine R.iload_n dX8_advance_194 rfl ?_
          refine R.if_eq (tgt := 203) dX8_advance_195 (by decide) (fun c => absurd c (by decide)) (fun _ => ?_)
          refine R.aload_n dX8_advance_198 rfl (by first | rfl | exact rfv_rf _) ?_
          refine R.iconst (v := 5) dX8_advance_199 rfl ?_
          refine R.putI dX8_advance_200 fl_X8_48 (fun q hq => by cases hq; exact Or.inl rfl) (by decide) rfl rfl rfl ?_
          refine WP.ret (ov := none) dX8_advance_203 ⟨rfl, rfl⟩ ?_
          have hK : tK b n e = 5 := by
            unfold tK
            rw [if_pos (Or.inr ⟨c172, nlt_of (y := 4) (by decide) (i_lt c185)⟩)]
          refine hq _ ?_ (Fr.sI hF inT_F)
          unfold avA
          rw [hK]
          exact h1.uK rfl
    · refine R.aload_n dX8_advance_153 rfl (by first | rfl | exact rfv_rf _) ?_
      refine R.getI dX8_advance_154 fl_X8_38 (by decide) rfl ?_
      rw [h1.he]
      refine R.aload_n dX8_advance_157 rfl (by first | rfl | exact rfv_rf _) ?_
      refine R.getI dX8_advance_158 fl_X8_41 (by decide) rfl ?_
      rw [h1.hs]
      refine R.isub dX8_advance_161 ?_
      rw [nI_sub tS_tE]
      refine R.bipush (v := 8) dX8_advance_162 (by decide) ?_
      refine R.icmp_gt (tgt := 188) dX8_advance_164 (by decide) (fun c164 => ?_) (fun c164 => ?_)
      · have n164 := i_nle c164
        refine R.iconst (v := 1) dX8_advance_188 rfl ?_
        refine R.goto (tgt := 193) dX8_advance_189 (by decide) ?_
        refine R.istore_n dX8_advance_193 (Nat.le_of_ble_eq_true rfl) (by decide) (by first | rfl | simp [lft, rf_cat]) rfl ?_
        refine R.iload_n dX8_advance_194 rfl ?_
        refine R.if_eq (tgt := 203) dX8_advance_195 (by decide) (fun c => absurd c (by decide)) (fun _ => ?_)
        refine R.aload_n dX8_advance_198 rfl (by first | rfl | exact rfv_rf _) ?_
        refine R.iconst (v := 5) dX8_advance_199 rfl ?_
        refine R.putI dX8_advance_200 fl_X8_48 (fun q hq => by cases hq; exact Or.inl rfl) (by decide) rfl rfl rfl ?_
        refine WP.ret (ov := none) dX8_advance_203 ⟨rfl, rfl⟩ ?_
        have hK : tK b n e = 5 := by
          unfold tK
          rw [if_pos (Or.inl ⟨c150, nlt_of (y := 8) (by decide) c164⟩)]
        refine hq _ ?_ (Fr.sI hF inT_F)
        unfold avA
        rw [hK]
        exact h1.uK rfl
      · have n164 := i_nlt c164
        refine R.aload_n dX8_advance_167 rfl (by first | rfl | exact rfv_rf _) ?_
        refine R.getI dX8_advance_168 fl_X8_48 (by decide) rfl ?_
        rw [h1.hk]
        refine R.iconst (v := 3) dX8_advance_171 rfl ?_
        refine R.icmp_ne (tgt := 192) dX8_advance_172 (by decide) (fun c172 => ?_) (fun c172 => ?_)
        · refine R.iconst (v := 0) dX8_advance_192 rfl ?_
          refine R.istore_n dX8_advance_193 (Nat.le_of_ble_eq_true rfl) (by decide) (by first | rfl | simp [lft, rf_cat]) rfl ?_
          refine R.iload_n dX8_advance_194 rfl ?_
          refine R.if_eq (tgt := 203) dX8_advance_195 (by decide) (fun _ => ?_) (fun c => absurd (by decide) c)
          refine WP.ret (ov := none) dX8_advance_203 ⟨rfl, rfl⟩ ?_
          have hK : tK b n e = kp b n (tS b n e) := by
            unfold tK
            rw [if_neg (fun z => z.elim (fun z => absurd (lt_of (y := 8) z.2 rfl) c164) (fun z => c172 z.1))]
          refine hq _ ?_ hF
          unfold avA
          rw [hK]
          exact h1
        · refine R.aload_n dX8_advance_175 rfl (by first | rfl | exact rfv_rf _) ?_
          refine R.getI dX8_advance_176 fl_X8_38 (by decide) rfl ?_
          rw [h1.he]
          refine R.aload_n dX8_advance_179 rfl (by first | rfl | exact rfv_rf _) ?_
          refine R.getI dX8_advance_180 fl_X8_41 (by decide) rfl ?_
          rw [h1.hs]
          refine R.isub dX8_advance_183 ?_
          rw [nI_sub tS_tE]
          refine R.iconst (v := 4) dX8_advance_184 rfl ?_
          refine R.icmp_le (tgt := 192) dX8_advance_185 (by decide) (fun c185 => ?_) (fun c185 => ?_)
          · have n185 := i_nl2 c185
            refine R.iconst (v := 0) dX8_advance_192 rfl ?_
            refine R.istore_n dX8_advance_193 (Nat.le_of_ble_eq_true rfl) (by decide) (by first | rfl | simp [lft, rf_cat]) rfl ?_
            refine R.iload_n dX8_advance_194 rfl ?_
            refine R.if_eq (tgt := 203) dX8_advance_195 (by decide) (fun _ => ?_) (fun c => absurd (by decide) c)
            refine WP.ret (ov := none) dX8_advance_203 ⟨rfl, rfl⟩ ?_
            have hK : tK b n e = kp b n (tS b n e) := by
              unfold tK
              rw [if_neg (fun z => z.elim (fun z => absurd (lt_of (y := 8) z.2 rfl) c164) (fun z => absurd (lt_of (y := 4) z.2 rfl) (i_nl2 c185)))]
            refine hq _ ?_ hF
            unfold avA
            rw [hK]
            exact h1
          · have n185 := i_lt c185
            refine R.iconst (v := 1) dX8_advance_188 rfl ?_
            refine R.goto (tgt := 193) dX8_advance_189 (by decide) ?_
            refine R.istore_n dX8_advance_193 (Nat.le_of_ble_eq_true rfl) (by decide) (by first | rfl | simp [lft, rf_cat]) rfl ?_
            refine R.iload_n dX8_advance_194 rfl ?_
            refine R.if_eq (tgt := 203) dX8_advance_195 (by decide) (fun c => absurd c (by decide)) (fun _ => ?_)
            refine R.aload_n dX8_advance_198 rfl (by first | rfl | exact rfv_rf _) ?_
            refine R.iconst (v := 5) dX8_advance_199 rfl ?_
            refine R.putI dX8_advance_200 fl_X8_48 (fun q hq => by cases hq; exact Or.inl rfl) (by decide) rfl rfl rfl ?_
            refine WP.ret (ov := none) dX8_advance_203 ⟨rfl, rfl⟩ ?_
            have hK : tK b n e = 5 := by
              unfold tK
              rw [if_pos (Or.inr ⟨c172, nlt_of (y := 4) (by decide) (i_lt c185)⟩)]
            refine hq _ ?_ (Fr.sI hF inT_F)
            unfold avA
            rw [hK]
            exact h1.uK rfl
  have key2 : ∀ (f i : Nat) (M1 : Mem), Tx M1 b n (tS b n e, i, kp b n (tS b n e), c, q) → Fr inT M M1 → n < i + f → tE b n e = runF (kp b n) (kp b n (tS b n e)) f i → ¬ kp b n (tS b n e) = 0 → WP mX8_advance (d + 1) 102 [.ref (rf 7 0), .int 1, UN] [] M1 Q := by
    intro f
    induction f with
    | zero =>
      intro i M1 h1 hF hf hE hr
      have := h1.hen
      omega
    | succ f key2 =>
      intro i M1 h1 hF hf hE hr
      refine R.iload_n dX8_advance_102 rfl ?_
      refine R.if_eq (tgt := 145) dX8_advance_103 (by decide) (fun c => absurd c (by decide)) (fun _ => ?_)
      refine R.aload_n dX8_advance_106 rfl (by first | rfl | exact rfv_rf _) ?_
      refine R.getI dX8_advance_107 fl_X8_38 (by decide) rfl ?_
      rw [h1.he]
      refine R.aload_n dX8_advance_110 rfl (by first | rfl | exact rfv_rf _) ?_
      refine R.getI dX8_advance_111 fl_X8_22 (by decide) rfl ?_
      rw [h1.hl]
      refine R.icmp_ge (tgt := 145) dX8_advance_114 (by decide) (fun c114 => ?_) (fun c114 => ?_)
      · have n114 := i_nl2 c114
        refine p145 _ _ ?_ hF
        rw [hE, runF, if_neg (fun z => absurd c114 (nI_ge (kp_0 (by rw [z]; exact hr)) (by omega)))]
        exact h1
      · have n114 := i_lt c114
        refine R.aload_n dX8_advance_117 rfl (by first | rfl | exact rfv_rf _) ?_
        refine R.aload_n dX8_advance_118 rfl (by first | rfl | exact rfv_rf _) ?_
        refine R.getI dX8_advance_119 fl_X8_38 (by decide) rfl ?_
        rw [h1.he]
        refine cl_X8_44 rfl rfl (by first | exact Nat.le_of_ble_eq_true rfl | simp [rf_cat, Value.category]) dX8_advance_122 ?_
        refine s_tKind h1 h1.hen ?_
        refine R.aload_n dX8_advance_125 rfl (by first | rfl | exact rfv_rf _) ?_
        refine R.getI dX8_advance_126 fl_X8_48 (by decide) rfl ?_
        rw [h1.hk]
        refine R.icmp_ne (tgt := 145) dX8_advance_129 (by decide) (fun c129 => ?_) (fun c129 => ?_)
        · refine p145 _ _ ?_ hF
          rw [hE, runF, if_neg (fun z => c129 z)]
          exact h1
        · refine R.aload_n dX8_advance_132 rfl (by first | rfl | exact rfv_rf _) ?_
          refine R.dup dX8_advance_133 (by first | rfl | exact rf_cat _) ?_
          refine R.getI dX8_advance_134 fl_X8_38 (by decide) rfl ?_
          rw [h1.he]
          refine R.iconst (v := 1) dX8_advance_137 rfl ?_
          refine R.iadd dX8_advance_138 ?_
          refine R.putI dX8_advance_139 fl_X8_38 (fun q hq => by cases hq; exact Or.inl rfl) (by decide) rfl rfl rfl ?_
          refine R.goto (tgt := 102) dX8_advance_142 (by decide) ?_
          have hi9 := h1.hen
          have hin : i < n := Decidable.byContradiction (fun z => absurd (nI_le (by omega) (by omega)) c114)
          exact key2 (i + 1) _ (h1.uE (nI_succ _).symm hin) (Fr.sI hF inT_F) (by omega) (by rw [hE, runF, if_pos c129]) hr
  have p80 : ∀ (M1 : Mem) (x : Nat), Tx M1 b n (tS b n e, x, kp b n (tS b n e), c, q) → Fr inT M M1 → (kp b n (tS b n e) = 2 → tE b n e = runF (kp b n) (kp b n (tS b n e)) 601 x) → (kp b n (tS b n e) = 3 → tE b n e = runF (kp b n) (kp b n (tS b n e)) 601 x) → (¬ kp b n (tS b n e) = 2 → ¬ kp b n (tS b n e) = 3 → tE b n e = x) → WP mX8_advance (d + 1) 80 [.ref (rf 7 0), UN, UN] [] M1 Q := by
    intro M1 x h1 hF hE2 hE3 hE9
    refine R.aload_n dX8_advance_80 rfl (by first | rfl | exact rfv_rf _) ?_
    refine R.getI dX8_advance_81 fl_X8_48 (by decide) rfl ?_
    rw [h1.hk]
    refine R.iconst (v := 2) dX8_advance_84 rfl ?_
    refine R.icmp_eq (tgt := 96) dX8_advance_85 (by decide) (fun c85 => ?_) (fun c85 => ?_)
    · refine R.iconst (v := 1) dX8_advance_96 rfl ?_
      refine R.goto (tgt := 101) dX8_advance_97 (by decide) ?_
      refine R.istore_n dX8_advance_101 (Nat.le_of_ble_eq_true rfl) (by decide) (by first | rfl | simp [lft, rf_cat]) rfl ?_
      have hE := hE2 c85
      exact key2 601 _ _ h1 hF (by omega) hE (fun z => absurd (z.symm.trans c85) (by decide))
    · refine R.aload_n dX8_advance_88 rfl (by first | rfl | exact rfv_rf _) ?_
      refine R.getI dX8_advance_89 fl_X8_48 (by decide) rfl ?_
      rw [h1.hk]
      refine R.iconst (v := 3) dX8_advance_92 rfl ?_
      refine R.icmp_ne (tgt := 100) dX8_advance_93 (by decide) (fun c93 => ?_) (fun c93 => ?_)
      · refine R.iconst (v := 0) dX8_advance_100 rfl ?_
        refine R.istore_n dX8_advance_101 (Nat.le_of_ble_eq_true rfl) (by decide) (by first | rfl | simp [lft, rf_cat]) rfl ?_
        refine R.iload_n dX8_advance_102 rfl ?_
        refine R.if_eq (tgt := 145) dX8_advance_103 (by decide) (fun _ => ?_) (fun c => absurd rfl c)
        exact p145 _ 0 (by rw [hE9 c85 c93]; exact h1) hF
      · refine R.iconst (v := 1) dX8_advance_96 rfl ?_
        refine R.goto (tgt := 101) dX8_advance_97 (by decide) ?_
        refine R.istore_n dX8_advance_101 (Nat.le_of_ble_eq_true rfl) (by decide) (by first | rfl | simp [lft, rf_cat]) rfl ?_
        have hE := hE3 c93
        exact key2 601 _ _ h1 hF (by omega) hE (fun z => absurd (z.symm.trans c93) (by decide))
  have p56 : ∀ (M1 : Mem), Tx M1 b n (tS b n e, e, kp b n (tS b n e), c, q) → Fr inT M M1 → WP mX8_advance (d + 1) 56 [.ref (rf 7 0), UN, UN] [] M1 Q := by
    intro M1 h1 hF
    refine R.aload_n dX8_advance_56 rfl (by first | rfl | exact rfv_rf _) ?_
    refine R.aload_n dX8_advance_57 rfl (by first | rfl | exact rfv_rf _) ?_
    refine R.getI dX8_advance_58 fl_X8_48 (by decide) rfl ?_
    rw [h1.hk]
    refine R.if_ne (tgt := 71) dX8_advance_61 (by decide) (fun c61 => ?_) (fun c61 => ?_)
    · -- there is a token
      refine R.aload_n dX8_advance_71 rfl (by first | rfl | exact rfv_rf _) ?_
      refine R.getI dX8_advance_72 fl_X8_41 (by decide) rfl ?_
      rw [h1.hs]
      refine R.iconst (v := 1) dX8_advance_75 rfl ?_
      refine R.iadd dX8_advance_76 ?_
      refine R.putI dX8_advance_77 fl_X8_38 (fun q hq => by cases hq; exact Or.inl rfl) (by decide) rfl rfl rfl ?_
      refine p80 _ (tS b n e + 1) (h1.uE (nI_succ _).symm (kp_0 c61)) (Fr.sI hF inT_F) (fun z => ?_) (fun z => ?_) (fun z2 z3 => ?_)
      · unfold tE; rw [if_neg c61, if_pos (Or.inl z)]
      · unfold tE; rw [if_neg c61, if_pos (Or.inr z)]
      · unfold tE; rw [if_neg c61, if_neg (fun z => z.elim z2 z3)]
    · -- the end
      refine R.aload_n dX8_advance_64 rfl (by first | rfl | exact rfv_rf _) ?_
      refine R.getI dX8_advance_65 fl_X8_41 (by decide) rfl ?_
      rw [h1.hs]
      refine R.goto (tgt := 77) dX8_advance_68 (by decide) ?_
      refine R.putI dX8_advance_77 fl_X8_38 (fun q hq => by cases hq; exact Or.inl rfl) (by decide) rfl rfl rfl ?_
      have hE : tE b n e = tS b n e := by unfold tE; rw [if_pos c61]
      refine p80 _ (tS b n e) (h1.uE rfl (tS_le hen)) (Fr.sI hF inT_F) (fun z => absurd (z.symm.trans c61) (by decide)) (fun z => absurd (z.symm.trans c61) (by decide)) (fun _ _ => hE)
  have p44 : ∀ (M1 : Mem), Tx M1 b n (tS b n e, e, k, c, q) → Fr inT M M1 → WP mX8_advance (d + 1) 44 [.ref (rf 7 0), UN, UN] [] M1 Q := by
    intro M1 h1 hF
    refine R.aload_n dX8_advance_44 rfl (by first | rfl | exact rfv_rf _) ?_
    refine R.aload_n dX8_advance_45 rfl (by first | rfl | exact rfv_rf _) ?_
    refine R.aload_n dX8_advance_46 rfl (by first | rfl | exact rfv_rf _) ?_
    refine R.getI dX8_advance_47 fl_X8_41 (by decide) rfl ?_
    rw [h1.hs]
    refine cl_X8_44 rfl rfl (by first | exact Nat.le_of_ble_eq_true rfl | simp [rf_cat, Value.category]) dX8_advance_50 ?_
    refine s_tKind h1 (tS_le hen) ?_
    refine R.putI dX8_advance_53 fl_X8_48 (fun q hq => by cases hq; exact Or.inl rfl) (by decide) rfl rfl rfl ?_
    exact p56 _ (h1.uK rfl) (Fr.sI hF inT_F)
  have key1 : ∀ (f i : Nat) (M1 : Mem), Tx M1 b n (i, e, k, c, q) → Fr inT M M1 → i ≤ n → n < i + f → tS b n e = runF (kp b n) 1 f i → WP mX8_advance (d + 1) 8 [.ref (rf 7 0), UN, UN] [] M1 Q := by
    intro f
    induction f with
    | zero =>
      intro i M1 h1 hF hin hf hS
      omega
    | succ f key1 =>
      intro i M1 h1 hF hin0 hf hS
      refine R.aload_n dX8_advance_8 rfl (by first | rfl | exact rfv_rf _) ?_
      refine R.getI dX8_advance_9 fl_X8_41 (by decide) rfl ?_
      rw [h1.hs]
      refine R.aload_n dX8_advance_12 rfl (by first | rfl | exact rfv_rf _) ?_
      refine R.getI dX8_advance_13 fl_X8_22 (by decide) rfl ?_
      rw [h1.hl]
      refine R.icmp_ge (tgt := 44) dX8_advance_16 (by decide) (fun c16 => ?_) (fun c16 => ?_)
      · have n16 := i_nl2 c16
        refine p44 _ ?_ hF
        rw [hS, runF, if_neg (fun z => absurd c16 (nI_ge (kp_0 (by rw [z]; decide)) (by omega)))]
        exact h1
      · have n16 := i_lt c16
        refine R.aload_n dX8_advance_19 rfl (by first | rfl | exact rfv_rf _) ?_
        refine R.aload_n dX8_advance_20 rfl (by first | rfl | exact rfv_rf _) ?_
        refine R.getI dX8_advance_21 fl_X8_41 (by decide) rfl ?_
        rw [h1.hs]
        refine cl_X8_44 rfl rfl (by first | exact Nat.le_of_ble_eq_true rfl | simp [rf_cat, Value.category]) dX8_advance_24 ?_
        refine s_tKind h1 hin0 ?_
        refine R.iconst (v := 1) dX8_advance_27 rfl ?_
        refine R.icmp_ne (tgt := 44) dX8_advance_28 (by decide) (fun c28 => ?_) (fun c28 => ?_)
        · refine p44 _ ?_ hF
          rw [hS, runF, if_neg (fun z => c28 z)]
          exact h1
        · refine R.aload_n dX8_advance_31 rfl (by first | rfl | exact rfv_rf _) ?_
          refine R.dup dX8_advance_32 (by first | rfl | exact rf_cat _) ?_
          refine R.getI dX8_advance_33 fl_X8_41 (by decide) rfl ?_
          rw [h1.hs]
          refine R.iconst (v := 1) dX8_advance_36 rfl ?_
          refine R.iadd dX8_advance_37 ?_
          refine R.putI dX8_advance_38 fl_X8_41 (fun q hq => by cases hq; exact Or.inl rfl) (by decide) rfl rfl rfl ?_
          refine R.goto (tgt := 8) dX8_advance_41 (by decide) ?_
          have hi9 := hin0
          have hin : i < n := Decidable.byContradiction (fun z => absurd (nI_le (by omega) (by omega)) c16)
          exact key1 (i + 1) _ (h1.uS (nI_succ _).symm hin) (Fr.sI hF inT_F) hin (by omega) (by rw [hS, runF, if_pos c28])
  refine R.aload_n dX8_advance_0 rfl (by first | rfl | exact rfv_rf _) ?_
  refine R.aload_n dX8_advance_1 rfl (by first | rfl | exact rfv_rf _) ?_
  refine R.getI dX8_advance_2 fl_X8_38 (by decide) rfl ?_
  rw [h.he]
  refine R.putI dX8_advance_5 fl_X8_41 (fun q hq => by cases hq; exact Or.inl rfl) (by decide) rfl rfl rfl ?_
  exact key1 601 e _ (h.uS rfl hen) (Fr.sI (Fr.rf _ _) inT_F) hen (by omega) rfl
