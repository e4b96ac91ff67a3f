/-! the law's helpers: what the class answers, or which exception left it -/
def OU9 (M : Mem) (r : Rr) (o : Out) (M' : Mem) : Prop := match r with
  | .inl E => o = .inr E ∧ M' = ax M
  | .inr (v, S', p') => o = .inl (some (.int v)) ∧ CSt M' S' p' ∧ FrK M M'
theorem QR9.ou {M : Mem} {r : Rr} : QR9 (OU9 M r) M r := by
  cases r with
  | inl E => exact ⟨rfl, rfl⟩
  | inr t => obtain ⟨v, S', p'⟩ := t; exact fun M' h1 h2 => ⟨rfl, h1, h2⟩
def anR (S : KS) (p : Nat) (a : An) : Rr := match a with
  | .inl v => .inr (v, S, p)
  | .inr E => .inl E
theorem QA.ou {M : Mem} {S : KS} {p : Nat} {a : An} (h : CSt M S p) : QA (OU9 M (anR S p a)) M M a := by
  cases a with
  | inl v => exact ⟨rfl, h, FrK.rf⟩
  | inr E => exact ⟨rfl, rfl⟩
def QHr (Q : Out → Mem → Prop) (M : Mem) (cd : String → Int32) (r : Rr) : Prop := match r with
  | .inl E => Q (.inl (some (.int (cd E)))) (ax M)
  | .inr (v, S', p') => ∀ M', CSt M' S' p' → FrK M M' → Mono M M' → Q (.inl (some (.int 0))) (sL M' 15 0 0 v.toInt64)
theorem lk_13 : Cond.classLink RL 13 eI ∈ gtbl := gt_i 1063 (by decide +kernel) rfl
theorem lk_50 : Cond.classLink RL 50 eN ∈ gtbl := gt_i 1229 (by decide +kernel) rfl
theorem lk_65 : Cond.classLink RL 65 eS ∈ gtbl := gt_i 1280 (by decide +kernel) rfl
theorem lk_70 : Cond.classLink RL 70 eA ∈ gtbl := gt_i 1314 (by decide +kernel) rfl
set_option maxHeartbeats 1000000 in
set_option maxRecDepth 4000 in
theorem h_crateNameByte {d : Nat} {r : Rr} {M : Mem} {Q : Out → Mem → Prop} {x z : Int32} (hx : WPc (d + 20) mX12_crateNameByte [.ref (rf 10 0), .int x, .int z] M (OU9 M r)) (hN : mN M 15 0 = 1) (hE : ∀ E, r = .inl E → E = eI) (hq : QHr Q M cdA r) : WPc (d + 21) mL_crateNameByte [.ref (rf 10 0), .int x, .int z, .ref (rf 15 0)] M Q := by
  refine WPc.of (by decide +kernel) (Nat.le_of_ble_eq_true rfl) rfl ?_
  refine R.aload_n dL_crateNameByte_0 rfl (by first | rfl | exact rfv_rf _) ?_
  refine R.iconst (v := 0) dL_crateNameByte_1 rfl ?_
  refine R.aload_n dL_crateNameByte_2 rfl (by first | rfl | exact rfv_rf _) ?_
  refine R.iload_n dL_crateNameByte_3 rfl ?_
  refine R.iload_n dL_crateNameByte_4 rfl ?_
  refine WP.callX (CallK.V (args := [.int x, .int z]) (rest := [.int 0, .ref (rf 15 0)]) kX12_crateNameByte (gt_i 1064 (by decide +kernel) rfl) inX12_crateNameByte seX12_crateNameByte (rcv_own (k := 10) rfl) rfl (by first | exact Nat.le_of_ble_eq_true rfl | simp [rf_cat, Value.category]) dL_crateNameByte_5) (hokV _ _ _) ?_
  refine WPc.mono hx (fun o9 M1 hm ho => ?_)
  cases r with
  | inl E =>
    obtain ⟨rfl, rfl⟩ := ho
    rcases hE E rfl with rfl
    · have hq : Q (.inl (some (.int (cdA eI)))) (ax M) := hq
      rw [show cdA eI = 1 by decide] at hq
      refine ⟨[], (0, 10, 13, 13), [], 4, 2, rfl, (fun z9 hz => by cases hz), by decide, by decide, lk_13, List.mem_of_getElem? (i := 0) rfl, List.mem_of_getElem? (i := 0) rfl, (Or.inr ⟨rfl, dL_crateNameByte_13⟩), ⟨Nat.le_of_ble_eq_true rfl, by decide, rfl⟩, ?_⟩
      refine R.iconst (v := 1) dL_crateNameByte_15 rfl ?_
      refine WP.ret (ov := some (.int _)) dL_crateNameByte_16 ⟨rfl, _, rfl, by first | rfl | assumption | exact nar_b01 (by assumption)⟩ ?_
      exact hq
  | inr t9 =>
    obtain ⟨v, S', p'⟩ := t9
    obtain ⟨rfl, h1, h2⟩ := ho
    have hN1 : mN M1 15 0 = 1 := by rw [(h2.1 15 0 (Or.inr (Or.inr (Or.inl rfl)))).2.2.2.2]; exact hN
    refine R.i2l dL_crateNameByte_8 ?_
    refine R.last (i := 0) dL_crateNameByte_9 (by decide) (by rw [hN1]; decide) ?_
    refine R.goto (tgt := 17) dL_crateNameByte_10 (by decide) ?_
    refine R.iconst (v := 0) dL_crateNameByte_17 rfl ?_
    refine WP.ret (ov := some (.int _)) dL_crateNameByte_18 ⟨rfl, _, rfl, by first | rfl | assumption | exact nar_b01 (by assumption)⟩ ?_
    exact hq _ h1 h2 hm
set_option maxHeartbeats 1000000 in
set_option maxRecDepth 4000 in
theorem h_buyerNameByte {d : Nat} {r : Rr} {M : Mem} {Q : Out → Mem → Prop} {x z : Int32} (hx : WPc (d + 20) mX12_buyerNameByte [.ref (rf 10 0), .int x, .int z] M (OU9 M r)) (hN : mN M 15 0 = 1) (hE : ∀ E, r = .inl E → E = eI) (hq : QHr Q M cdA r) : WPc (d + 21) mL_buyerNameByte [.ref (rf 10 0), .int x, .int z, .ref (rf 15 0)] M Q := by
  refine WPc.of (by decide +kernel) (Nat.le_of_ble_eq_true rfl) rfl ?_
  refine R.aload_n dL_buyerNameByte_0 rfl (by first | rfl | exact rfv_rf _) ?_
  refine R.iconst (v := 0) dL_buyerNameByte_1 rfl ?_
  refine R.aload_n dL_buyerNameByte_2 rfl (by first | rfl | exact rfv_rf _) ?_
  refine R.iload_n dL_buyerNameByte_3 rfl ?_
  refine R.iload_n dL_buyerNameByte_4 rfl ?_
  refine WP.callX (CallK.V (args := [.int x, .int z]) (rest := [.int 0, .ref (rf 15 0)]) kX12_buyerNameByte (gt_i 1149 (by decide +kernel) rfl) inX12_buyerNameByte seX12_buyerNameByte (rcv_own (k := 10) rfl) rfl (by first | exact Nat.le_of_ble_eq_true rfl | simp [rf_cat, Value.category]) dL_buyerNameByte_5) (hokV _ _ _) ?_
  refine WPc.mono hx (fun o9 M1 hm ho => ?_)
  cases r with
  | inl E =>
    obtain ⟨rfl, rfl⟩ := ho
    rcases hE E rfl with rfl
    · have hq : Q (.inl (some (.int (cdA eI)))) (ax M) := hq
      rw [show cdA eI = 1 by decide] at hq
      refine ⟨[], (0, 10, 13, 13), [], 4, 2, rfl, (fun z9 hz => by cases hz), by decide, by decide, lk_13, List.mem_of_getElem? (i := 0) rfl, List.mem_of_getElem? (i := 0) rfl, (Or.inr ⟨rfl, dL_buyerNameByte_13⟩), ⟨Nat.le_of_ble_eq_true rfl, by decide, rfl⟩, ?_⟩
      refine R.iconst (v := 1) dL_buyerNameByte_15 rfl ?_
      refine WP.ret (ov := some (.int _)) dL_buyerNameByte_16 ⟨rfl, _, rfl, by first | rfl | assumption | exact nar_b01 (by assumption)⟩ ?_
      exact hq
  | inr t9 =>
    obtain ⟨v, S', p'⟩ := t9
    obtain ⟨rfl, h1, h2⟩ := ho
    have hN1 : mN M1 15 0 = 1 := by rw [(h2.1 15 0 (Or.inr (Or.inr (Or.inl rfl)))).2.2.2.2]; exact hN
    refine R.i2l dL_buyerNameByte_8 ?_
    refine R.last (i := 0) dL_buyerNameByte_9 (by decide) (by rw [hN1]; decide) ?_
    refine R.goto (tgt := 17) dL_buyerNameByte_10 (by decide) ?_
    refine R.iconst (v := 0) dL_buyerNameByte_17 rfl ?_
    refine WP.ret (ov := some (.int _)) dL_buyerNameByte_18 ⟨rfl, _, rfl, by first | rfl | assumption | exact nar_b01 (by assumption)⟩ ?_
    exact hq _ h1 h2 hm
set_option maxHeartbeats 1000000 in
set_option maxRecDepth 4000 in
theorem h_tareOf {d : Nat} {r : Rr} {M : Mem} {Q : Out → Mem → Prop} {x : Int32} (hx : WPc (d + 20) mX12_tareOf [.ref (rf 10 0), .int x] M (OU9 M r)) (hN : mN M 15 0 = 1) (hE : ∀ E, r = .inl E → E = eI) (hq : QHr Q M cdA r) : WPc (d + 21) mL_tareOf [.ref (rf 10 0), .int x, .ref (rf 15 0)] M Q := by
  refine WPc.of (by decide +kernel) (Nat.le_of_ble_eq_true rfl) rfl ?_
  refine R.aload_n dL_tareOf_0 rfl (by first | rfl | exact rfv_rf _) ?_
  refine R.iconst (v := 0) dL_tareOf_1 rfl ?_
  refine R.aload_n dL_tareOf_2 rfl (by first | rfl | exact rfv_rf _) ?_
  refine R.iload_n dL_tareOf_3 rfl ?_
  refine WP.callX (CallK.V (args := [.int x]) (rest := [.int 0, .ref (rf 15 0)]) kX12_tareOf (gt_i 1162 (by decide +kernel) rfl) inX12_tareOf seX12_tareOf (rcv_own (k := 10) rfl) rfl (by first | exact Nat.le_of_ble_eq_true rfl | simp [rf_cat, Value.category]) dL_tareOf_4) (hokV _ _ _) ?_
  refine WPc.mono hx (fun o9 M1 hm ho => ?_)
  cases r with
  | inl E =>
    obtain ⟨rfl, rfl⟩ := ho
    rcases hE E rfl with rfl
    · have hq : Q (.inl (some (.int (cdA eI)))) (ax M) := hq
      rw [show cdA eI = 1 by decide] at hq
      refine ⟨[], (0, 9, 12, 13), [], 3, 1, rfl, (fun z9 hz => by cases hz), by decide, by decide, lk_13, List.mem_of_getElem? (i := 0) rfl, List.mem_of_getElem? (i := 0) rfl, (Or.inl ⟨3, rfl, rfl, dL_tareOf_12⟩), ⟨Nat.le_of_ble_eq_true rfl, by decide, rfl⟩, ?_⟩
      refine R.iconst (v := 1) dL_tareOf_13 rfl ?_
      refine WP.ret (ov := some (.int _)) dL_tareOf_14 ⟨rfl, _, rfl, by first | rfl | assumption | exact nar_b01 (by assumption)⟩ ?_
      exact hq
  | inr t9 =>
    obtain ⟨v, S', p'⟩ := t9
    obtain ⟨rfl, h1, h2⟩ := ho
    have hN1 : mN M1 15 0 = 1 := by rw [(h2.1 15 0 (Or.inr (Or.inr (Or.inl rfl)))).2.2.2.2]; exact hN
    refine R.i2l dL_tareOf_7 ?_
    refine R.last (i := 0) dL_tareOf_8 (by decide) (by rw [hN1]; decide) ?_
    refine R.goto (tgt := 15) dL_tareOf_9 (by decide) ?_
    refine R.iconst (v := 0) dL_tareOf_15 rfl ?_
    refine WP.ret (ov := some (.int _)) dL_tareOf_16 ⟨rfl, _, rfl, by first | rfl | assumption | exact nar_b01 (by assumption)⟩ ?_
    exact hq _ h1 h2 hm
set_option maxHeartbeats 1000000 in
set_option maxRecDepth 4000 in
theorem h_goodsOf {d : Nat} {r : Rr} {M : Mem} {Q : Out → Mem → Prop} {x : Int32} (hx : WPc (d + 20) mX12_goodsOf [.ref (rf 10 0), .int x] M (OU9 M r)) (hN : mN M 15 0 = 1) (hE : ∀ E, r = .inl E → E = eI) (hq : QHr Q M cdA r) : WPc (d + 21) mL_goodsOf [.ref (rf 10 0), .int x, .ref (rf 15 0)] M Q := by
  refine WPc.of (by decide +kernel) (Nat.le_of_ble_eq_true rfl) rfl ?_
  refine R.aload_n dL_goodsOf_0 rfl (by first | rfl | exact rfv_rf _) ?_
  refine R.iconst (v := 0) dL_goodsOf_1 rfl ?_
  refine R.aload_n dL_goodsOf_2 rfl (by first | rfl | exact rfv_rf _) ?_
  refine R.iload_n dL_goodsOf_3 rfl ?_
  refine WP.callX (CallK.V (args := [.int x]) (rest := [.int 0, .ref (rf 15 0)]) kX12_goodsOf (gt_i 1169 (by decide +kernel) rfl) inX12_goodsOf seX12_goodsOf (rcv_own (k := 10) rfl) rfl (by first | exact Nat.le_of_ble_eq_true rfl | simp [rf_cat, Value.category]) dL_goodsOf_4) (hokV _ _ _) ?_
  refine WPc.mono hx (fun o9 M1 hm ho => ?_)
  cases r with
  | inl E =>
    obtain ⟨rfl, rfl⟩ := ho
    rcases hE E rfl with rfl
    · have hq : Q (.inl (some (.int (cdA eI)))) (ax M) := hq
      rw [show cdA eI = 1 by decide] at hq
      refine ⟨[], (0, 9, 12, 13), [], 3, 1, rfl, (fun z9 hz => by cases hz), by decide, by decide, lk_13, List.mem_of_getElem? (i := 0) rfl, List.mem_of_getElem? (i := 0) rfl, (Or.inl ⟨3, rfl, rfl, dL_goodsOf_12⟩), ⟨Nat.le_of_ble_eq_true rfl, by decide, rfl⟩, ?_⟩
      refine R.iconst (v := 1) dL_goodsOf_13 rfl ?_
      refine WP.ret (ov := some (.int _)) dL_goodsOf_14 ⟨rfl, _, rfl, by first | rfl | assumption | exact nar_b01 (by assumption)⟩ ?_
      exact hq
  | inr t9 =>
    obtain ⟨v, S', p'⟩ := t9
    obtain ⟨rfl, h1, h2⟩ := ho
    have hN1 : mN M1 15 0 = 1 := by rw [(h2.1 15 0 (Or.inr (Or.inr (Or.inl rfl)))).2.2.2.2]; exact hN
    refine R.i2l dL_goodsOf_7 ?_
    refine R.last (i := 0) dL_goodsOf_8 (by decide) (by rw [hN1]; decide) ?_
    refine R.goto (tgt := 15) dL_goodsOf_9 (by decide) ?_
    refine R.iconst (v := 0) dL_goodsOf_15 rfl ?_
    refine WP.ret (ov := some (.int _)) dL_goodsOf_16 ⟨rfl, _, rfl, by first | rfl | assumption | exact nar_b01 (by assumption)⟩ ?_
    exact hq _ h1 h2 hm
set_option maxHeartbeats 1000000 in
set_option maxRecDepth 4000 in
theorem h_grossOf {d : Nat} {r : Rr} {M : Mem} {Q : Out → Mem → Prop} {x : Int32} (hx : WPc (d + 20) mX12_grossOf [.ref (rf 10 0), .int x] M (OU9 M r)) (hN : mN M 15 0 = 1) (hE : ∀ E, r = .inl E → E = eI) (hq : QHr Q M cdA r) : WPc (d + 21) mL_grossOf [.ref (rf 10 0), .int x, .ref (rf 15 0)] M Q := by
  refine WPc.of (by decide +kernel) (Nat.le_of_ble_eq_true rfl) rfl ?_
  refine R.aload_n dL_grossOf_0 rfl (by first | rfl | exact rfv_rf _) ?_
  refine R.iconst (v := 0) dL_grossOf_1 rfl ?_
  refine R.aload_n dL_grossOf_2 rfl (by first | rfl | exact rfv_rf _) ?_
  refine R.iload_n dL_grossOf_3 rfl ?_
  refine WP.callX (CallK.V (args := [.int x]) (rest := [.int 0, .ref (rf 15 0)]) kX12_grossOf (gt_i 1176 (by decide +kernel) rfl) inX12_grossOf seX12_grossOf (rcv_own (k := 10) rfl) rfl (by first | exact Nat.le_of_ble_eq_true rfl | simp [rf_cat, Value.category]) dL_grossOf_4) (hokV _ _ _) ?_
  refine WPc.mono hx (fun o9 M1 hm ho => ?_)
  cases r with
  | inl E =>
    obtain ⟨rfl, rfl⟩ := ho
    rcases hE E rfl with rfl
    · have hq : Q (.inl (some (.int (cdA eI)))) (ax M) := hq
      rw [show cdA eI = 1 by decide] at hq
      refine ⟨[], (0, 9, 12, 13), [], 3, 1, rfl, (fun z9 hz => by cases hz), by decide, by decide, lk_13, List.mem_of_getElem? (i := 0) rfl, List.mem_of_getElem? (i := 0) rfl, (Or.inl ⟨3, rfl, rfl, dL_grossOf_12⟩), ⟨Nat.le_of_ble_eq_true rfl, by decide, rfl⟩, ?_⟩
      refine R.iconst (v := 1) dL_grossOf_13 rfl ?_
      refine WP.ret (ov := some (.int _)) dL_grossOf_14 ⟨rfl, _, rfl, by first | rfl | assumption | exact nar_b01 (by assumption)⟩ ?_
      exact hq
  | inr t9 =>
    obtain ⟨v, S', p'⟩ := t9
    obtain ⟨rfl, h1, h2⟩ := ho
    have hN1 : mN M1 15 0 = 1 := by rw [(h2.1 15 0 (Or.inr (Or.inr (Or.inl rfl)))).2.2.2.2]; exact hN
    refine R.i2l dL_grossOf_7 ?_
    refine R.last (i := 0) dL_grossOf_8 (by decide) (by rw [hN1]; decide) ?_
    refine R.goto (tgt := 15) dL_grossOf_9 (by decide) ?_
    refine R.iconst (v := 0) dL_grossOf_15 rfl ?_
    refine WP.ret (ov := some (.int _)) dL_grossOf_16 ⟨rfl, _, rfl, by first | rfl | assumption | exact nar_b01 (by assumption)⟩ ?_
    exact hq _ h1 h2 hm
set_option maxHeartbeats 1000000 in
set_option maxRecDepth 4000 in
theorem h_parentOf {d : Nat} {r : Rr} {M : Mem} {Q : Out → Mem → Prop} {x : Int32} (hx : WPc (d + 20) mX12_parentOf [.ref (rf 10 0), .int x] M (OU9 M r)) (hN : mN M 15 0 = 1) (hE : ∀ E, r = .inl E → E = eI) (hq : QHr Q M cdA r) : WPc (d + 21) mL_parentOf [.ref (rf 10 0), .int x, .ref (rf 15 0)] M Q := by
  refine WPc.of (by decide +kernel) (Nat.le_of_ble_eq_true rfl) rfl ?_
  refine R.aload_n dL_parentOf_0 rfl (by first | rfl | exact rfv_rf _) ?_
  refine R.iconst (v := 0) dL_parentOf_1 rfl ?_
  refine R.aload_n dL_parentOf_2 rfl (by first | rfl | exact rfv_rf _) ?_
  refine R.iload_n dL_parentOf_3 rfl ?_
  refine WP.callX (CallK.V (args := [.int x]) (rest := [.int 0, .ref (rf 15 0)]) kX12_parentOf (gt_i 1183 (by decide +kernel) rfl) inX12_parentOf seX12_parentOf (rcv_own (k := 10) rfl) rfl (by first | exact Nat.le_of_ble_eq_true rfl | simp [rf_cat, Value.category]) dL_parentOf_4) (hokV _ _ _) ?_
  refine WPc.mono hx (fun o9 M1 hm ho => ?_)
  cases r with
  | inl E =>
    obtain ⟨rfl, rfl⟩ := ho
    rcases hE E rfl with rfl
    · have hq : Q (.inl (some (.int (cdA eI)))) (ax M) := hq
      rw [show cdA eI = 1 by decide] at hq
      refine ⟨[], (0, 9, 12, 13), [], 3, 1, rfl, (fun z9 hz => by cases hz), by decide, by decide, lk_13, List.mem_of_getElem? (i := 0) rfl, List.mem_of_getElem? (i := 0) rfl, (Or.inl ⟨3, rfl, rfl, dL_parentOf_12⟩), ⟨Nat.le_of_ble_eq_true rfl, by decide, rfl⟩, ?_⟩
      refine R.iconst (v := 1) dL_parentOf_13 rfl ?_
      refine WP.ret (ov := some (.int _)) dL_parentOf_14 ⟨rfl, _, rfl, by first | rfl | assumption | exact nar_b01 (by assumption)⟩ ?_
      exact hq
  | inr t9 =>
    obtain ⟨v, S', p'⟩ := t9
    obtain ⟨rfl, h1, h2⟩ := ho
    have hN1 : mN M1 15 0 = 1 := by rw [(h2.1 15 0 (Or.inr (Or.inr (Or.inl rfl)))).2.2.2.2]; exact hN
    refine R.i2l dL_parentOf_7 ?_
    refine R.last (i := 0) dL_parentOf_8 (by decide) (by rw [hN1]; decide) ?_
    refine R.goto (tgt := 15) dL_parentOf_9 (by decide) ?_
    refine R.iconst (v := 0) dL_parentOf_15 rfl ?_
    refine WP.ret (ov := some (.int _)) dL_parentOf_16 ⟨rfl, _, rfl, by first | rfl | assumption | exact nar_b01 (by assumption)⟩ ?_
    exact hq _ h1 h2 hm
set_option maxHeartbeats 1000000 in
set_option maxRecDepth 4000 in
theorem h_depthOf {d : Nat} {r : Rr} {M : Mem} {Q : Out → Mem → Prop} {x : Int32} (hx : WPc (d + 20) mX12_depthOf [.ref (rf 10 0), .int x] M (OU9 M r)) (hN : mN M 15 0 = 1) (hE : ∀ E, r = .inl E → E = eI) (hq : QHr Q M cdA r) : WPc (d + 21) mL_depthOf [.ref (rf 10 0), .int x, .ref (rf 15 0)] M Q := by
  refine WPc.of (by decide +kernel) (Nat.le_of_ble_eq_true rfl) rfl ?_
  refine R.aload_n dL_depthOf_0 rfl (by first | rfl | exact rfv_rf _) ?_
  refine R.iconst (v := 0) dL_depthOf_1 rfl ?_
  refine R.aload_n dL_depthOf_2 rfl (by first | rfl | exact rfv_rf _) ?_
  refine R.iload_n dL_depthOf_3 rfl ?_
  refine WP.callX (CallK.V (args := [.int x]) (rest := [.int 0, .ref (rf 15 0)]) kX12_depthOf (gt_i 1191 (by decide +kernel) rfl) inX12_depthOf seX12_depthOf (rcv_own (k := 10) rfl) rfl (by first | exact Nat.le_of_ble_eq_true rfl | simp [rf_cat, Value.category]) dL_depthOf_4) (hokV _ _ _) ?_
  refine WPc.mono hx (fun o9 M1 hm ho => ?_)
  cases r with
  | inl E =>
    obtain ⟨rfl, rfl⟩ := ho
    rcases hE E rfl with rfl
    · have hq : Q (.inl (some (.int (cdA eI)))) (ax M) := hq
      rw [show cdA eI = 1 by decide] at hq
      refine ⟨[], (0, 9, 12, 13), [], 3, 1, rfl, (fun z9 hz => by cases hz), by decide, by decide, lk_13, List.mem_of_getElem? (i := 0) rfl, List.mem_of_getElem? (i := 0) rfl, (Or.inl ⟨3, rfl, rfl, dL_depthOf_12⟩), ⟨Nat.le_of_ble_eq_true rfl, by decide, rfl⟩, ?_⟩
      refine R.iconst (v := 1) dL_depthOf_13 rfl ?_
      refine WP.ret (ov := some (.int _)) dL_depthOf_14 ⟨rfl, _, rfl, by first | rfl | assumption | exact nar_b01 (by assumption)⟩ ?_
      exact hq
  | inr t9 =>
    obtain ⟨v, S', p'⟩ := t9
    obtain ⟨rfl, h1, h2⟩ := ho
    have hN1 : mN M1 15 0 = 1 := by rw [(h2.1 15 0 (Or.inr (Or.inr (Or.inl rfl)))).2.2.2.2]; exact hN
    refine R.i2l dL_depthOf_7 ?_
    refine R.last (i := 0) dL_depthOf_8 (by decide) (by rw [hN1]; decide) ?_
    refine R.goto (tgt := 15) dL_depthOf_9 (by decide) ?_
    refine R.iconst (v := 0) dL_depthOf_15 rfl ?_
    refine WP.ret (ov := some (.int _)) dL_depthOf_16 ⟨rfl, _, rfl, by first | rfl | assumption | exact nar_b01 (by assumption)⟩ ?_
    exact hq _ h1 h2 hm
set_option maxHeartbeats 1000000 in
set_option maxRecDepth 4000 in
theorem h_childCount {d : Nat} {r : Rr} {M : Mem} {Q : Out → Mem → Prop} {x : Int32} (hx : WPc (d + 20) mX12_childCount [.ref (rf 10 0), .int x] M (OU9 M r)) (hN : mN M 15 0 = 1) (hE : ∀ E, r = .inl E → E = eI) (hq : QHr Q M cdA r) : WPc (d + 21) mL_childCount [.ref (rf 10 0), .int x, .ref (rf 15 0)] M Q := by
  refine WPc.of (by decide +kernel) (Nat.le_of_ble_eq_true rfl) rfl ?_
  refine R.aload_n dL_childCount_0 rfl (by first | rfl | exact rfv_rf _) ?_
  refine R.iconst (v := 0) dL_childCount_1 rfl ?_
  refine R.aload_n dL_childCount_2 rfl (by first | rfl | exact rfv_rf _) ?_
  refine R.iload_n dL_childCount_3 rfl ?_
  refine WP.callX (CallK.V (args := [.int x]) (rest := [.int 0, .ref (rf 15 0)]) kX12_childCount (gt_i 1199 (by decide +kernel) rfl) inX12_childCount seX12_childCount (rcv_own (k := 10) rfl) rfl (by first | exact Nat.le_of_ble_eq_true rfl | simp [rf_cat, Value.category]) dL_childCount_4) (hokV _ _ _) ?_
  refine WPc.mono hx (fun o9 M1 hm ho => ?_)
  cases r with
  | inl E =>
    obtain ⟨rfl, rfl⟩ := ho
    rcases hE E rfl with rfl
    · have hq : Q (.inl (some (.int (cdA eI)))) (ax M) := hq
      rw [show cdA eI = 1 by decide] at hq
      refine ⟨[], (0, 9, 12, 13), [], 3, 1, rfl, (fun z9 hz => by cases hz), by decide, by decide, lk_13, List.mem_of_getElem? (i := 0) rfl, List.mem_of_getElem? (i := 0) rfl, (Or.inl ⟨3, rfl, rfl, dL_childCount_12⟩), ⟨Nat.le_of_ble_eq_true rfl, by decide, rfl⟩, ?_⟩
      refine R.iconst (v := 1) dL_childCount_13 rfl ?_
      refine WP.ret (ov := some (.int _)) dL_childCount_14 ⟨rfl, _, rfl, by first | rfl | assumption | exact nar_b01 (by assumption)⟩ ?_
      exact hq
  | inr t9 =>
    obtain ⟨v, S', p'⟩ := t9
    obtain ⟨rfl, h1, h2⟩ := ho
    have hN1 : mN M1 15 0 = 1 := by rw [(h2.1 15 0 (Or.inr (Or.inr (Or.inl rfl)))).2.2.2.2]; exact hN
    refine R.i2l dL_childCount_7 ?_
    refine R.last (i := 0) dL_childCount_8 (by decide) (by rw [hN1]; decide) ?_
    refine R.goto (tgt := 15) dL_childCount_9 (by decide) ?_
    refine R.iconst (v := 0) dL_childCount_15 rfl ?_
    refine WP.ret (ov := some (.int _)) dL_childCount_16 ⟨rfl, _, rfl, by first | rfl | assumption | exact nar_b01 (by assumption)⟩ ?_
    exact hq _ h1 h2 hm
set_option maxHeartbeats 1000000 in
set_option maxRecDepth 4000 in
theorem h_childOf {d : Nat} {r : Rr} {M : Mem} {Q : Out → Mem → Prop} {x z : Int32} (hx : WPc (d + 20) mX12_childOf [.ref (rf 10 0), .int x, .int z] M (OU9 M r)) (hN : mN M 15 0 = 1) (hE : ∀ E, r = .inl E → E = eI) (hq : QHr Q M cdA r) : WPc (d + 21) mL_childOf [.ref (rf 10 0), .int x, .int z, .ref (rf 15 0)] M Q := by
  refine WPc.of (by decide +kernel) (Nat.le_of_ble_eq_true rfl) rfl ?_
  refine R.aload_n dL_childOf_0 rfl (by first | rfl | exact rfv_rf _) ?_
  refine R.iconst (v := 0) dL_childOf_1 rfl ?_
  refine R.aload_n dL_childOf_2 rfl (by first | rfl | exact rfv_rf _) ?_
  refine R.iload_n dL_childOf_3 rfl ?_
  refine R.iload_n dL_childOf_4 rfl ?_
  refine WP.callX (CallK.V (args := [.int x, .int z]) (rest := [.int 0, .ref (rf 15 0)]) kX12_childOf (gt_i 1208 (by decide +kernel) rfl) inX12_childOf seX12_childOf (rcv_own (k := 10) rfl) rfl (by first | exact Nat.le_of_ble_eq_true rfl | simp [rf_cat, Value.category]) dL_childOf_5) (hokV _ _ _) ?_
  refine WPc.mono hx (fun o9 M1 hm ho => ?_)
  cases r with
  | inl E =>
    obtain ⟨rfl, rfl⟩ := ho
    rcases hE E rfl with rfl
    · have hq : Q (.inl (some (.int (cdA eI)))) (ax M) := hq
      rw [show cdA eI = 1 by decide] at hq
      refine ⟨[], (0, 10, 13, 13), [], 4, 2, rfl, (fun z9 hz => by cases hz), by decide, by decide, lk_13, List.mem_of_getElem? (i := 0) rfl, List.mem_of_getElem? (i := 0) rfl, (Or.inr ⟨rfl, dL_childOf_13⟩), ⟨Nat.le_of_ble_eq_true rfl, by decide, rfl⟩, ?_⟩
      refine R.iconst (v := 1) dL_childOf_15 rfl ?_
      refine WP.ret (ov := some (.int _)) dL_childOf_16 ⟨rfl, _, rfl, by first | rfl | assumption | exact nar_b01 (by assumption)⟩ ?_
      exact hq
  | inr t9 =>
    obtain ⟨v, S', p'⟩ := t9
    obtain ⟨rfl, h1, h2⟩ := ho
    have hN1 : mN M1 15 0 = 1 := by rw [(h2.1 15 0 (Or.inr (Or.inr (Or.inl rfl)))).2.2.2.2]; exact hN
    refine R.i2l dL_childOf_8 ?_
    refine R.last (i := 0) dL_childOf_9 (by decide) (by rw [hN1]; decide) ?_
    refine R.goto (tgt := 17) dL_childOf_10 (by decide) ?_
    refine R.iconst (v := 0) dL_childOf_17 rfl ?_
    refine WP.ret (ov := some (.int _)) dL_childOf_18 ⟨rfl, _, rfl, by first | rfl | assumption | exact nar_b01 (by assumption)⟩ ?_
    exact hq _ h1 h2 hm
set_option maxHeartbeats 1000000 in
set_option maxRecDepth 4000 in
theorem h_isInYard {d : Nat} {r : Rr} {M : Mem} {Q : Out → Mem → Prop} {x : Int32} (hx : WPc (d + 20) mX12_isInYard [.ref (rf 10 0), .int x] M (OU9 M r)) (hN : mN M 15 0 = 1) (hE : ∀ E, r = .inl E → E = eI) (hv : ∀ v S' p', r = .inr (v, S', p') → v = 0 ∨ v = 1) (hq : QHr Q M cdA r) : WPc (d + 21) mL_isInYard [.ref (rf 10 0), .int x, .ref (rf 15 0)] M Q := by
  refine WPc.of (by decide +kernel) (Nat.le_of_ble_eq_true rfl) rfl ?_
  refine R.aload_n dL_isInYard_0 rfl (by first | rfl | exact rfv_rf _) ?_
  refine R.iconst (v := 0) dL_isInYard_1 rfl ?_
  refine R.aload_n dL_isInYard_2 rfl (by first | rfl | exact rfv_rf _) ?_
  refine R.iload_n dL_isInYard_3 rfl ?_
  refine WP.callX (CallK.V (args := [.int x]) (rest := [.int 0, .ref (rf 15 0)]) kX12_isInYard (gt_i 1215 (by decide +kernel) rfl) inX12_isInYard seX12_isInYard (rcv_own (k := 10) rfl) rfl (by first | exact Nat.le_of_ble_eq_true rfl | simp [rf_cat, Value.category]) dL_isInYard_4) (hokV _ _ _) ?_
  refine WPc.mono hx (fun o9 M1 hm ho => ?_)
  cases r with
  | inl E =>
    obtain ⟨rfl, rfl⟩ := ho
    rcases hE E rfl with rfl
    · have hq : Q (.inl (some (.int (cdA eI)))) (ax M) := hq
      rw [show cdA eI = 1 by decide] at hq
      refine ⟨[], (0, 16, 19, 13), [], 3, 1, rfl, (fun z9 hz => by cases hz), by decide, by decide, lk_13, List.mem_of_getElem? (i := 0) rfl, List.mem_of_getElem? (i := 0) rfl, (Or.inl ⟨3, rfl, rfl, dL_isInYard_19⟩), ⟨Nat.le_of_ble_eq_true rfl, by decide, rfl⟩, ?_⟩
      refine R.iconst (v := 1) dL_isInYard_20 rfl ?_
      refine WP.ret (ov := some (.int _)) dL_isInYard_21 ⟨rfl, _, rfl, by first | rfl | assumption | exact nar_b01 (by assumption)⟩ ?_
      exact hq
  | inr t9 =>
    obtain ⟨v, S', p'⟩ := t9
    obtain ⟨rfl, h1, h2⟩ := ho
    have hN1 : mN M1 15 0 = 1 := by rw [(h2.1 15 0 (Or.inr (Or.inr (Or.inl rfl)))).2.2.2.2]; exact hN
    rcases hv v S' p' rfl with rfl | rfl
    · have k9 := hq _ h1 h2 hm
      refine R.if_eq (tgt := 14) dL_isInYard_7 (by decide) (fun _ => ?_) (fun c9 => absurd (rfl) c9)
      refine R.lconst (v := 0) dL_isInYard_14 rfl ?_
      refine R.last (i := 0) dL_isInYard_15 (by decide) (by rw [hN1]; decide) ?_
      refine R.goto (tgt := 22) dL_isInYard_16 (by decide) ?_
      refine R.iconst (v := 0) dL_isInYard_22 rfl ?_
      refine WP.ret (ov := some (.int _)) dL_isInYard_23 ⟨rfl, _, rfl, by first | rfl | assumption | exact nar_b01 (by assumption)⟩ ?_
      exact k9
    · have k9 := hq _ h1 h2 hm
      refine R.if_eq (tgt := 14) dL_isInYard_7 (by decide) (fun c9 => absurd c9 (by decide)) (fun _ => ?_)
      refine R.lconst (v := 1) dL_isInYard_10 rfl ?_
      refine R.goto (tgt := 15) dL_isInYard_11 (by decide) ?_
      refine R.last (i := 0) dL_isInYard_15 (by decide) (by rw [hN1]; decide) ?_
      refine R.goto (tgt := 22) dL_isInYard_16 (by decide) ?_
      refine R.iconst (v := 0) dL_isInYard_22 rfl ?_
      refine WP.ret (ov := some (.int _)) dL_isInYard_23 ⟨rfl, _, rfl, by first | rfl | assumption | exact nar_b01 (by assumption)⟩ ?_
      exact k9
set_option maxHeartbeats 1000000 in
set_option maxRecDepth 4000 in
theorem h_readingCount {d : Nat} {r : Rr} {M : Mem} {Q : Out → Mem → Prop} {x : Int32} (hx : WPc (d + 20) mX12_readingCount [.ref (rf 10 0), .int x] M (OU9 M r)) (hN : mN M 15 0 = 1) (hE : ∀ E, r = .inl E → E = eI) (hq : QHr Q M cdA r) : WPc (d + 21) mL_readingCount [.ref (rf 10 0), .int x, .ref (rf 15 0)] M Q := by
  refine WPc.of (by decide +kernel) (Nat.le_of_ble_eq_true rfl) rfl ?_
  refine R.aload_n dL_readingCount_0 rfl (by first | rfl | exact rfv_rf _) ?_
  refine R.iconst (v := 0) dL_readingCount_1 rfl ?_
  refine R.aload_n dL_readingCount_2 rfl (by first | rfl | exact rfv_rf _) ?_
  refine R.iload_n dL_readingCount_3 rfl ?_
  refine WP.callX (CallK.V (args := [.int x]) (rest := [.int 0, .ref (rf 15 0)]) kX12_readingCount (gt_i 1222 (by decide +kernel) rfl) inX12_readingCount seX12_readingCount (rcv_own (k := 10) rfl) rfl (by first | exact Nat.le_of_ble_eq_true rfl | simp [rf_cat, Value.category]) dL_readingCount_4) (hokV _ _ _) ?_
  refine WPc.mono hx (fun o9 M1 hm ho => ?_)
  cases r with
  | inl E =>
    obtain ⟨rfl, rfl⟩ := ho
    rcases hE E rfl with rfl
    · have hq : Q (.inl (some (.int (cdA eI)))) (ax M) := hq
      rw [show cdA eI = 1 by decide] at hq
      refine ⟨[], (0, 9, 12, 13), [], 3, 1, rfl, (fun z9 hz => by cases hz), by decide, by decide, lk_13, List.mem_of_getElem? (i := 0) rfl, List.mem_of_getElem? (i := 0) rfl, (Or.inl ⟨3, rfl, rfl, dL_readingCount_12⟩), ⟨Nat.le_of_ble_eq_true rfl, by decide, rfl⟩, ?_⟩
      refine R.iconst (v := 1) dL_readingCount_13 rfl ?_
      refine WP.ret (ov := some (.int _)) dL_readingCount_14 ⟨rfl, _, rfl, by first | rfl | assumption | exact nar_b01 (by assumption)⟩ ?_
      exact hq
  | inr t9 =>
    obtain ⟨v, S', p'⟩ := t9
    obtain ⟨rfl, h1, h2⟩ := ho
    have hN1 : mN M1 15 0 = 1 := by rw [(h2.1 15 0 (Or.inr (Or.inr (Or.inl rfl)))).2.2.2.2]; exact hN
    refine R.i2l dL_readingCount_7 ?_
    refine R.last (i := 0) dL_readingCount_8 (by decide) (by rw [hN1]; decide) ?_
    refine R.goto (tgt := 15) dL_readingCount_9 (by decide) ?_
    refine R.iconst (v := 0) dL_readingCount_15 rfl ?_
    refine WP.ret (ov := some (.int _)) dL_readingCount_16 ⟨rfl, _, rfl, by first | rfl | assumption | exact nar_b01 (by assumption)⟩ ?_
    exact hq _ h1 h2 hm
set_option maxHeartbeats 1000000 in
set_option maxRecDepth 4000 in
theorem h_lastReading {d : Nat} {r : Rr} {M : Mem} {Q : Out → Mem → Prop} {x : Int32} (hx : WPc (d + 20) mX12_lastReading [.ref (rf 10 0), .int x] M (OU9 M r)) (hN : mN M 15 0 = 1) (hE : ∀ E, r = .inl E → E = eI ∨ E = eN) (hq : QHr Q M cdB r) : WPc (d + 21) mL_lastReading [.ref (rf 10 0), .int x, .ref (rf 15 0)] M Q := by
  refine WPc.of (by decide +kernel) (Nat.le_of_ble_eq_true rfl) rfl ?_
  refine R.aload_n dL_lastReading_0 rfl (by first | rfl | exact rfv_rf _) ?_
  refine R.iconst (v := 0) dL_lastReading_1 rfl ?_
  refine R.aload_n dL_lastReading_2 rfl (by first | rfl | exact rfv_rf _) ?_
  refine R.iload_n dL_lastReading_3 rfl ?_
  refine WP.callX (CallK.V (args := [.int x]) (rest := [.int 0, .ref (rf 15 0)]) kX12_lastReading (gt_i 1230 (by decide +kernel) rfl) inX12_lastReading seX12_lastReading (rcv_own (k := 10) rfl) rfl (by first | exact Nat.le_of_ble_eq_true rfl | simp [rf_cat, Value.category]) dL_lastReading_4) (hokV _ _ _) ?_
  refine WPc.mono hx (fun o9 M1 hm ho => ?_)
  cases r with
  | inl E =>
    obtain ⟨rfl, rfl⟩ := ho
    rcases hE E rfl with rfl | rfl
    · have hq : Q (.inl (some (.int (cdB eI)))) (ax M) := hq
      rw [show cdB eI = 1 by decide] at hq
      refine ⟨[], (0, 9, 12, 13), [(0, 9, 15, 50)], 3, 1, rfl, (fun z9 hz => by cases hz), by decide, by decide, lk_13, List.mem_of_getElem? (i := 0) rfl, List.mem_of_getElem? (i := 0) rfl, (Or.inl ⟨3, rfl, rfl, dL_lastReading_12⟩), ⟨Nat.le_of_ble_eq_true rfl, by decide, rfl⟩, ?_⟩
      refine R.iconst (v := 1) dL_lastReading_13 rfl ?_
      refine WP.ret (ov := some (.int _)) dL_lastReading_14 ⟨rfl, _, rfl, by first | rfl | assumption | exact nar_b01 (by assumption)⟩ ?_
      exact hq
    · have hq : Q (.inl (some (.int (cdB eN)))) (ax M) := hq
      rw [show cdB eN = 2 by decide] at hq
      refine ⟨[(0, 9, 12, 13)], (0, 9, 15, 50), [], 3, 1, rfl, (fun z9 hz => by
        simp only [List.mem_cons, List.mem_nil_iff, or_false] at hz
        rcases hz with rfl
        · exact Or.inr ⟨by decide, eI, lk_13, List.mem_of_getElem? (i := 0) rfl, by decide⟩), by decide, by decide, lk_50, List.mem_of_getElem? (i := 3) rfl, List.mem_of_getElem? (i := 3) rfl, (Or.inl ⟨3, rfl, rfl, dL_lastReading_15⟩), ⟨Nat.le_of_ble_eq_true rfl, by decide, rfl⟩, ?_⟩
      refine R.iconst (v := 2) dL_lastReading_16 rfl ?_
      refine WP.ret (ov := some (.int _)) dL_lastReading_17 ⟨rfl, _, rfl, by first | rfl | assumption | exact nar_b01 (by assumption)⟩ ?_
      exact hq
  | inr t9 =>
    obtain ⟨v, S', p'⟩ := t9
    obtain ⟨rfl, h1, h2⟩ := ho
    have hN1 : mN M1 15 0 = 1 := by rw [(h2.1 15 0 (Or.inr (Or.inr (Or.inl rfl)))).2.2.2.2]; exact hN
    refine R.i2l dL_lastReading_7 ?_
    refine R.last (i := 0) dL_lastReading_8 (by decide) (by rw [hN1]; decide) ?_
    refine R.goto (tgt := 18) dL_lastReading_9 (by decide) ?_
    refine R.iconst (v := 0) dL_lastReading_18 rfl ?_
    refine WP.ret (ov := some (.int _)) dL_lastReading_19 ⟨rfl, _, rfl, by first | rfl | assumption | exact nar_b01 (by assumption)⟩ ?_
    exact hq _ h1 h2 hm
set_option maxHeartbeats 1000000 in
set_option maxRecDepth 4000 in
theorem h_meanReading {d : Nat} {r : Rr} {M : Mem} {Q : Out → Mem → Prop} {x : Int32} (hx : WPc (d + 20) mX12_meanReading [.ref (rf 10 0), .int x] M (OU9 M r)) (hN : mN M 15 0 = 1) (hE : ∀ E, r = .inl E → E = eI ∨ E = eN) (hq : QHr Q M cdB r) : WPc (d + 21) mL_meanReading [.ref (rf 10 0), .int x, .ref (rf 15 0)] M Q := by
  refine WPc.of (by decide +kernel) (Nat.le_of_ble_eq_true rfl) rfl ?_
  refine R.aload_n dL_meanReading_0 rfl (by first | rfl | exact rfv_rf _) ?_
  refine R.iconst (v := 0) dL_meanReading_1 rfl ?_
  refine R.aload_n dL_meanReading_2 rfl (by first | rfl | exact rfv_rf _) ?_
  refine R.iload_n dL_meanReading_3 rfl ?_
  refine WP.callX (CallK.V (args := [.int x]) (rest := [.int 0, .ref (rf 15 0)]) kX12_meanReading (gt_i 1257 (by decide +kernel) rfl) inX12_meanReading seX12_meanReading (rcv_own (k := 10) rfl) rfl (by first | exact Nat.le_of_ble_eq_true rfl | simp [rf_cat, Value.category]) dL_meanReading_4) (hokV _ _ _) ?_
  refine WPc.mono hx (fun o9 M1 hm ho => ?_)
  cases r with
  | inl E =>
    obtain ⟨rfl, rfl⟩ := ho
    rcases hE E rfl with rfl | rfl
    · have hq : Q (.inl (some (.int (cdB eI)))) (ax M) := hq
      rw [show cdB eI = 1 by decide] at hq
      refine ⟨[], (0, 9, 12, 13), [(0, 9, 15, 50)], 3, 1, rfl, (fun z9 hz => by cases hz), by decide, by decide, lk_13, List.mem_of_getElem? (i := 0) rfl, List.mem_of_getElem? (i := 0) rfl, (Or.inl ⟨3, rfl, rfl, dL_meanReading_12⟩), ⟨Nat.le_of_ble_eq_true rfl, by decide, rfl⟩, ?_⟩
      refine R.iconst (v := 1) dL_meanReading_13 rfl ?_
      refine WP.ret (ov := some (.int _)) dL_meanReading_14 ⟨rfl, _, rfl, by first | rfl | assumption | exact nar_b01 (by assumption)⟩ ?_
      exact hq
    · have hq : Q (.inl (some (.int (cdB eN)))) (ax M) := hq
      rw [show cdB eN = 2 by decide] at hq
      refine ⟨[(0, 9, 12, 13)], (0, 9, 15, 50), [], 3, 1, rfl, (fun z9 hz => by
        simp only [List.mem_cons, List.mem_nil_iff, or_false] at hz
        rcases hz with rfl
        · exact Or.inr ⟨by decide, eI, lk_13, List.mem_of_getElem? (i := 0) rfl, by decide⟩), by decide, by decide, lk_50, List.mem_of_getElem? (i := 3) rfl, List.mem_of_getElem? (i := 3) rfl, (Or.inl ⟨3, rfl, rfl, dL_meanReading_15⟩), ⟨Nat.le_of_ble_eq_true rfl, by decide, rfl⟩, ?_⟩
      refine R.iconst (v := 2) dL_meanReading_16 rfl ?_
      refine WP.ret (ov := some (.int _)) dL_meanReading_17 ⟨rfl, _, rfl, by first | rfl | assumption | exact nar_b01 (by assumption)⟩ ?_
      exact hq
  | inr t9 =>
    obtain ⟨v, S', p'⟩ := t9
    obtain ⟨rfl, h1, h2⟩ := ho
    have hN1 : mN M1 15 0 = 1 := by rw [(h2.1 15 0 (Or.inr (Or.inr (Or.inl rfl)))).2.2.2.2]; exact hN
    refine R.i2l dL_meanReading_7 ?_
    refine R.last (i := 0) dL_meanReading_8 (by decide) (by rw [hN1]; decide) ?_
    refine R.goto (tgt := 18) dL_meanReading_9 (by decide) ?_
    refine R.iconst (v := 0) dL_meanReading_18 rfl ?_
    refine WP.ret (ov := some (.int _)) dL_meanReading_19 ⟨rfl, _, rfl, by first | rfl | assumption | exact nar_b01 (by assumption)⟩ ?_
    exact hq _ h1 h2 hm
set_option maxHeartbeats 1000000 in
set_option maxRecDepth 4000 in
theorem h_meanError {d : Nat} {r : Rr} {M : Mem} {Q : Out → Mem → Prop} {x : Int32} (hx : WPc (d + 20) mX12_meanError [.ref (rf 10 0), .int x] M (OU9 M r)) (hN : mN M 15 0 = 1) (hE : ∀ E, r = .inl E → E = eI ∨ E = eN) (hq : QHr Q M cdB r) : WPc (d + 21) mL_meanError [.ref (rf 10 0), .int x, .ref (rf 15 0)] M Q := by
  refine WPc.of (by decide +kernel) (Nat.le_of_ble_eq_true rfl) rfl ?_
  refine R.aload_n dL_meanError_0 rfl (by first | rfl | exact rfv_rf _) ?_
  refine R.iconst (v := 0) dL_meanError_1 rfl ?_
  refine R.aload_n dL_meanError_2 rfl (by first | rfl | exact rfv_rf _) ?_
  refine R.iload_n dL_meanError_3 rfl ?_
  refine WP.callX (CallK.V (args := [.int x]) (rest := [.int 0, .ref (rf 15 0)]) kX12_meanError (gt_i 1265 (by decide +kernel) rfl) inX12_meanError seX12_meanError (rcv_own (k := 10) rfl) rfl (by first | exact Nat.le_of_ble_eq_true rfl | simp [rf_cat, Value.category]) dL_meanError_4) (hokV _ _ _) ?_
  refine WPc.mono hx (fun o9 M1 hm ho => ?_)
  cases r with
  | inl E =>
    obtain ⟨rfl, rfl⟩ := ho
    rcases hE E rfl with rfl | rfl
    · have hq : Q (.inl (some (.int (cdB eI)))) (ax M) := hq
      rw [show cdB eI = 1 by decide] at hq
      refine ⟨[], (0, 9, 12, 13), [(0, 9, 15, 50)], 3, 1, rfl, (fun z9 hz => by cases hz), by decide, by decide, lk_13, List.mem_of_getElem? (i := 0) rfl, List.mem_of_getElem? (i := 0) rfl, (Or.inl ⟨3, rfl, rfl, dL_meanError_12⟩), ⟨Nat.le_of_ble_eq_true rfl, by decide, rfl⟩, ?_⟩
      refine R.iconst (v := 1) dL_meanError_13 rfl ?_
      refine WP.ret (ov := some (.int _)) dL_meanError_14 ⟨rfl, _, rfl, by first | rfl | assumption | exact nar_b01 (by assumption)⟩ ?_
      exact hq
    · have hq : Q (.inl (some (.int (cdB eN)))) (ax M) := hq
      rw [show cdB eN = 2 by decide] at hq
      refine ⟨[(0, 9, 12, 13)], (0, 9, 15, 50), [], 3, 1, rfl, (fun z9 hz => by
        simp only [List.mem_cons, List.mem_nil_iff, or_false] at hz
        rcases hz with rfl
        · exact Or.inr ⟨by decide, eI, lk_13, List.mem_of_getElem? (i := 0) rfl, by decide⟩), by decide, by decide, lk_50, List.mem_of_getElem? (i := 3) rfl, List.mem_of_getElem? (i := 3) rfl, (Or.inl ⟨3, rfl, rfl, dL_meanError_15⟩), ⟨Nat.le_of_ble_eq_true rfl, by decide, rfl⟩, ?_⟩
      refine R.iconst (v := 2) dL_meanError_16 rfl ?_
      refine WP.ret (ov := some (.int _)) dL_meanError_17 ⟨rfl, _, rfl, by first | rfl | assumption | exact nar_b01 (by assumption)⟩ ?_
      exact hq
  | inr t9 =>
    obtain ⟨v, S', p'⟩ := t9
    obtain ⟨rfl, h1, h2⟩ := ho
    have hN1 : mN M1 15 0 = 1 := by rw [(h2.1 15 0 (Or.inr (Or.inr (Or.inl rfl)))).2.2.2.2]; exact hN
    refine R.i2l dL_meanError_7 ?_
    refine R.last (i := 0) dL_meanError_8 (by decide) (by rw [hN1]; decide) ?_
    refine R.goto (tgt := 18) dL_meanError_9 (by decide) ?_
    refine R.iconst (v := 0) dL_meanError_18 rfl ?_
    refine WP.ret (ov := some (.int _)) dL_meanError_19 ⟨rfl, _, rfl, by first | rfl | assumption | exact nar_b01 (by assumption)⟩ ?_
    exact hq _ h1 h2 hm
set_option maxHeartbeats 1000000 in
set_option maxRecDepth 4000 in
theorem h_predictReading {d : Nat} {r : Rr} {M : Mem} {Q : Out → Mem → Prop} {x : Int32} (hx : WPc (d + 20) mX12_predictReading [.ref (rf 10 0), .int x] M (OU9 M r)) (hN : mN M 15 0 = 1) (hE : ∀ E, r = .inl E → E = eI ∨ E = eS) (hq : QHr Q M cdB r) : WPc (d + 21) mL_predictReading [.ref (rf 10 0), .int x, .ref (rf 15 0)] M Q := by
  refine WPc.of (by decide +kernel) (Nat.le_of_ble_eq_true rfl) rfl ?_
  refine R.aload_n dL_predictReading_0 rfl (by first | rfl | exact rfv_rf _) ?_
  refine R.iconst (v := 0) dL_predictReading_1 rfl ?_
  refine R.aload_n dL_predictReading_2 rfl (by first | rfl | exact rfv_rf _) ?_
  refine R.iload_n dL_predictReading_3 rfl ?_
  refine WP.callX (CallK.V (args := [.int x]) (rest := [.int 0, .ref (rf 15 0)]) kX12_predictReading (gt_i 1281 (by decide +kernel) rfl) inX12_predictReading seX12_predictReading (rcv_own (k := 10) rfl) rfl (by first | exact Nat.le_of_ble_eq_true rfl | simp [rf_cat, Value.category]) dL_predictReading_4) (hokV _ _ _) ?_
  refine WPc.mono hx (fun o9 M1 hm ho => ?_)
  cases r with
  | inl E =>
    obtain ⟨rfl, rfl⟩ := ho
    rcases hE E rfl with rfl | rfl
    · have hq : Q (.inl (some (.int (cdB eI)))) (ax M) := hq
      rw [show cdB eI = 1 by decide] at hq
      refine ⟨[], (0, 9, 12, 13), [(0, 9, 15, 65)], 3, 1, rfl, (fun z9 hz => by cases hz), by decide, by decide, lk_13, List.mem_of_getElem? (i := 0) rfl, List.mem_of_getElem? (i := 0) rfl, (Or.inl ⟨3, rfl, rfl, dL_predictReading_12⟩), ⟨Nat.le_of_ble_eq_true rfl, by decide, rfl⟩, ?_⟩
      refine R.iconst (v := 1) dL_predictReading_13 rfl ?_
      refine WP.ret (ov := some (.int _)) dL_predictReading_14 ⟨rfl, _, rfl, by first | rfl | assumption | exact nar_b01 (by assumption)⟩ ?_
      exact hq
    · have hq : Q (.inl (some (.int (cdB eS)))) (ax M) := hq
      rw [show cdB eS = 2 by decide] at hq
      refine ⟨[(0, 9, 12, 13)], (0, 9, 15, 65), [], 3, 1, rfl, (fun z9 hz => by
        simp only [List.mem_cons, List.mem_nil_iff, or_false] at hz
        rcases hz with rfl
        · exact Or.inr ⟨by decide, eI, lk_13, List.mem_of_getElem? (i := 0) rfl, by decide⟩), by decide, by decide, lk_65, List.mem_of_getElem? (i := 2) rfl, List.mem_of_getElem? (i := 2) rfl, (Or.inl ⟨3, rfl, rfl, dL_predictReading_15⟩), ⟨Nat.le_of_ble_eq_true rfl, by decide, rfl⟩, ?_⟩
      refine R.iconst (v := 2) dL_predictReading_16 rfl ?_
      refine WP.ret (ov := some (.int _)) dL_predictReading_17 ⟨rfl, _, rfl, by first | rfl | assumption | exact nar_b01 (by assumption)⟩ ?_
      exact hq
  | inr t9 =>
    obtain ⟨v, S', p'⟩ := t9
    obtain ⟨rfl, h1, h2⟩ := ho
    have hN1 : mN M1 15 0 = 1 := by rw [(h2.1 15 0 (Or.inr (Or.inr (Or.inl rfl)))).2.2.2.2]; exact hN
    refine R.i2l dL_predictReading_7 ?_
    refine R.last (i := 0) dL_predictReading_8 (by decide) (by rw [hN1]; decide) ?_
    refine R.goto (tgt := 18) dL_predictReading_9 (by decide) ?_
    refine R.iconst (v := 0) dL_predictReading_18 rfl ?_
    refine WP.ret (ov := some (.int _)) dL_predictReading_19 ⟨rfl, _, rfl, by first | rfl | assumption | exact nar_b01 (by assumption)⟩ ?_
    exact hq _ h1 h2 hm
set_option maxHeartbeats 1000000 in
set_option maxRecDepth 4000 in
theorem h_predictMean {d : Nat} {r : Rr} {M : Mem} {Q : Out → Mem → Prop} {x z : Int32} (hx : WPc (d + 20) mX12_predictMean [.ref (rf 10 0), .int x, .int z] M (OU9 M r)) (hN : mN M 15 0 = 1) (hE : ∀ E, r = .inl E → E = eI ∨ E = eA ∨ E = eS) (hq : QHr Q M cdC r) : WPc (d + 21) mL_predictMean [.ref (rf 10 0), .int x, .int z, .ref (rf 15 0)] M Q := by
  refine WPc.of (by decide +kernel) (Nat.le_of_ble_eq_true rfl) rfl ?_
  refine R.aload_n dL_predictMean_0 rfl (by first | rfl | exact rfv_rf _) ?_
  refine R.iconst (v := 0) dL_predictMean_1 rfl ?_
  refine R.aload_n dL_predictMean_2 rfl (by first | rfl | exact rfv_rf _) ?_
  refine R.iload_n dL_predictMean_3 rfl ?_
  refine R.iload_n dL_predictMean_4 rfl ?_
  refine WP.callX (CallK.V (args := [.int x, .int z]) (rest := [.int 0, .ref (rf 15 0)]) kX12_predictMean (gt_i 1315 (by decide +kernel) rfl) inX12_predictMean seX12_predictMean (rcv_own (k := 10) rfl) rfl (by first | exact Nat.le_of_ble_eq_true rfl | simp [rf_cat, Value.category]) dL_predictMean_5) (hokV _ _ _) ?_
  refine WPc.mono hx (fun o9 M1 hm ho => ?_)
  cases r with
  | inl E =>
    obtain ⟨rfl, rfl⟩ := ho
    rcases hE E rfl with rfl | rfl | rfl
    · have hq : Q (.inl (some (.int (cdC eI)))) (ax M) := hq
      rw [show cdC eI = 1 by decide] at hq
      refine ⟨[], (0, 10, 13, 13), [(0, 10, 17, 70), (0, 10, 21, 65)], 4, 2, rfl, (fun z9 hz => by cases hz), by decide, by decide, lk_13, List.mem_of_getElem? (i := 0) rfl, List.mem_of_getElem? (i := 0) rfl, (Or.inr ⟨rfl, dL_predictMean_13⟩), ⟨Nat.le_of_ble_eq_true rfl, by decide, rfl⟩, ?_⟩
      refine R.iconst (v := 1) dL_predictMean_15 rfl ?_
      refine WP.ret (ov := some (.int _)) dL_predictMean_16 ⟨rfl, _, rfl, by first | rfl | assumption | exact nar_b01 (by assumption)⟩ ?_
      exact hq
    · have hq : Q (.inl (some (.int (cdC eA)))) (ax M) := hq
      rw [show cdC eA = 2 by decide] at hq
      refine ⟨[(0, 10, 13, 13)], (0, 10, 17, 70), [(0, 10, 21, 65)], 4, 2, rfl, (fun z9 hz => by
        simp only [List.mem_cons, List.mem_nil_iff, or_false] at hz
        rcases hz with rfl
        · exact Or.inr ⟨by decide, eI, lk_13, List.mem_of_getElem? (i := 0) rfl, by decide⟩), by decide, by decide, lk_70, List.mem_of_getElem? (i := 1) rfl, List.mem_of_getElem? (i := 1) rfl, (Or.inr ⟨rfl, dL_predictMean_17⟩), ⟨Nat.le_of_ble_eq_true rfl, by decide, rfl⟩, ?_⟩
      refine R.iconst (v := 2) dL_predictMean_19 rfl ?_
      refine WP.ret (ov := some (.int _)) dL_predictMean_20 ⟨rfl, _, rfl, by first | rfl | assumption | exact nar_b01 (by assumption)⟩ ?_
      exact hq
    · have hq : Q (.inl (some (.int (cdC eS)))) (ax M) := hq
      rw [show cdC eS = 3 by decide] at hq
      refine ⟨[(0, 10, 13, 13), (0, 10, 17, 70)], (0, 10, 21, 65), [], 4, 2, rfl, (fun z9 hz => by
        simp only [List.mem_cons, List.mem_nil_iff, or_false] at hz
        rcases hz with rfl | rfl
        · exact Or.inr ⟨by decide, eI, lk_13, List.mem_of_getElem? (i := 0) rfl, by decide⟩
        · exact Or.inr ⟨by decide, eA, lk_70, List.mem_of_getElem? (i := 1) rfl, by decide⟩), by decide, by decide, lk_65, List.mem_of_getElem? (i := 2) rfl, List.mem_of_getElem? (i := 2) rfl, (Or.inr ⟨rfl, dL_predictMean_21⟩), ⟨Nat.le_of_ble_eq_true rfl, by decide, rfl⟩, ?_⟩
      refine R.iconst (v := 3) dL_predictMean_23 rfl ?_
      refine WP.ret (ov := some (.int _)) dL_predictMean_24 ⟨rfl, _, rfl, by first | rfl | assumption | exact nar_b01 (by assumption)⟩ ?_
      exact hq
  | inr t9 =>
    obtain ⟨v, S', p'⟩ := t9
    obtain ⟨rfl, h1, h2⟩ := ho
    have hN1 : mN M1 15 0 = 1 := by rw [(h2.1 15 0 (Or.inr (Or.inr (Or.inl rfl)))).2.2.2.2]; exact hN
    refine R.i2l dL_predictMean_8 ?_
    refine R.last (i := 0) dL_predictMean_9 (by decide) (by rw [hN1]; decide) ?_
    refine R.goto (tgt := 25) dL_predictMean_10 (by decide) ?_
    refine R.iconst (v := 0) dL_predictMean_25 rfl ?_
    refine WP.ret (ov := some (.int _)) dL_predictMean_26 ⟨rfl, _, rfl, by first | rfl | assumption | exact nar_b01 (by assumption)⟩ ?_
    exact hq _ h1 h2 hm
set_option maxHeartbeats 1000000 in
set_option maxRecDepth 4000 in
theorem h_readingsUntilWithin {d : Nat} {r : Rr} {M : Mem} {Q : Out → Mem → Prop} {x z : Int32} (hx : WPc (d + 20) mX12_readingsUntilWithin [.ref (rf 10 0), .int x, .int z] M (OU9 M r)) (hN : mN M 15 0 = 1) (hE : ∀ E, r = .inl E → E = eI ∨ E = eA ∨ E = eS) (hq : QHr Q M cdC r) : WPc (d + 21) mL_readingsUntilWithin [.ref (rf 10 0), .int x, .int z, .ref (rf 15 0)] M Q := by
  refine WPc.of (by decide +kernel) (Nat.le_of_ble_eq_true rfl) rfl ?_
  refine R.aload_n dL_readingsUntilWithin_0 rfl (by first | rfl | exact rfv_rf _) ?_
  refine R.iconst (v := 0) dL_readingsUntilWithin_1 rfl ?_
  refine R.aload_n dL_readingsUntilWithin_2 rfl (by first | rfl | exact rfv_rf _) ?_
  refine R.iload_n dL_readingsUntilWithin_3 rfl ?_
  refine R.iload_n dL_readingsUntilWithin_4 rfl ?_
  refine WP.callX (CallK.V (args := [.int x, .int z]) (rest := [.int 0, .ref (rf 15 0)]) kX12_readingsUntilWithin (gt_i 1341 (by decide +kernel) rfl) inX12_readingsUntilWithin seX12_readingsUntilWithin (rcv_own (k := 10) rfl) rfl (by first | exact Nat.le_of_ble_eq_true rfl | simp [rf_cat, Value.category]) dL_readingsUntilWithin_5) (hokV _ _ _) ?_
  refine WPc.mono hx (fun o9 M1 hm ho => ?_)
  cases r with
  | inl E =>
    obtain ⟨rfl, rfl⟩ := ho
    rcases hE E rfl with rfl | rfl | rfl
    · have hq : Q (.inl (some (.int (cdC eI)))) (ax M) := hq
      rw [show cdC eI = 1 by decide] at hq
      refine ⟨[], (0, 10, 13, 13), [(0, 10, 17, 70), (0, 10, 21, 65)], 4, 2, rfl, (fun z9 hz => by cases hz), by decide, by decide, lk_13, List.mem_of_getElem? (i := 0) rfl, List.mem_of_getElem? (i := 0) rfl, (Or.inr ⟨rfl, dL_readingsUntilWithin_13⟩), ⟨Nat.le_of_ble_eq_true rfl, by decide, rfl⟩, ?_⟩
      refine R.iconst (v := 1) dL_readingsUntilWithin_15 rfl ?_
      refine WP.ret (ov := some (.int _)) dL_readingsUntilWithin_16 ⟨rfl, _, rfl, by first | rfl | assumption | exact nar_b01 (by assumption)⟩ ?_
      exact hq
    · have hq : Q (.inl (some (.int (cdC eA)))) (ax M) := hq
      rw [show cdC eA = 2 by decide] at hq
      refine ⟨[(0, 10, 13, 13)], (0, 10, 17, 70), [(0, 10, 21, 65)], 4, 2, rfl, (fun z9 hz => by
        simp only [List.mem_cons, List.mem_nil_iff, or_false] at hz
        rcases hz with rfl
        · exact Or.inr ⟨by decide, eI, lk_13, List.mem_of_getElem? (i := 0) rfl, by decide⟩), by decide, by decide, lk_70, List.mem_of_getElem? (i := 1) rfl, List.mem_of_getElem? (i := 1) rfl, (Or.inr ⟨rfl, dL_readingsUntilWithin_17⟩), ⟨Nat.le_of_ble_eq_true rfl, by decide, rfl⟩, ?_⟩
      refine R.iconst (v := 2) dL_readingsUntilWithin_19 rfl ?_
      refine WP.ret (ov := some (.int _)) dL_readingsUntilWithin_20 ⟨rfl, _, rfl, by first | rfl | assumption | exact nar_b01 (by assumption)⟩ ?_
      exact hq
    · have hq : Q (.inl (some (.int (cdC eS)))) (ax M) := hq
      rw [show cdC eS = 3 by decide] at hq
      refine ⟨[(0, 10, 13, 13), (0, 10, 17, 70)], (0, 10, 21, 65), [], 4, 2, rfl, (fun z9 hz => by
        simp only [List.mem_cons, List.mem_nil_iff, or_false] at hz
        rcases hz with rfl | rfl
        · exact Or.inr ⟨by decide, eI, lk_13, List.mem_of_getElem? (i := 0) rfl, by decide⟩
        · exact Or.inr ⟨by decide, eA, lk_70, List.mem_of_getElem? (i := 1) rfl, by decide⟩), by decide, by decide, lk_65, List.mem_of_getElem? (i := 2) rfl, List.mem_of_getElem? (i := 2) rfl, (Or.inr ⟨rfl, dL_readingsUntilWithin_21⟩), ⟨Nat.le_of_ble_eq_true rfl, by decide, rfl⟩, ?_⟩
      refine R.iconst (v := 3) dL_readingsUntilWithin_23 rfl ?_
      refine WP.ret (ov := some (.int _)) dL_readingsUntilWithin_24 ⟨rfl, _, rfl, by first | rfl | assumption | exact nar_b01 (by assumption)⟩ ?_
      exact hq
  | inr t9 =>
    obtain ⟨v, S', p'⟩ := t9
    obtain ⟨rfl, h1, h2⟩ := ho
    have hN1 : mN M1 15 0 = 1 := by rw [(h2.1 15 0 (Or.inr (Or.inr (Or.inl rfl)))).2.2.2.2]; exact hN
    refine R.i2l dL_readingsUntilWithin_8 ?_
    refine R.last (i := 0) dL_readingsUntilWithin_9 (by decide) (by rw [hN1]; decide) ?_
    refine R.goto (tgt := 25) dL_readingsUntilWithin_10 (by decide) ?_
    refine R.iconst (v := 0) dL_readingsUntilWithin_25 rfl ?_
    refine WP.ret (ov := some (.int _)) dL_readingsUntilWithin_26 ⟨rfl, _, rfl, by first | rfl | assumption | exact nar_b01 (by assumption)⟩ ?_
    exact hq _ h1 h2 hm
set_option maxHeartbeats 1000000 in
set_option maxRecDepth 4000 in
theorem h_worstErrorWithin {d : Nat} {r : Rr} {M : Mem} {Q : Out → Mem → Prop} {x z : Int32} (hx : WPc (d + 20) mX12_worstErrorWithin [.ref (rf 10 0), .int x, .int z] M (OU9 M r)) (hN : mN M 15 0 = 1) (hE : ∀ E, r = .inl E → E = eI ∨ E = eA ∨ E = eS) (hq : QHr Q M cdC r) : WPc (d + 21) mL_worstErrorWithin [.ref (rf 10 0), .int x, .int z, .ref (rf 15 0)] M Q := by
  refine WPc.of (by decide +kernel) (Nat.le_of_ble_eq_true rfl) rfl ?_
  refine R.aload_n dL_worstErrorWithin_0 rfl (by first | rfl | exact rfv_rf _) ?_
  refine R.iconst (v := 0) dL_worstErrorWithin_1 rfl ?_
  refine R.aload_n dL_worstErrorWithin_2 rfl (by first | rfl | exact rfv_rf _) ?_
  refine R.iload_n dL_worstErrorWithin_3 rfl ?_
  refine R.iload_n dL_worstErrorWithin_4 rfl ?_
  refine WP.callX (CallK.V (args := [.int x, .int z]) (rest := [.int 0, .ref (rf 15 0)]) kX12_worstErrorWithin (gt_i 1354 (by decide +kernel) rfl) inX12_worstErrorWithin seX12_worstErrorWithin (rcv_own (k := 10) rfl) rfl (by first | exact Nat.le_of_ble_eq_true rfl | simp [rf_cat, Value.category]) dL_worstErrorWithin_5) (hokV _ _ _) ?_
  refine WPc.mono hx (fun o9 M1 hm ho => ?_)
  cases r with
  | inl E =>
    obtain ⟨rfl, rfl⟩ := ho
    rcases hE E rfl with rfl | rfl | rfl
    · have hq : Q (.inl (some (.int (cdC eI)))) (ax M) := hq
      rw [show cdC eI = 1 by decide] at hq
      refine ⟨[], (0, 10, 13, 13), [(0, 10, 17, 70), (0, 10, 21, 65)], 4, 2, rfl, (fun z9 hz => by cases hz), by decide, by decide, lk_13, List.mem_of_getElem? (i := 0) rfl, List.mem_of_getElem? (i := 0) rfl, (Or.inr ⟨rfl, dL_worstErrorWithin_13⟩), ⟨Nat.le_of_ble_eq_true rfl, by decide, rfl⟩, ?_⟩
      refine R.iconst (v := 1) dL_worstErrorWithin_15 rfl ?_
      refine WP.ret (ov := some (.int _)) dL_worstErrorWithin_16 ⟨rfl, _, rfl, by first | rfl | assumption | exact nar_b01 (by assumption)⟩ ?_
      exact hq
    · have hq : Q (.inl (some (.int (cdC eA)))) (ax M) := hq
      rw [show cdC eA = 2 by decide] at hq
      refine ⟨[(0, 10, 13, 13)], (0, 10, 17, 70), [(0, 10, 21, 65)], 4, 2, rfl, (fun z9 hz => by
        simp only [List.mem_cons, List.mem_nil_iff, or_false] at hz
        rcases hz with rfl
        · exact Or.inr ⟨by decide, eI, lk_13, List.mem_of_getElem? (i := 0) rfl, by decide⟩), by decide, by decide, lk_70, List.mem_of_getElem? (i := 1) rfl, List.mem_of_getElem? (i := 1) rfl, (Or.inr ⟨rfl, dL_worstErrorWithin_17⟩), ⟨Nat.le_of_ble_eq_true rfl, by decide, rfl⟩, ?_⟩
      refine R.iconst (v := 2) dL_worstErrorWithin_19 rfl ?_
      refine WP.ret (ov := some (.int _)) dL_worstErrorWithin_20 ⟨rfl, _, rfl, by first | rfl | assumption | exact nar_b01 (by assumption)⟩ ?_
      exact hq
    · have hq : Q (.inl (some (.int (cdC eS)))) (ax M) := hq
      rw [show cdC eS = 3 by decide] at hq
      refine ⟨[(0, 10, 13, 13), (0, 10, 17, 70)], (0, 10, 21, 65), [], 4, 2, rfl, (fun z9 hz => by
        simp only [List.mem_cons, List.mem_nil_iff, or_false] at hz
        rcases hz with rfl | rfl
        · exact Or.inr ⟨by decide, eI, lk_13, List.mem_of_getElem? (i := 0) rfl, by decide⟩
        · exact Or.inr ⟨by decide, eA, lk_70, List.mem_of_getElem? (i := 1) rfl, by decide⟩), by decide, by decide, lk_65, List.mem_of_getElem? (i := 2) rfl, List.mem_of_getElem? (i := 2) rfl, (Or.inr ⟨rfl, dL_worstErrorWithin_21⟩), ⟨Nat.le_of_ble_eq_true rfl, by decide, rfl⟩, ?_⟩
      refine R.iconst (v := 3) dL_worstErrorWithin_23 rfl ?_
      refine WP.ret (ov := some (.int _)) dL_worstErrorWithin_24 ⟨rfl, _, rfl, by first | rfl | assumption | exact nar_b01 (by assumption)⟩ ?_
      exact hq
  | inr t9 =>
    obtain ⟨v, S', p'⟩ := t9
    obtain ⟨rfl, h1, h2⟩ := ho
    have hN1 : mN M1 15 0 = 1 := by rw [(h2.1 15 0 (Or.inr (Or.inr (Or.inl rfl)))).2.2.2.2]; exact hN
    refine R.i2l dL_worstErrorWithin_8 ?_
    refine R.last (i := 0) dL_worstErrorWithin_9 (by decide) (by rw [hN1]; decide) ?_
    refine R.goto (tgt := 25) dL_worstErrorWithin_10 (by decide) ?_
    refine R.iconst (v := 0) dL_worstErrorWithin_25 rfl ?_
    refine WP.ret (ov := some (.int _)) dL_worstErrorWithin_26 ⟨rfl, _, rfl, by first | rfl | assumption | exact nar_b01 (by assumption)⟩ ?_
    exact hq _ h1 h2 hm
set_option maxHeartbeats 1000000 in
set_option maxRecDepth 4000 in
theorem h_moneyOf {d : Nat} {r : Rr} {M : Mem} {Q : Out → Mem → Prop} {x : Int32} (hx : WPc (d + 20) mX12_moneyOf [.ref (rf 10 0), .int x] M (OU9 M r)) (hN : mN M 15 0 = 1) (hE : ∀ E, r = .inl E → E = eI) (hq : QHr Q M cdA r) : WPc (d + 21) mL_moneyOf [.ref (rf 10 0), .int x, .ref (rf 15 0)] M Q := by
  refine WPc.of (by decide +kernel) (Nat.le_of_ble_eq_true rfl) rfl ?_
  refine R.aload_n dL_moneyOf_0 rfl (by first | rfl | exact rfv_rf _) ?_
  refine R.iconst (v := 0) dL_moneyOf_1 rfl ?_
  refine R.aload_n dL_moneyOf_2 rfl (by first | rfl | exact rfv_rf _) ?_
  refine R.iload_n dL_moneyOf_3 rfl ?_
  refine WP.callX (CallK.V (args := [.int x]) (rest := [.int 0, .ref (rf 15 0)]) kX12_moneyOf (gt_i 1362 (by decide +kernel) rfl) inX12_moneyOf seX12_moneyOf (rcv_own (k := 10) rfl) rfl (by first | exact Nat.le_of_ble_eq_true rfl | simp [rf_cat, Value.category]) dL_moneyOf_4) (hokV _ _ _) ?_
  refine WPc.mono hx (fun o9 M1 hm ho => ?_)
  cases r with
  | inl E =>
    obtain ⟨rfl, rfl⟩ := ho
    rcases hE E rfl with rfl
    · have hq : Q (.inl (some (.int (cdA eI)))) (ax M) := hq
      rw [show cdA eI = 1 by decide] at hq
      refine ⟨[], (0, 9, 12, 13), [], 3, 1, rfl, (fun z9 hz => by cases hz), by decide, by decide, lk_13, List.mem_of_getElem? (i := 0) rfl, List.mem_of_getElem? (i := 0) rfl, (Or.inl ⟨3, rfl, rfl, dL_moneyOf_12⟩), ⟨Nat.le_of_ble_eq_true rfl, by decide, rfl⟩, ?_⟩
      refine R.iconst (v := 1) dL_moneyOf_13 rfl ?_
      refine WP.ret (ov := some (.int _)) dL_moneyOf_14 ⟨rfl, _, rfl, by first | rfl | assumption | exact nar_b01 (by assumption)⟩ ?_
      exact hq
  | inr t9 =>
    obtain ⟨v, S', p'⟩ := t9
    obtain ⟨rfl, h1, h2⟩ := ho
    have hN1 : mN M1 15 0 = 1 := by rw [(h2.1 15 0 (Or.inr (Or.inr (Or.inl rfl)))).2.2.2.2]; exact hN
    refine R.i2l dL_moneyOf_7 ?_
    refine R.last (i := 0) dL_moneyOf_8 (by decide) (by rw [hN1]; decide) ?_
    refine R.goto (tgt := 15) dL_moneyOf_9 (by decide) ?_
    refine R.iconst (v := 0) dL_moneyOf_15 rfl ?_
    refine WP.ret (ov := some (.int _)) dL_moneyOf_16 ⟨rfl, _, rfl, by first | rfl | assumption | exact nar_b01 (by assumption)⟩ ?_
    exact hq _ h1 h2 hm
set_option maxHeartbeats 1000000 in
set_option maxRecDepth 4000 in
theorem h_toleranceOf {d : Nat} {r : Rr} {M : Mem} {Q : Out → Mem → Prop} {x : Int32} (hx : WPc (d + 20) mX12_toleranceOf [.ref (rf 10 0), .int x] M (OU9 M r)) (hN : mN M 15 0 = 1) (hE : ∀ E, r = .inl E → E = eI) (hq : QHr Q M cdA r) : WPc (d + 21) mL_toleranceOf [.ref (rf 10 0), .int x, .ref (rf 15 0)] M Q := by
  refine WPc.of (by decide +kernel) (Nat.le_of_ble_eq_true rfl) rfl ?_
  refine R.aload_n dL_toleranceOf_0 rfl (by first | rfl | exact rfv_rf _) ?_
  refine R.iconst (v := 0) dL_toleranceOf_1 rfl ?_
  refine R.aload_n dL_toleranceOf_2 rfl (by first | rfl | exact rfv_rf _) ?_
  refine R.iload_n dL_toleranceOf_3 rfl ?_
  refine WP.callX (CallK.V (args := [.int x]) (rest := [.int 0, .ref (rf 15 0)]) kX12_toleranceOf (gt_i 1369 (by decide +kernel) rfl) inX12_toleranceOf seX12_toleranceOf (rcv_own (k := 10) rfl) rfl (by first | exact Nat.le_of_ble_eq_true rfl | simp [rf_cat, Value.category]) dL_toleranceOf_4) (hokV _ _ _) ?_
  refine WPc.mono hx (fun o9 M1 hm ho => ?_)
  cases r with
  | inl E =>
    obtain ⟨rfl, rfl⟩ := ho
    rcases hE E rfl with rfl
    · have hq : Q (.inl (some (.int (cdA eI)))) (ax M) := hq
      rw [show cdA eI = 1 by decide] at hq
      refine ⟨[], (0, 9, 12, 13), [], 3, 1, rfl, (fun z9 hz => by cases hz), by decide, by decide, lk_13, List.mem_of_getElem? (i := 0) rfl, List.mem_of_getElem? (i := 0) rfl, (Or.inl ⟨3, rfl, rfl, dL_toleranceOf_12⟩), ⟨Nat.le_of_ble_eq_true rfl, by decide, rfl⟩, ?_⟩
      refine R.iconst (v := 1) dL_toleranceOf_13 rfl ?_
      refine WP.ret (ov := some (.int _)) dL_toleranceOf_14 ⟨rfl, _, rfl, by first | rfl | assumption | exact nar_b01 (by assumption)⟩ ?_
      exact hq
  | inr t9 =>
    obtain ⟨v, S', p'⟩ := t9
    obtain ⟨rfl, h1, h2⟩ := ho
    have hN1 : mN M1 15 0 = 1 := by rw [(h2.1 15 0 (Or.inr (Or.inr (Or.inl rfl)))).2.2.2.2]; exact hN
    refine R.i2l dL_toleranceOf_7 ?_
    refine R.last (i := 0) dL_toleranceOf_8 (by decide) (by rw [hN1]; decide) ?_
    refine R.goto (tgt := 15) dL_toleranceOf_9 (by decide) ?_
    refine R.iconst (v := 0) dL_toleranceOf_15 rfl ?_
    refine WP.ret (ov := some (.int _)) dL_toleranceOf_16 ⟨rfl, _, rfl, by first | rfl | assumption | exact nar_b01 (by assumption)⟩ ?_
    exact hq _ h1 h2 hm
set_option maxHeartbeats 1000000 in
set_option maxRecDepth 4000 in
theorem h_trustOf {d : Nat} {r : Rr} {M : Mem} {Q : Out → Mem → Prop} {x : Int32} (hx : WPc (d + 20) mX12_trustOf [.ref (rf 10 0), .int x] M (OU9 M r)) (hN : mN M 15 0 = 1) (hE : ∀ E, r = .inl E → E = eI) (hq : QHr Q M cdA r) : WPc (d + 21) mL_trustOf [.ref (rf 10 0), .int x, .ref (rf 15 0)] M Q := by
  refine WPc.of (by decide +kernel) (Nat.le_of_ble_eq_true rfl) rfl ?_
  refine R.aload_n dL_trustOf_0 rfl (by first | rfl | exact rfv_rf _) ?_
  refine R.iconst (v := 0) dL_trustOf_1 rfl ?_
  refine R.aload_n dL_trustOf_2 rfl (by first | rfl | exact rfv_rf _) ?_
  refine R.iload_n dL_trustOf_3 rfl ?_
  refine WP.callX (CallK.V (args := [.int x]) (rest := [.int 0, .ref (rf 15 0)]) kX12_trustOf (gt_i 1376 (by decide +kernel) rfl) inX12_trustOf seX12_trustOf (rcv_own (k := 10) rfl) rfl (by first | exact Nat.le_of_ble_eq_true rfl | simp [rf_cat, Value.category]) dL_trustOf_4) (hokV _ _ _) ?_
  refine WPc.mono hx (fun o9 M1 hm ho => ?_)
  cases r with
  | inl E =>
    obtain ⟨rfl, rfl⟩ := ho
    rcases hE E rfl with rfl
    · have hq : Q (.inl (some (.int (cdA eI)))) (ax M) := hq
      rw [show cdA eI = 1 by decide] at hq
      refine ⟨[], (0, 9, 12, 13), [], 3, 1, rfl, (fun z9 hz => by cases hz), by decide, by decide, lk_13, List.mem_of_getElem? (i := 0) rfl, List.mem_of_getElem? (i := 0) rfl, (Or.inl ⟨3, rfl, rfl, dL_trustOf_12⟩), ⟨Nat.le_of_ble_eq_true rfl, by decide, rfl⟩, ?_⟩
      refine R.iconst (v := 1) dL_trustOf_13 rfl ?_
      refine WP.ret (ov := some (.int _)) dL_trustOf_14 ⟨rfl, _, rfl, by first | rfl | assumption | exact nar_b01 (by assumption)⟩ ?_
      exact hq
  | inr t9 =>
    obtain ⟨v, S', p'⟩ := t9
    obtain ⟨rfl, h1, h2⟩ := ho
    have hN1 : mN M1 15 0 = 1 := by rw [(h2.1 15 0 (Or.inr (Or.inr (Or.inl rfl)))).2.2.2.2]; exact hN
    refine R.i2l dL_trustOf_7 ?_
    refine R.last (i := 0) dL_trustOf_8 (by decide) (by rw [hN1]; decide) ?_
    refine R.goto (tgt := 15) dL_trustOf_9 (by decide) ?_
    refine R.iconst (v := 0) dL_trustOf_15 rfl ?_
    refine WP.ret (ov := some (.int _)) dL_trustOf_16 ⟨rfl, _, rfl, by first | rfl | assumption | exact nar_b01 (by assumption)⟩ ?_
    exact hq _ h1 h2 hm
set_option maxHeartbeats 1000000 in
set_option maxRecDepth 4000 in
theorem h_purchasesOf {d : Nat} {r : Rr} {M : Mem} {Q : Out → Mem → Prop} {x : Int32} (hx : WPc (d + 20) mX12_purchasesOf [.ref (rf 10 0), .int x] M (OU9 M r)) (hN : mN M 15 0 = 1) (hE : ∀ E, r = .inl E → E = eI) (hq : QHr Q M cdA r) : WPc (d + 21) mL_purchasesOf [.ref (rf 10 0), .int x, .ref (rf 15 0)] M Q := by
  refine WPc.of (by decide +kernel) (Nat.le_of_ble_eq_true rfl) rfl ?_
  refine R.aload_n dL_purchasesOf_0 rfl (by first | rfl | exact rfv_rf _) ?_
  refine R.iconst (v := 0) dL_purchasesOf_1 rfl ?_
  refine R.aload_n dL_purchasesOf_2 rfl (by first | rfl | exact rfv_rf _) ?_
  refine R.iload_n dL_purchasesOf_3 rfl ?_
  refine WP.callX (CallK.V (args := [.int x]) (rest := [.int 0, .ref (rf 15 0)]) kX12_purchasesOf (gt_i 1383 (by decide +kernel) rfl) inX12_purchasesOf seX12_purchasesOf (rcv_own (k := 10) rfl) rfl (by first | exact Nat.le_of_ble_eq_true rfl | simp [rf_cat, Value.category]) dL_purchasesOf_4) (hokV _ _ _) ?_
  refine WPc.mono hx (fun o9 M1 hm ho => ?_)
  cases r with
  | inl E =>
    obtain ⟨rfl, rfl⟩ := ho
    rcases hE E rfl with rfl
    · have hq : Q (.inl (some (.int (cdA eI)))) (ax M) := hq
      rw [show cdA eI = 1 by decide] at hq
      refine ⟨[], (0, 9, 12, 13), [], 3, 1, rfl, (fun z9 hz => by cases hz), by decide, by decide, lk_13, List.mem_of_getElem? (i := 0) rfl, List.mem_of_getElem? (i := 0) rfl, (Or.inl ⟨3, rfl, rfl, dL_purchasesOf_12⟩), ⟨Nat.le_of_ble_eq_true rfl, by decide, rfl⟩, ?_⟩
      refine R.iconst (v := 1) dL_purchasesOf_13 rfl ?_
      refine WP.ret (ov := some (.int _)) dL_purchasesOf_14 ⟨rfl, _, rfl, by first | rfl | assumption | exact nar_b01 (by assumption)⟩ ?_
      exact hq
  | inr t9 =>
    obtain ⟨v, S', p'⟩ := t9
    obtain ⟨rfl, h1, h2⟩ := ho
    have hN1 : mN M1 15 0 = 1 := by rw [(h2.1 15 0 (Or.inr (Or.inr (Or.inl rfl)))).2.2.2.2]; exact hN
    refine R.i2l dL_purchasesOf_7 ?_
    refine R.last (i := 0) dL_purchasesOf_8 (by decide) (by rw [hN1]; decide) ?_
    refine R.goto (tgt := 15) dL_purchasesOf_9 (by decide) ?_
    refine R.iconst (v := 0) dL_purchasesOf_15 rfl ?_
    refine WP.ret (ov := some (.int _)) dL_purchasesOf_16 ⟨rfl, _, rfl, by first | rfl | assumption | exact nar_b01 (by assumption)⟩ ?_
    exact hq _ h1 h2 hm
set_option maxHeartbeats 1000000 in
set_option maxRecDepth 4000 in
theorem h_refusalReason {d : Nat} {r : Rr} {M : Mem} {Q : Out → Mem → Prop} {x z : Int32} (hx : WPc (d + 20) mX12_refusalReason [.ref (rf 10 0), .int x, .int z] M (OU9 M r)) (hN : mN M 15 0 = 1) (hE : ∀ E, r = .inl E → E = eI) (hq : QHr Q M cdA r) : WPc (d + 21) mL_refusalReason [.ref (rf 10 0), .int x, .int z, .ref (rf 15 0)] M Q := by
  refine WPc.of (by decide +kernel) (Nat.le_of_ble_eq_true rfl) rfl ?_
  refine R.aload_n dL_refusalReason_0 rfl (by first | rfl | exact rfv_rf _) ?_
  refine R.iconst (v := 0) dL_refusalReason_1 rfl ?_
  refine R.aload_n dL_refusalReason_2 rfl (by first | rfl | exact rfv_rf _) ?_
  refine R.iload_n dL_refusalReason_3 rfl ?_
  refine R.iload_n dL_refusalReason_4 rfl ?_
  refine WP.callX (CallK.V (args := [.int x, .int z]) (rest := [.int 0, .ref (rf 15 0)]) kX12_refusalReason (gt_i 1390 (by decide +kernel) rfl) inX12_refusalReason seX12_refusalReason (rcv_own (k := 10) rfl) rfl (by first | exact Nat.le_of_ble_eq_true rfl | simp [rf_cat, Value.category]) dL_refusalReason_5) (hokV _ _ _) ?_
  refine WPc.mono hx (fun o9 M1 hm ho => ?_)
  cases r with
  | inl E =>
    obtain ⟨rfl, rfl⟩ := ho
    rcases hE E rfl with rfl
    · have hq : Q (.inl (some (.int (cdA eI)))) (ax M) := hq
      rw [show cdA eI = 1 by decide] at hq
      refine ⟨[], (0, 10, 13, 13), [], 4, 2, rfl, (fun z9 hz => by cases hz), by decide, by decide, lk_13, List.mem_of_getElem? (i := 0) rfl, List.mem_of_getElem? (i := 0) rfl, (Or.inr ⟨rfl, dL_refusalReason_13⟩), ⟨Nat.le_of_ble_eq_true rfl, by decide, rfl⟩, ?_⟩
      refine R.iconst (v := 1) dL_refusalReason_15 rfl ?_
      refine WP.ret (ov := some (.int _)) dL_refusalReason_16 ⟨rfl, _, rfl, by first | rfl | assumption | exact nar_b01 (by assumption)⟩ ?_
      exact hq
  | inr t9 =>
    obtain ⟨v, S', p'⟩ := t9
    obtain ⟨rfl, h1, h2⟩ := ho
    have hN1 : mN M1 15 0 = 1 := by rw [(h2.1 15 0 (Or.inr (Or.inr (Or.inl rfl)))).2.2.2.2]; exact hN
    refine R.i2l dL_refusalReason_8 ?_
    refine R.last (i := 0) dL_refusalReason_9 (by decide) (by rw [hN1]; decide) ?_
    refine R.goto (tgt := 17) dL_refusalReason_10 (by decide) ?_
    refine R.iconst (v := 0) dL_refusalReason_17 rfl ?_
    refine WP.ret (ov := some (.int _)) dL_refusalReason_18 ⟨rfl, _, rfl, by first | rfl | assumption | exact nar_b01 (by assumption)⟩ ?_
    exact hq _ h1 h2 hm
set_option maxHeartbeats 1000000 in
set_option maxRecDepth 4000 in
theorem h_refusalDetail {d : Nat} {r : Rr} {M : Mem} {Q : Out → Mem → Prop} {x z : Int32} (hx : WPc (d + 20) mX12_refusalDetail [.ref (rf 10 0), .int x, .int z] M (OU9 M r)) (hN : mN M 15 0 = 1) (hE : ∀ E, r = .inl E → E = eI) (hq : QHr Q M cdA r) : WPc (d + 21) mL_refusalDetail [.ref (rf 10 0), .int x, .int z, .ref (rf 15 0)] M Q := by
  refine WPc.of (by decide +kernel) (Nat.le_of_ble_eq_true rfl) rfl ?_
  refine R.aload_n dL_refusalDetail_0 rfl (by first | rfl | exact rfv_rf _) ?_
  refine R.iconst (v := 0) dL_refusalDetail_1 rfl ?_
  refine R.aload_n dL_refusalDetail_2 rfl (by first | rfl | exact rfv_rf _) ?_
  refine R.iload_n dL_refusalDetail_3 rfl ?_
  refine R.iload_n dL_refusalDetail_4 rfl ?_
  refine WP.callX (CallK.V (args := [.int x, .int z]) (rest := [.int 0, .ref (rf 15 0)]) kX12_refusalDetail (gt_i 1398 (by decide +kernel) rfl) inX12_refusalDetail seX12_refusalDetail (rcv_own (k := 10) rfl) rfl (by first | exact Nat.le_of_ble_eq_true rfl | simp [rf_cat, Value.category]) dL_refusalDetail_5) (hokV _ _ _) ?_
  refine WPc.mono hx (fun o9 M1 hm ho => ?_)
  cases r with
  | inl E =>
    obtain ⟨rfl, rfl⟩ := ho
    rcases hE E rfl with rfl
    · have hq : Q (.inl (some (.int (cdA eI)))) (ax M) := hq
      rw [show cdA eI = 1 by decide] at hq
      refine ⟨[], (0, 10, 13, 13), [], 4, 2, rfl, (fun z9 hz => by cases hz), by decide, by decide, lk_13, List.mem_of_getElem? (i := 0) rfl, List.mem_of_getElem? (i := 0) rfl, (Or.inr ⟨rfl, dL_refusalDetail_13⟩), ⟨Nat.le_of_ble_eq_true rfl, by decide, rfl⟩, ?_⟩
      refine R.iconst (v := 1) dL_refusalDetail_15 rfl ?_
      refine WP.ret (ov := some (.int _)) dL_refusalDetail_16 ⟨rfl, _, rfl, by first | rfl | assumption | exact nar_b01 (by assumption)⟩ ?_
      exact hq
  | inr t9 =>
    obtain ⟨v, S', p'⟩ := t9
    obtain ⟨rfl, h1, h2⟩ := ho
    have hN1 : mN M1 15 0 = 1 := by rw [(h2.1 15 0 (Or.inr (Or.inr (Or.inl rfl)))).2.2.2.2]; exact hN
    refine R.i2l dL_refusalDetail_8 ?_
    refine R.last (i := 0) dL_refusalDetail_9 (by decide) (by rw [hN1]; decide) ?_
    refine R.goto (tgt := 17) dL_refusalDetail_10 (by decide) ?_
    refine R.iconst (v := 0) dL_refusalDetail_17 rfl ?_
    refine WP.ret (ov := some (.int _)) dL_refusalDetail_18 ⟨rfl, _, rfl, by first | rfl | assumption | exact nar_b01 (by assumption)⟩ ?_
    exact hq _ h1 h2 hm
set_option maxHeartbeats 1000000 in
set_option maxRecDepth 4000 in
theorem h_bestBuyer {d : Nat} {r : Rr} {M : Mem} {Q : Out → Mem → Prop} {x : Int32} (hx : WPc (d + 20) mX12_bestBuyer [.ref (rf 10 0), .int x] M (OU9 M r)) (hN : mN M 15 0 = 1) (hE : ∀ E, r = .inl E → E = eI) (hq : QHr Q M cdA r) : WPc (d + 21) mL_bestBuyer [.ref (rf 10 0), .int x, .ref (rf 15 0)] M Q := by
  refine WPc.of (by decide +kernel) (Nat.le_of_ble_eq_true rfl) rfl ?_
  refine R.aload_n dL_bestBuyer_0 rfl (by first | rfl | exact rfv_rf _) ?_
  refine R.iconst (v := 0) dL_bestBuyer_1 rfl ?_
  refine R.aload_n dL_bestBuyer_2 rfl (by first | rfl | exact rfv_rf _) ?_
  refine R.iload_n dL_bestBuyer_3 rfl ?_
  refine WP.callX (CallK.V (args := [.int x]) (rest := [.int 0, .ref (rf 15 0)]) kX12_bestBuyer (gt_i 1410 (by decide +kernel) rfl) inX12_bestBuyer seX12_bestBuyer (rcv_own (k := 10) rfl) rfl (by first | exact Nat.le_of_ble_eq_true rfl | simp [rf_cat, Value.category]) dL_bestBuyer_4) (hokV _ _ _) ?_
  refine WPc.mono hx (fun o9 M1 hm ho => ?_)
  cases r with
  | inl E =>
    obtain ⟨rfl, rfl⟩ := ho
    rcases hE E rfl with rfl
    · have hq : Q (.inl (some (.int (cdA eI)))) (ax M) := hq
      rw [show cdA eI = 1 by decide] at hq
      refine ⟨[], (0, 9, 12, 13), [], 3, 1, rfl, (fun z9 hz => by cases hz), by decide, by decide, lk_13, List.mem_of_getElem? (i := 0) rfl, List.mem_of_getElem? (i := 0) rfl, (Or.inl ⟨3, rfl, rfl, dL_bestBuyer_12⟩), ⟨Nat.le_of_ble_eq_true rfl, by decide, rfl⟩, ?_⟩
      refine R.iconst (v := 1) dL_bestBuyer_13 rfl ?_
      refine WP.ret (ov := some (.int _)) dL_bestBuyer_14 ⟨rfl, _, rfl, by first | rfl | assumption | exact nar_b01 (by assumption)⟩ ?_
      exact hq
  | inr t9 =>
    obtain ⟨v, S', p'⟩ := t9
    obtain ⟨rfl, h1, h2⟩ := ho
    have hN1 : mN M1 15 0 = 1 := by rw [(h2.1 15 0 (Or.inr (Or.inr (Or.inl rfl)))).2.2.2.2]; exact hN
    refine R.i2l dL_bestBuyer_7 ?_
    refine R.last (i := 0) dL_bestBuyer_8 (by decide) (by rw [hN1]; decide) ?_
    refine R.goto (tgt := 15) dL_bestBuyer_9 (by decide) ?_
    refine R.iconst (v := 0) dL_bestBuyer_15 rfl ?_
    refine WP.ret (ov := some (.int _)) dL_bestBuyer_16 ⟨rfl, _, rfl, by first | rfl | assumption | exact nar_b01 (by assumption)⟩ ?_
    exact hq _ h1 h2 hm
set_option maxHeartbeats 1000000 in
set_option maxRecDepth 4000 in
theorem h_trustAfterSale {d : Nat} {r : Rr} {M : Mem} {Q : Out → Mem → Prop} {x z : Int32} (hx : WPc (d + 20) mX12_trustAfterSale [.ref (rf 10 0), .int x, .int z] M (OU9 M r)) (hN : mN M 15 0 = 1) (hE : ∀ E, r = .inl E → E = eI ∨ E = eS) (hq : QHr Q M cdB r) : WPc (d + 21) mL_trustAfterSale [.ref (rf 10 0), .int x, .int z, .ref (rf 15 0)] M Q := by
  refine WPc.of (by decide +kernel) (Nat.le_of_ble_eq_true rfl) rfl ?_
  refine R.aload_n dL_trustAfterSale_0 rfl (by first | rfl | exact rfv_rf _) ?_
  refine R.iconst (v := 0) dL_trustAfterSale_1 rfl ?_
  refine R.aload_n dL_trustAfterSale_2 rfl (by first | rfl | exact rfv_rf _) ?_
  refine R.iload_n dL_trustAfterSale_3 rfl ?_
  refine R.iload_n dL_trustAfterSale_4 rfl ?_
  refine WP.callX (CallK.V (args := [.int x, .int z]) (rest := [.int 0, .ref (rf 15 0)]) kX12_trustAfterSale (gt_i 1421 (by decide +kernel) rfl) inX12_trustAfterSale seX12_trustAfterSale (rcv_own (k := 10) rfl) rfl (by first | exact Nat.le_of_ble_eq_true rfl | simp [rf_cat, Value.category]) dL_trustAfterSale_5) (hokV _ _ _) ?_
  refine WPc.mono hx (fun o9 M1 hm ho => ?_)
  cases r with
  | inl E =>
    obtain ⟨rfl, rfl⟩ := ho
    rcases hE E rfl with rfl | rfl
    · have hq : Q (.inl (some (.int (cdB eI)))) (ax M) := hq
      rw [show cdB eI = 1 by decide] at hq
      refine ⟨[], (0, 10, 13, 13), [(0, 10, 17, 65)], 4, 2, rfl, (fun z9 hz => by cases hz), by decide, by decide, lk_13, List.mem_of_getElem? (i := 0) rfl, List.mem_of_getElem? (i := 0) rfl, (Or.inr ⟨rfl, dL_trustAfterSale_13⟩), ⟨Nat.le_of_ble_eq_true rfl, by decide, rfl⟩, ?_⟩
      refine R.iconst (v := 1) dL_trustAfterSale_15 rfl ?_
      refine WP.ret (ov := some (.int _)) dL_trustAfterSale_16 ⟨rfl, _, rfl, by first | rfl | assumption | exact nar_b01 (by assumption)⟩ ?_
      exact hq
    · have hq : Q (.inl (some (.int (cdB eS)))) (ax M) := hq
      rw [show cdB eS = 2 by decide] at hq
      refine ⟨[(0, 10, 13, 13)], (0, 10, 17, 65), [], 4, 2, rfl, (fun z9 hz => by
        simp only [List.mem_cons, List.mem_nil_iff, or_false] at hz
        rcases hz with rfl
        · exact Or.inr ⟨by decide, eI, lk_13, List.mem_of_getElem? (i := 0) rfl, by decide⟩), by decide, by decide, lk_65, List.mem_of_getElem? (i := 2) rfl, List.mem_of_getElem? (i := 2) rfl, (Or.inr ⟨rfl, dL_trustAfterSale_17⟩), ⟨Nat.le_of_ble_eq_true rfl, by decide, rfl⟩, ?_⟩
      refine R.iconst (v := 2) dL_trustAfterSale_19 rfl ?_
      refine WP.ret (ov := some (.int _)) dL_trustAfterSale_20 ⟨rfl, _, rfl, by first | rfl | assumption | exact nar_b01 (by assumption)⟩ ?_
      exact hq
  | inr t9 =>
    obtain ⟨v, S', p'⟩ := t9
    obtain ⟨rfl, h1, h2⟩ := ho
    have hN1 : mN M1 15 0 = 1 := by rw [(h2.1 15 0 (Or.inr (Or.inr (Or.inl rfl)))).2.2.2.2]; exact hN
    refine R.i2l dL_trustAfterSale_8 ?_
    refine R.last (i := 0) dL_trustAfterSale_9 (by decide) (by rw [hN1]; decide) ?_
    refine R.goto (tgt := 21) dL_trustAfterSale_10 (by decide) ?_
    refine R.iconst (v := 0) dL_trustAfterSale_21 rfl ?_
    refine WP.ret (ov := some (.int _)) dL_trustAfterSale_22 ⟨rfl, _, rfl, by first | rfl | assumption | exact nar_b01 (by assumption)⟩ ?_
    exact hq _ h1 h2 hm
set_option maxHeartbeats 1000000 in
set_option maxRecDepth 4000 in
theorem h_weigh {d : Nat} {r : Rr} {M : Mem} {Q : Out → Mem → Prop} {x : Int32} (hx : WPc (d + 20) mX12_weigh [.ref (rf 10 0), .int x] M (OU9 M r)) (hN : mN M 15 0 = 1) (hE : ∀ E, r = .inl E → E = eI ∨ E = eS) (hq : QHr Q M cdB r) : WPc (d + 21) mL_weigh [.ref (rf 10 0), .int x, .ref (rf 15 0)] M Q := by
  refine WPc.of (by decide +kernel) (Nat.le_of_ble_eq_true rfl) rfl ?_
  refine R.aload_n dL_weigh_0 rfl (by first | rfl | exact rfv_rf _) ?_
  refine R.iconst (v := 0) dL_weigh_1 rfl ?_
  refine R.aload_n dL_weigh_2 rfl (by first | rfl | exact rfv_rf _) ?_
  refine R.iload_n dL_weigh_3 rfl ?_
  refine WP.callX (CallK.V (args := [.int x]) (rest := [.int 0, .ref (rf 15 0)]) kX12_weigh (gt_i 1429 (by decide +kernel) rfl) inX12_weigh seX12_weigh (rcv_own (k := 10) rfl) rfl (by first | exact Nat.le_of_ble_eq_true rfl | simp [rf_cat, Value.category]) dL_weigh_4) (hokV _ _ _) ?_
  refine WPc.mono hx (fun o9 M1 hm ho => ?_)
  cases r with
  | inl E =>
    obtain ⟨rfl, rfl⟩ := ho
    rcases hE E rfl with rfl | rfl
    · have hq : Q (.inl (some (.int (cdB eI)))) (ax M) := hq
      rw [show cdB eI = 1 by decide] at hq
      refine ⟨[], (0, 9, 12, 13), [(0, 9, 15, 65)], 3, 1, rfl, (fun z9 hz => by cases hz), by decide, by decide, lk_13, List.mem_of_getElem? (i := 0) rfl, List.mem_of_getElem? (i := 0) rfl, (Or.inl ⟨3, rfl, rfl, dL_weigh_12⟩), ⟨Nat.le_of_ble_eq_true rfl, by decide, rfl⟩, ?_⟩
      refine R.iconst (v := 1) dL_weigh_13 rfl ?_
      refine WP.ret (ov := some (.int _)) dL_weigh_14 ⟨rfl, _, rfl, by first | rfl | assumption | exact nar_b01 (by assumption)⟩ ?_
      exact hq
    · have hq : Q (.inl (some (.int (cdB eS)))) (ax M) := hq
      rw [show cdB eS = 2 by decide] at hq
      refine ⟨[(0, 9, 12, 13)], (0, 9, 15, 65), [], 3, 1, rfl, (fun z9 hz => by
        simp only [List.mem_cons, List.mem_nil_iff, or_false] at hz
        rcases hz with rfl
        · exact Or.inr ⟨by decide, eI, lk_13, List.mem_of_getElem? (i := 0) rfl, by decide⟩), by decide, by decide, lk_65, List.mem_of_getElem? (i := 2) rfl, List.mem_of_getElem? (i := 2) rfl, (Or.inl ⟨3, rfl, rfl, dL_weigh_15⟩), ⟨Nat.le_of_ble_eq_true rfl, by decide, rfl⟩, ?_⟩
      refine R.iconst (v := 2) dL_weigh_16 rfl ?_
      refine WP.ret (ov := some (.int _)) dL_weigh_17 ⟨rfl, _, rfl, by first | rfl | assumption | exact nar_b01 (by assumption)⟩ ?_
      exact hq
  | inr t9 =>
    obtain ⟨v, S', p'⟩ := t9
    obtain ⟨rfl, h1, h2⟩ := ho
    have hN1 : mN M1 15 0 = 1 := by rw [(h2.1 15 0 (Or.inr (Or.inr (Or.inl rfl)))).2.2.2.2]; exact hN
    refine R.i2l dL_weigh_7 ?_
    refine R.last (i := 0) dL_weigh_8 (by decide) (by rw [hN1]; decide) ?_
    refine R.goto (tgt := 18) dL_weigh_9 (by decide) ?_
    refine R.iconst (v := 0) dL_weigh_18 rfl ?_
    refine WP.ret (ov := some (.int _)) dL_weigh_19 ⟨rfl, _, rfl, by first | rfl | assumption | exact nar_b01 (by assumption)⟩ ?_
    exact hq _ h1 h2 hm
set_option maxHeartbeats 1000000 in
set_option maxRecDepth 4000 in
theorem h_addGoods {d : Nat} {r : Rr} {M : Mem} {Q : Out → Mem → Prop} {x z : Int32} (hx : WPc (d + 20) mX12_addGoods [.ref (rf 10 0), .int x, .int z] M (OU9 M r)) (hN : mN M 15 0 = 1) (hE : ∀ E, r = .inl E → E = eI ∨ E = eA ∨ E = eS) (hq : QHr Q M cdC r) : WPc (d + 21) mL_addGoods [.ref (rf 10 0), .int x, .int z, .ref (rf 15 0)] M Q := by
  refine WPc.of (by decide +kernel) (Nat.le_of_ble_eq_true rfl) rfl ?_
  refine R.aload_n dL_addGoods_0 rfl (by first | rfl | exact rfv_rf _) ?_
  refine R.iconst (v := 0) dL_addGoods_1 rfl ?_
  refine R.aload_n dL_addGoods_2 rfl (by first | rfl | exact rfv_rf _) ?_
  refine R.iload_n dL_addGoods_3 rfl ?_
  refine R.iload_n dL_addGoods_4 rfl ?_
  refine WP.callX (CallK.V (args := [.int x, .int z]) (rest := [.int 0, .ref (rf 15 0)]) kX12_addGoods (gt_i 1437 (by decide +kernel) rfl) inX12_addGoods seX12_addGoods (rcv_own (k := 10) rfl) rfl (by first | exact Nat.le_of_ble_eq_true rfl | simp [rf_cat, Value.category]) dL_addGoods_5) (hokV _ _ _) ?_
  refine WPc.mono hx (fun o9 M1 hm ho => ?_)
  cases r with
  | inl E =>
    obtain ⟨rfl, rfl⟩ := ho
    rcases hE E rfl with rfl | rfl | rfl
    · have hq : Q (.inl (some (.int (cdC eI)))) (ax M) := hq
      rw [show cdC eI = 1 by decide] at hq
      refine ⟨[], (0, 10, 13, 13), [(0, 10, 17, 70), (0, 10, 21, 65)], 4, 2, rfl, (fun z9 hz => by cases hz), by decide, by decide, lk_13, List.mem_of_getElem? (i := 0) rfl, List.mem_of_getElem? (i := 0) rfl, (Or.inr ⟨rfl, dL_addGoods_13⟩), ⟨Nat.le_of_ble_eq_true rfl, by decide, rfl⟩, ?_⟩
      refine R.iconst (v := 1) dL_addGoods_15 rfl ?_
      refine WP.ret (ov := some (.int _)) dL_addGoods_16 ⟨rfl, _, rfl, by first | rfl | assumption | exact nar_b01 (by assumption)⟩ ?_
      exact hq
    · have hq : Q (.inl (some (.int (cdC eA)))) (ax M) := hq
      rw [show cdC eA = 2 by decide] at hq
      refine ⟨[(0, 10, 13, 13)], (0, 10, 17, 70), [(0, 10, 21, 65)], 4, 2, rfl, (fun z9 hz => by
        simp only [List.mem_cons, List.mem_nil_iff, or_false] at hz
        rcases hz with rfl
        · exact Or.inr ⟨by decide, eI, lk_13, List.mem_of_getElem? (i := 0) rfl, by decide⟩), by decide, by decide, lk_70, List.mem_of_getElem? (i := 1) rfl, List.mem_of_getElem? (i := 1) rfl, (Or.inr ⟨rfl, dL_addGoods_17⟩), ⟨Nat.le_of_ble_eq_true rfl, by decide, rfl⟩, ?_⟩
      refine R.iconst (v := 2) dL_addGoods_19 rfl ?_
      refine WP.ret (ov := some (.int _)) dL_addGoods_20 ⟨rfl, _, rfl, by first | rfl | assumption | exact nar_b01 (by assumption)⟩ ?_
      exact hq
    · have hq : Q (.inl (some (.int (cdC eS)))) (ax M) := hq
      rw [show cdC eS = 3 by decide] at hq
      refine ⟨[(0, 10, 13, 13), (0, 10, 17, 70)], (0, 10, 21, 65), [], 4, 2, rfl, (fun z9 hz => by
        simp only [List.mem_cons, List.mem_nil_iff, or_false] at hz
        rcases hz with rfl | rfl
        · exact Or.inr ⟨by decide, eI, lk_13, List.mem_of_getElem? (i := 0) rfl, by decide⟩
        · exact Or.inr ⟨by decide, eA, lk_70, List.mem_of_getElem? (i := 1) rfl, by decide⟩), by decide, by decide, lk_65, List.mem_of_getElem? (i := 2) rfl, List.mem_of_getElem? (i := 2) rfl, (Or.inr ⟨rfl, dL_addGoods_21⟩), ⟨Nat.le_of_ble_eq_true rfl, by decide, rfl⟩, ?_⟩
      refine R.iconst (v := 3) dL_addGoods_23 rfl ?_
      refine WP.ret (ov := some (.int _)) dL_addGoods_24 ⟨rfl, _, rfl, by first | rfl | assumption | exact nar_b01 (by assumption)⟩ ?_
      exact hq
  | inr t9 =>
    obtain ⟨v, S', p'⟩ := t9
    obtain ⟨rfl, h1, h2⟩ := ho
    have hN1 : mN M1 15 0 = 1 := by rw [(h2.1 15 0 (Or.inr (Or.inr (Or.inl rfl)))).2.2.2.2]; exact hN
    refine R.i2l dL_addGoods_8 ?_
    refine R.last (i := 0) dL_addGoods_9 (by decide) (by rw [hN1]; decide) ?_
    refine R.goto (tgt := 25) dL_addGoods_10 (by decide) ?_
    refine R.iconst (v := 0) dL_addGoods_25 rfl ?_
    refine WP.ret (ov := some (.int _)) dL_addGoods_26 ⟨rfl, _, rfl, by first | rfl | assumption | exact nar_b01 (by assumption)⟩ ?_
    exact hq _ h1 h2 hm
set_option maxHeartbeats 1000000 in
set_option maxRecDepth 4000 in
theorem h_removeGoods {d : Nat} {r : Rr} {M : Mem} {Q : Out → Mem → Prop} {x z : Int32} (hx : WPc (d + 20) mX12_removeGoods [.ref (rf 10 0), .int x, .int z] M (OU9 M r)) (hN : mN M 15 0 = 1) (hE : ∀ E, r = .inl E → E = eI ∨ E = eA ∨ E = eS) (hq : QHr Q M cdC r) : WPc (d + 21) mL_removeGoods [.ref (rf 10 0), .int x, .int z, .ref (rf 15 0)] M Q := by
  refine WPc.of (by decide +kernel) (Nat.le_of_ble_eq_true rfl) rfl ?_
  refine R.aload_n dL_removeGoods_0 rfl (by first | rfl | exact rfv_rf _) ?_
  refine R.iconst (v := 0) dL_removeGoods_1 rfl ?_
  refine R.aload_n dL_removeGoods_2 rfl (by first | rfl | exact rfv_rf _) ?_
  refine R.iload_n dL_removeGoods_3 rfl ?_
  refine R.iload_n dL_removeGoods_4 rfl ?_
  refine WP.callX (CallK.V (args := [.int x, .int z]) (rest := [.int 0, .ref (rf 15 0)]) kX12_removeGoods (gt_i 1446 (by decide +kernel) rfl) inX12_removeGoods seX12_removeGoods (rcv_own (k := 10) rfl) rfl (by first | exact Nat.le_of_ble_eq_true rfl | simp [rf_cat, Value.category]) dL_removeGoods_5) (hokV _ _ _) ?_
  refine WPc.mono hx (fun o9 M1 hm ho => ?_)
  cases r with
  | inl E =>
    obtain ⟨rfl, rfl⟩ := ho
    rcases hE E rfl with rfl | rfl | rfl
    · have hq : Q (.inl (some (.int (cdC eI)))) (ax M) := hq
      rw [show cdC eI = 1 by decide] at hq
      refine ⟨[], (0, 10, 13, 13), [(0, 10, 17, 70), (0, 10, 21, 65)], 4, 2, rfl, (fun z9 hz => by cases hz), by decide, by decide, lk_13, List.mem_of_getElem? (i := 0) rfl, List.mem_of_getElem? (i := 0) rfl, (Or.inr ⟨rfl, dL_removeGoods_13⟩), ⟨Nat.le_of_ble_eq_true rfl, by decide, rfl⟩, ?_⟩
      refine R.iconst (v := 1) dL_removeGoods_15 rfl ?_
      refine WP.ret (ov := some (.int _)) dL_removeGoods_16 ⟨rfl, _, rfl, by first | rfl | assumption | exact nar_b01 (by assumption)⟩ ?_
      exact hq
    · have hq : Q (.inl (some (.int (cdC eA)))) (ax M) := hq
      rw [show cdC eA = 2 by decide] at hq
      refine ⟨[(0, 10, 13, 13)], (0, 10, 17, 70), [(0, 10, 21, 65)], 4, 2, rfl, (fun z9 hz => by
        simp only [List.mem_cons, List.mem_nil_iff, or_false] at hz
        rcases hz with rfl
        · exact Or.inr ⟨by decide, eI, lk_13, List.mem_of_getElem? (i := 0) rfl, by decide⟩), by decide, by decide, lk_70, List.mem_of_getElem? (i := 1) rfl, List.mem_of_getElem? (i := 1) rfl, (Or.inr ⟨rfl, dL_removeGoods_17⟩), ⟨Nat.le_of_ble_eq_true rfl, by decide, rfl⟩, ?_⟩
      refine R.iconst (v := 2) dL_removeGoods_19 rfl ?_
      refine WP.ret (ov := some (.int _)) dL_removeGoods_20 ⟨rfl, _, rfl, by first | rfl | assumption | exact nar_b01 (by assumption)⟩ ?_
      exact hq
    · have hq : Q (.inl (some (.int (cdC eS)))) (ax M) := hq
      rw [show cdC eS = 3 by decide] at hq
      refine ⟨[(0, 10, 13, 13), (0, 10, 17, 70)], (0, 10, 21, 65), [], 4, 2, rfl, (fun z9 hz => by
        simp only [List.mem_cons, List.mem_nil_iff, or_false] at hz
        rcases hz with rfl | rfl
        · exact Or.inr ⟨by decide, eI, lk_13, List.mem_of_getElem? (i := 0) rfl, by decide⟩
        · exact Or.inr ⟨by decide, eA, lk_70, List.mem_of_getElem? (i := 1) rfl, by decide⟩), by decide, by decide, lk_65, List.mem_of_getElem? (i := 2) rfl, List.mem_of_getElem? (i := 2) rfl, (Or.inr ⟨rfl, dL_removeGoods_21⟩), ⟨Nat.le_of_ble_eq_true rfl, by decide, rfl⟩, ?_⟩
      refine R.iconst (v := 3) dL_removeGoods_23 rfl ?_
      refine WP.ret (ov := some (.int _)) dL_removeGoods_24 ⟨rfl, _, rfl, by first | rfl | assumption | exact nar_b01 (by assumption)⟩ ?_
      exact hq
  | inr t9 =>
    obtain ⟨v, S', p'⟩ := t9
    obtain ⟨rfl, h1, h2⟩ := ho
    have hN1 : mN M1 15 0 = 1 := by rw [(h2.1 15 0 (Or.inr (Or.inr (Or.inl rfl)))).2.2.2.2]; exact hN
    refine R.i2l dL_removeGoods_8 ?_
    refine R.last (i := 0) dL_removeGoods_9 (by decide) (by rw [hN1]; decide) ?_
    refine R.goto (tgt := 25) dL_removeGoods_10 (by decide) ?_
    refine R.iconst (v := 0) dL_removeGoods_25 rfl ?_
    refine WP.ret (ov := some (.int _)) dL_removeGoods_26 ⟨rfl, _, rfl, by first | rfl | assumption | exact nar_b01 (by assumption)⟩ ?_
    exact hq _ h1 h2 hm
set_option maxHeartbeats 1000000 in
set_option maxRecDepth 4000 in
theorem h_moveInto {d : Nat} {r : Rr} {M : Mem} {Q : Out → Mem → Prop} {x z : Int32} (hx : WPc (d + 20) mX12_moveInto [.ref (rf 10 0), .int x, .int z] M (OU9 M r)) (hN : mN M 15 0 = 1) (hE : ∀ E, r = .inl E → E = eI ∨ E = eS) (hq : QHr Q M cdB r) : WPc (d + 21) mL_moveInto [.ref (rf 10 0), .int x, .int z, .ref (rf 15 0)] M Q := by
  refine WPc.of (by decide +kernel) (Nat.le_of_ble_eq_true rfl) rfl ?_
  refine R.aload_n dL_moveInto_0 rfl (by first | rfl | exact rfv_rf _) ?_
  refine R.iconst (v := 0) dL_moveInto_1 rfl ?_
  refine R.aload_n dL_moveInto_2 rfl (by first | rfl | exact rfv_rf _) ?_
  refine R.iload_n dL_moveInto_3 rfl ?_
  refine R.iload_n dL_moveInto_4 rfl ?_
  refine WP.callX (CallK.V (args := [.int x, .int z]) (rest := [.int 0, .ref (rf 15 0)]) kX12_moveInto (gt_i 1454 (by decide +kernel) rfl) inX12_moveInto seX12_moveInto (rcv_own (k := 10) rfl) rfl (by first | exact Nat.le_of_ble_eq_true rfl | simp [rf_cat, Value.category]) dL_moveInto_5) (hokV _ _ _) ?_
  refine WPc.mono hx (fun o9 M1 hm ho => ?_)
  cases r with
  | inl E =>
    obtain ⟨rfl, rfl⟩ := ho
    rcases hE E rfl with rfl | rfl
    · have hq : Q (.inl (some (.int (cdB eI)))) (ax M) := hq
      rw [show cdB eI = 1 by decide] at hq
      refine ⟨[], (0, 10, 13, 13), [(0, 10, 17, 65)], 4, 2, rfl, (fun z9 hz => by cases hz), by decide, by decide, lk_13, List.mem_of_getElem? (i := 0) rfl, List.mem_of_getElem? (i := 0) rfl, (Or.inr ⟨rfl, dL_moveInto_13⟩), ⟨Nat.le_of_ble_eq_true rfl, by decide, rfl⟩, ?_⟩
      refine R.iconst (v := 1) dL_moveInto_15 rfl ?_
      refine WP.ret (ov := some (.int _)) dL_moveInto_16 ⟨rfl, _, rfl, by first | rfl | assumption | exact nar_b01 (by assumption)⟩ ?_
      exact hq
    · have hq : Q (.inl (some (.int (cdB eS)))) (ax M) := hq
      rw [show cdB eS = 2 by decide] at hq
      refine ⟨[(0, 10, 13, 13)], (0, 10, 17, 65), [], 4, 2, rfl, (fun z9 hz => by
        simp only [List.mem_cons, List.mem_nil_iff, or_false] at hz
        rcases hz with rfl
        · exact Or.inr ⟨by decide, eI, lk_13, List.mem_of_getElem? (i := 0) rfl, by decide⟩), by decide, by decide, lk_65, List.mem_of_getElem? (i := 2) rfl, List.mem_of_getElem? (i := 2) rfl, (Or.inr ⟨rfl, dL_moveInto_17⟩), ⟨Nat.le_of_ble_eq_true rfl, by decide, rfl⟩, ?_⟩
      refine R.iconst (v := 2) dL_moveInto_19 rfl ?_
      refine WP.ret (ov := some (.int _)) dL_moveInto_20 ⟨rfl, _, rfl, by first | rfl | assumption | exact nar_b01 (by assumption)⟩ ?_
      exact hq
  | inr t9 =>
    obtain ⟨v, S', p'⟩ := t9
    obtain ⟨rfl, h1, h2⟩ := ho
    have hN1 : mN M1 15 0 = 1 := by rw [(h2.1 15 0 (Or.inr (Or.inr (Or.inl rfl)))).2.2.2.2]; exact hN
    refine R.i2l dL_moveInto_8 ?_
    refine R.last (i := 0) dL_moveInto_9 (by decide) (by rw [hN1]; decide) ?_
    refine R.goto (tgt := 21) dL_moveInto_10 (by decide) ?_
    refine R.iconst (v := 0) dL_moveInto_21 rfl ?_
    refine WP.ret (ov := some (.int _)) dL_moveInto_22 ⟨rfl, _, rfl, by first | rfl | assumption | exact nar_b01 (by assumption)⟩ ?_
    exact hq _ h1 h2 hm
set_option maxHeartbeats 1000000 in
set_option maxRecDepth 4000 in
theorem h_takeOut {d : Nat} {r : Rr} {M : Mem} {Q : Out → Mem → Prop} {x : Int32} (hx : WPc (d + 20) mX12_takeOut [.ref (rf 10 0), .int x] M (OU9 M r)) (hN : mN M 15 0 = 1) (hE : ∀ E, r = .inl E → E = eI ∨ E = eS) (hq : QHr Q M cdB r) : WPc (d + 21) mL_takeOut [.ref (rf 10 0), .int x, .ref (rf 15 0)] M Q := by
  refine WPc.of (by decide +kernel) (Nat.le_of_ble_eq_true rfl) rfl ?_
  refine R.aload_n dL_takeOut_0 rfl (by first | rfl | exact rfv_rf _) ?_
  refine R.iconst (v := 0) dL_takeOut_1 rfl ?_
  refine R.aload_n dL_takeOut_2 rfl (by first | rfl | exact rfv_rf _) ?_
  refine R.iload_n dL_takeOut_3 rfl ?_
  refine WP.callX (CallK.V (args := [.int x]) (rest := [.int 0, .ref (rf 15 0)]) kX12_takeOut (gt_i 1463 (by decide +kernel) rfl) inX12_takeOut seX12_takeOut (rcv_own (k := 10) rfl) rfl (by first | exact Nat.le_of_ble_eq_true rfl | simp [rf_cat, Value.category]) dL_takeOut_4) (hokV _ _ _) ?_
  refine WPc.mono hx (fun o9 M1 hm ho => ?_)
  cases r with
  | inl E =>
    obtain ⟨rfl, rfl⟩ := ho
    rcases hE E rfl with rfl | rfl
    · have hq : Q (.inl (some (.int (cdB eI)))) (ax M) := hq
      rw [show cdB eI = 1 by decide] at hq
      refine ⟨[], (0, 9, 12, 13), [(0, 9, 15, 65)], 3, 1, rfl, (fun z9 hz => by cases hz), by decide, by decide, lk_13, List.mem_of_getElem? (i := 0) rfl, List.mem_of_getElem? (i := 0) rfl, (Or.inl ⟨3, rfl, rfl, dL_takeOut_12⟩), ⟨Nat.le_of_ble_eq_true rfl, by decide, rfl⟩, ?_⟩
      refine R.iconst (v := 1) dL_takeOut_13 rfl ?_
      refine WP.ret (ov := some (.int _)) dL_takeOut_14 ⟨rfl, _, rfl, by first | rfl | assumption | exact nar_b01 (by assumption)⟩ ?_
      exact hq
    · have hq : Q (.inl (some (.int (cdB eS)))) (ax M) := hq
      rw [show cdB eS = 2 by decide] at hq
      refine ⟨[(0, 9, 12, 13)], (0, 9, 15, 65), [], 3, 1, rfl, (fun z9 hz => by
        simp only [List.mem_cons, List.mem_nil_iff, or_false] at hz
        rcases hz with rfl
        · exact Or.inr ⟨by decide, eI, lk_13, List.mem_of_getElem? (i := 0) rfl, by decide⟩), by decide, by decide, lk_65, List.mem_of_getElem? (i := 2) rfl, List.mem_of_getElem? (i := 2) rfl, (Or.inl ⟨3, rfl, rfl, dL_takeOut_15⟩), ⟨Nat.le_of_ble_eq_true rfl, by decide, rfl⟩, ?_⟩
      refine R.iconst (v := 2) dL_takeOut_16 rfl ?_
      refine WP.ret (ov := some (.int _)) dL_takeOut_17 ⟨rfl, _, rfl, by first | rfl | assumption | exact nar_b01 (by assumption)⟩ ?_
      exact hq
  | inr t9 =>
    obtain ⟨v, S', p'⟩ := t9
    obtain ⟨rfl, h1, h2⟩ := ho
    have hN1 : mN M1 15 0 = 1 := by rw [(h2.1 15 0 (Or.inr (Or.inr (Or.inl rfl)))).2.2.2.2]; exact hN
    refine R.i2l dL_takeOut_7 ?_
    refine R.last (i := 0) dL_takeOut_8 (by decide) (by rw [hN1]; decide) ?_
    refine R.goto (tgt := 18) dL_takeOut_9 (by decide) ?_
    refine R.iconst (v := 0) dL_takeOut_18 rfl ?_
    refine WP.ret (ov := some (.int _)) dL_takeOut_19 ⟨rfl, _, rfl, by first | rfl | assumption | exact nar_b01 (by assumption)⟩ ?_
    exact hq _ h1 h2 hm
set_option maxHeartbeats 1000000 in
set_option maxRecDepth 4000 in
theorem h_sell {d : Nat} {r : Rr} {M : Mem} {Q : Out → Mem → Prop} {x z : Int32} (hx : WPc (d + 20) mX12_sell [.ref (rf 10 0), .int x, .int z] M (OU9 M r)) (hN : mN M 15 0 = 1) (hE : ∀ E, r = .inl E → E = eI ∨ E = eS) (hq : QHr Q M cdB r) : WPc (d + 21) mL_sell [.ref (rf 10 0), .int x, .int z, .ref (rf 15 0)] M Q := by
  refine WPc.of (by decide +kernel) (Nat.le_of_ble_eq_true rfl) rfl ?_
  refine R.aload_n dL_sell_0 rfl (by first | rfl | exact rfv_rf _) ?_
  refine R.iconst (v := 0) dL_sell_1 rfl ?_
  refine R.aload_n dL_sell_2 rfl (by first | rfl | exact rfv_rf _) ?_
  refine R.iload_n dL_sell_3 rfl ?_
  refine R.iload_n dL_sell_4 rfl ?_
  refine WP.callX (CallK.V (args := [.int x, .int z]) (rest := [.int 0, .ref (rf 15 0)]) kX12_sell (gt_i 1472 (by decide +kernel) rfl) inX12_sell seX12_sell (rcv_own (k := 10) rfl) rfl (by first | exact Nat.le_of_ble_eq_true rfl | simp [rf_cat, Value.category]) dL_sell_5) (hokV _ _ _) ?_
  refine WPc.mono hx (fun o9 M1 hm ho => ?_)
  cases r with
  | inl E =>
    obtain ⟨rfl, rfl⟩ := ho
    rcases hE E rfl with rfl | rfl
    · have hq : Q (.inl (some (.int (cdB eI)))) (ax M) := hq
      rw [show cdB eI = 1 by decide] at hq
      refine ⟨[], (0, 10, 13, 13), [(0, 10, 17, 65)], 4, 2, rfl, (fun z9 hz => by cases hz), by decide, by decide, lk_13, List.mem_of_getElem? (i := 0) rfl, List.mem_of_getElem? (i := 0) rfl, (Or.inr ⟨rfl, dL_sell_13⟩), ⟨Nat.le_of_ble_eq_true rfl, by decide, rfl⟩, ?_⟩
      refine R.iconst (v := 1) dL_sell_15 rfl ?_
      refine WP.ret (ov := some (.int _)) dL_sell_16 ⟨rfl, _, rfl, by first | rfl | assumption | exact nar_b01 (by assumption)⟩ ?_
      exact hq
    · have hq : Q (.inl (some (.int (cdB eS)))) (ax M) := hq
      rw [show cdB eS = 2 by decide] at hq
      refine ⟨[(0, 10, 13, 13)], (0, 10, 17, 65), [], 4, 2, rfl, (fun z9 hz => by
        simp only [List.mem_cons, List.mem_nil_iff, or_false] at hz
        rcases hz with rfl
        · exact Or.inr ⟨by decide, eI, lk_13, List.mem_of_getElem? (i := 0) rfl, by decide⟩), by decide, by decide, lk_65, List.mem_of_getElem? (i := 2) rfl, List.mem_of_getElem? (i := 2) rfl, (Or.inr ⟨rfl, dL_sell_17⟩), ⟨Nat.le_of_ble_eq_true rfl, by decide, rfl⟩, ?_⟩
      refine R.iconst (v := 2) dL_sell_19 rfl ?_
      refine WP.ret (ov := some (.int _)) dL_sell_20 ⟨rfl, _, rfl, by first | rfl | assumption | exact nar_b01 (by assumption)⟩ ?_
      exact hq
  | inr t9 =>
    obtain ⟨v, S', p'⟩ := t9
    obtain ⟨rfl, h1, h2⟩ := ho
    have hN1 : mN M1 15 0 = 1 := by rw [(h2.1 15 0 (Or.inr (Or.inr (Or.inl rfl)))).2.2.2.2]; exact hN
    refine R.i2l dL_sell_8 ?_
    refine R.last (i := 0) dL_sell_9 (by decide) (by rw [hN1]; decide) ?_
    refine R.goto (tgt := 21) dL_sell_10 (by decide) ?_
    refine R.iconst (v := 0) dL_sell_21 rfl ?_
    refine WP.ret (ov := some (.int _)) dL_sell_22 ⟨rfl, _, rfl, by first | rfl | assumption | exact nar_b01 (by assumption)⟩ ?_
    exact hq _ h1 h2 hm
set_option maxHeartbeats 1000000 in
set_option maxRecDepth 4000 in
theorem h_setAmplitude {d : Nat} {r : Rr} {M : Mem} {Q : Out → Mem → Prop} {x : Int32} (hx : WPc (d + 20) mX12_setAmplitude [.ref (rf 10 0), .int x] M (OU9 M r)) (hN : mN M 15 0 = 1) (hE : ∀ E, r = .inl E → E = eA) (hq : QHr Q M cdA r) : WPc (d + 21) mL_setAmplitude [.ref (rf 10 0), .int x, .ref (rf 15 0)] M Q := by
  refine WPc.of (by decide +kernel) (Nat.le_of_ble_eq_true rfl) rfl ?_
  refine R.aload_n dL_setAmplitude_0 rfl (by first | rfl | exact rfv_rf _) ?_
  refine R.iconst (v := 0) dL_setAmplitude_1 rfl ?_
  refine R.aload_n dL_setAmplitude_2 rfl (by first | rfl | exact rfv_rf _) ?_
  refine R.iload_n dL_setAmplitude_3 rfl ?_
  refine WP.callX (CallK.V (args := [.int x]) (rest := [.int 0, .ref (rf 15 0)]) kX12_setAmplitude (gt_i 1480 (by decide +kernel) rfl) inX12_setAmplitude seX12_setAmplitude (rcv_own (k := 10) rfl) rfl (by first | exact Nat.le_of_ble_eq_true rfl | simp [rf_cat, Value.category]) dL_setAmplitude_4) (hokV _ _ _) ?_
  refine WPc.mono hx (fun o9 M1 hm ho => ?_)
  cases r with
  | inl E =>
    obtain ⟨rfl, rfl⟩ := ho
    rcases hE E rfl with rfl
    · have hq : Q (.inl (some (.int (cdA eA)))) (ax M) := hq
      rw [show cdA eA = 1 by decide] at hq
      refine ⟨[], (0, 9, 12, 70), [], 3, 1, rfl, (fun z9 hz => by cases hz), by decide, by decide, lk_70, List.mem_of_getElem? (i := 1) rfl, List.mem_of_getElem? (i := 1) rfl, (Or.inl ⟨3, rfl, rfl, dL_setAmplitude_12⟩), ⟨Nat.le_of_ble_eq_true rfl, by decide, rfl⟩, ?_⟩
      refine R.iconst (v := 1) dL_setAmplitude_13 rfl ?_
      refine WP.ret (ov := some (.int _)) dL_setAmplitude_14 ⟨rfl, _, rfl, by first | rfl | assumption | exact nar_b01 (by assumption)⟩ ?_
      exact hq
  | inr t9 =>
    obtain ⟨v, S', p'⟩ := t9
    obtain ⟨rfl, h1, h2⟩ := ho
    have hN1 : mN M1 15 0 = 1 := by rw [(h2.1 15 0 (Or.inr (Or.inr (Or.inl rfl)))).2.2.2.2]; exact hN
    refine R.i2l dL_setAmplitude_7 ?_
    refine R.last (i := 0) dL_setAmplitude_8 (by decide) (by rw [hN1]; decide) ?_
    refine R.goto (tgt := 15) dL_setAmplitude_9 (by decide) ?_
    refine R.iconst (v := 0) dL_setAmplitude_15 rfl ?_
    refine WP.ret (ov := some (.int _)) dL_setAmplitude_16 ⟨rfl, _, rfl, by first | rfl | assumption | exact nar_b01 (by assumption)⟩ ?_
    exact hq _ h1 h2 hm
set_option maxHeartbeats 1000000 in
set_option maxRecDepth 4000 in
theorem h_setAging {d : Nat} {r : Rr} {M : Mem} {Q : Out → Mem → Prop} {x : Int32} (hx : WPc (d + 20) mX12_setAging [.ref (rf 10 0), .int x] M (OU9 M r)) (hN : mN M 15 0 = 1) (hE : ∀ E, r = .inl E → E = eA) (hq : QHr Q M cdA r) : WPc (d + 21) mL_setAging [.ref (rf 10 0), .int x, .ref (rf 15 0)] M Q := by
  refine WPc.of (by decide +kernel) (Nat.le_of_ble_eq_true rfl) rfl ?_
  refine R.aload_n dL_setAging_0 rfl (by first | rfl | exact rfv_rf _) ?_
  refine R.iconst (v := 0) dL_setAging_1 rfl ?_
  refine R.aload_n dL_setAging_2 rfl (by first | rfl | exact rfv_rf _) ?_
  refine R.iload_n dL_setAging_3 rfl ?_
  refine WP.callX (CallK.V (args := [.int x]) (rest := [.int 0, .ref (rf 15 0)]) kX12_setAging (gt_i 1487 (by decide +kernel) rfl) inX12_setAging seX12_setAging (rcv_own (k := 10) rfl) rfl (by first | exact Nat.le_of_ble_eq_true rfl | simp [rf_cat, Value.category]) dL_setAging_4) (hokV _ _ _) ?_
  refine WPc.mono hx (fun o9 M1 hm ho => ?_)
  cases r with
  | inl E =>
    obtain ⟨rfl, rfl⟩ := ho
    rcases hE E rfl with rfl
    · have hq : Q (.inl (some (.int (cdA eA)))) (ax M) := hq
      rw [show cdA eA = 1 by decide] at hq
      refine ⟨[], (0, 9, 12, 70), [], 3, 1, rfl, (fun z9 hz => by cases hz), by decide, by decide, lk_70, List.mem_of_getElem? (i := 1) rfl, List.mem_of_getElem? (i := 1) rfl, (Or.inl ⟨3, rfl, rfl, dL_setAging_12⟩), ⟨Nat.le_of_ble_eq_true rfl, by decide, rfl⟩, ?_⟩
      refine R.iconst (v := 1) dL_setAging_13 rfl ?_
      refine WP.ret (ov := some (.int _)) dL_setAging_14 ⟨rfl, _, rfl, by first | rfl | assumption | exact nar_b01 (by assumption)⟩ ?_
      exact hq
  | inr t9 =>
    obtain ⟨v, S', p'⟩ := t9
    obtain ⟨rfl, h1, h2⟩ := ho
    have hN1 : mN M1 15 0 = 1 := by rw [(h2.1 15 0 (Or.inr (Or.inr (Or.inl rfl)))).2.2.2.2]; exact hN
    refine R.i2l dL_setAging_7 ?_
    refine R.last (i := 0) dL_setAging_8 (by decide) (by rw [hN1]; decide) ?_
    refine R.goto (tgt := 15) dL_setAging_9 (by decide) ?_
    refine R.iconst (v := 0) dL_setAging_15 rfl ?_
    refine WP.ret (ov := some (.int _)) dL_setAging_16 ⟨rfl, _, rfl, by first | rfl | assumption | exact nar_b01 (by assumption)⟩ ?_
    exact hq _ h1 h2 hm
set_option maxHeartbeats 1000000 in
set_option maxRecDepth 4000 in
theorem h_undo {d : Nat} {r : Rr} {M : Mem} {Q : Out → Mem → Prop} (hx : WPc (d + 20) mX12_undo [.ref (rf 10 0)] M (OU9 M r)) (hN : mN M 15 0 = 1) (hE : ∀ E, r = .inl E → E = eN) (hq : QHr Q M cdA r) : WPc (d + 21) mL_undo [.ref (rf 10 0), .ref (rf 15 0)] M Q := by
  refine WPc.of (by decide +kernel) (Nat.le_of_ble_eq_true rfl) rfl ?_
  refine R.aload_n dL_undo_0 rfl (by first | rfl | exact rfv_rf _) ?_
  refine R.iconst (v := 0) dL_undo_1 rfl ?_
  refine R.aload_n dL_undo_2 rfl (by first | rfl | exact rfv_rf _) ?_
  refine WP.callX (CallK.V (args := []) (rest := [.int 0, .ref (rf 15 0)]) kX12_undo (gt_i 1494 (by decide +kernel) rfl) inX12_undo seX12_undo (rcv_own (k := 10) rfl) rfl (by first | exact Nat.le_of_ble_eq_true rfl | simp [rf_cat, Value.category]) dL_undo_3) (hokV _ _ _) ?_
  refine WPc.mono hx (fun o9 M1 hm ho => ?_)
  cases r with
  | inl E =>
    obtain ⟨rfl, rfl⟩ := ho
    rcases hE E rfl with rfl
    · have hq : Q (.inl (some (.int (cdA eN)))) (ax M) := hq
      rw [show cdA eN = 1 by decide] at hq
      refine ⟨[], (0, 8, 11, 50), [], 2, 1, rfl, (fun z9 hz => by cases hz), by decide, by decide, lk_50, List.mem_of_getElem? (i := 3) rfl, List.mem_of_getElem? (i := 3) rfl, (Or.inl ⟨2, rfl, rfl, dL_undo_11⟩), ⟨Nat.le_of_ble_eq_true rfl, by decide, rfl⟩, ?_⟩
      refine R.iconst (v := 1) dL_undo_12 rfl ?_
      refine WP.ret (ov := some (.int _)) dL_undo_13 ⟨rfl, _, rfl, by first | rfl | assumption | exact nar_b01 (by assumption)⟩ ?_
      exact hq
  | inr t9 =>
    obtain ⟨v, S', p'⟩ := t9
    obtain ⟨rfl, h1, h2⟩ := ho
    have hN1 : mN M1 15 0 = 1 := by rw [(h2.1 15 0 (Or.inr (Or.inr (Or.inl rfl)))).2.2.2.2]; exact hN
    refine R.i2l dL_undo_6 ?_
    refine R.last (i := 0) dL_undo_7 (by decide) (by rw [hN1]; decide) ?_
    refine R.goto (tgt := 14) dL_undo_8 (by decide) ?_
    refine R.iconst (v := 0) dL_undo_14 rfl ?_
    refine WP.ret (ov := some (.int _)) dL_undo_15 ⟨rfl, _, rfl, by first | rfl | assumption | exact nar_b01 (by assumption)⟩ ?_
    exact hq _ h1 h2 hm
set_option maxHeartbeats 1000000 in
set_option maxRecDepth 4000 in
theorem h_writeTree {d : Nat} {r : Rr} {M : Mem} {Q : Out → Mem → Prop} {x : Int32} (hx : WPc (d + 20) mX12_writeTree [.ref (rf 10 0), .int x] M (OU9 M r)) (hN : mN M 15 0 = 1) (hE : ∀ E, r = .inl E → E = eI) (hq : QHr Q M cdA r) : WPc (d + 21) mL_writeTree [.ref (rf 10 0), .int x, .ref (rf 15 0)] M Q := by
  refine WPc.of (by decide +kernel) (Nat.le_of_ble_eq_true rfl) rfl ?_
  refine R.aload_n dL_writeTree_0 rfl (by first | rfl | exact rfv_rf _) ?_
  refine R.iconst (v := 0) dL_writeTree_1 rfl ?_
  refine R.aload_n dL_writeTree_2 rfl (by first | rfl | exact rfv_rf _) ?_
  refine R.iload_n dL_writeTree_3 rfl ?_
  refine WP.callX (CallK.V (args := [.int x]) (rest := [.int 0, .ref (rf 15 0)]) kX12_writeTree (gt_i 1506 (by decide +kernel) rfl) inX12_writeTree seX12_writeTree (rcv_own (k := 10) rfl) rfl (by first | exact Nat.le_of_ble_eq_true rfl | simp [rf_cat, Value.category]) dL_writeTree_4) (hokV _ _ _) ?_
  refine WPc.mono hx (fun o9 M1 hm ho => ?_)
  cases r with
  | inl E =>
    obtain ⟨rfl, rfl⟩ := ho
    rcases hE E rfl with rfl
    · have hq : Q (.inl (some (.int (cdA eI)))) (ax M) := hq
      rw [show cdA eI = 1 by decide] at hq
      refine ⟨[], (0, 9, 12, 13), [], 3, 1, rfl, (fun z9 hz => by cases hz), by decide, by decide, lk_13, List.mem_of_getElem? (i := 0) rfl, List.mem_of_getElem? (i := 0) rfl, (Or.inl ⟨3, rfl, rfl, dL_writeTree_12⟩), ⟨Nat.le_of_ble_eq_true rfl, by decide, rfl⟩, ?_⟩
      refine R.iconst (v := 1) dL_writeTree_13 rfl ?_
      refine WP.ret (ov := some (.int _)) dL_writeTree_14 ⟨rfl, _, rfl, by first | rfl | assumption | exact nar_b01 (by assumption)⟩ ?_
      exact hq
  | inr t9 =>
    obtain ⟨v, S', p'⟩ := t9
    obtain ⟨rfl, h1, h2⟩ := ho
    have hN1 : mN M1 15 0 = 1 := by rw [(h2.1 15 0 (Or.inr (Or.inr (Or.inl rfl)))).2.2.2.2]; exact hN
    refine R.i2l dL_writeTree_7 ?_
    refine R.last (i := 0) dL_writeTree_8 (by decide) (by rw [hN1]; decide) ?_
    refine R.goto (tgt := 15) dL_writeTree_9 (by decide) ?_
    refine R.iconst (v := 0) dL_writeTree_15 rfl ?_
    refine WP.ret (ov := some (.int _)) dL_writeTree_16 ⟨rfl, _, rfl, by first | rfl | assumption | exact nar_b01 (by assumption)⟩ ?_
    exact hq _ h1 h2 hm
set_option maxHeartbeats 1000000 in
set_option maxRecDepth 4000 in
theorem h_restoreState {d : Nat} {r : Rr} {M : Mem} {Q : Out → Mem → Prop} (hx : WPc (d + 20) mX12_restoreState [.ref (rf 10 0)] M (OU9 M r)) (hN : mN M 15 0 = 1) (hE : ∀ E, r = .inl E → E = eN) (hq : QHr Q M cdA r) : WPc (d + 21) mL_restoreState [.ref (rf 10 0), .ref (rf 15 0)] M Q := by
  refine WPc.of (by decide +kernel) (Nat.le_of_ble_eq_true rfl) rfl ?_
  refine R.aload_n dL_restoreState_0 rfl (by first | rfl | exact rfv_rf _) ?_
  refine R.iconst (v := 0) dL_restoreState_1 rfl ?_
  refine R.aload_n dL_restoreState_2 rfl (by first | rfl | exact rfv_rf _) ?_
  refine WP.callX (CallK.V (args := []) (rest := [.int 0, .ref (rf 15 0)]) kX12_restoreState (gt_i 1772 (by decide +kernel) rfl) inX12_restoreState seX12_restoreState (rcv_own (k := 10) rfl) rfl (by first | exact Nat.le_of_ble_eq_true rfl | simp [rf_cat, Value.category]) dL_restoreState_3) (hokV _ _ _) ?_
  refine WPc.mono hx (fun o9 M1 hm ho => ?_)
  cases r with
  | inl E =>
    obtain ⟨rfl, rfl⟩ := ho
    rcases hE E rfl with rfl
    · have hq : Q (.inl (some (.int (cdA eN)))) (ax M) := hq
      rw [show cdA eN = 1 by decide] at hq
      refine ⟨[], (0, 8, 11, 50), [], 2, 1, rfl, (fun z9 hz => by cases hz), by decide, by decide, lk_50, List.mem_of_getElem? (i := 3) rfl, List.mem_of_getElem? (i := 3) rfl, (Or.inl ⟨2, rfl, rfl, dL_restoreState_11⟩), ⟨Nat.le_of_ble_eq_true rfl, by decide, rfl⟩, ?_⟩
      refine R.iconst (v := 1) dL_restoreState_12 rfl ?_
      refine WP.ret (ov := some (.int _)) dL_restoreState_13 ⟨rfl, _, rfl, by first | rfl | assumption | exact nar_b01 (by assumption)⟩ ?_
      exact hq
  | inr t9 =>
    obtain ⟨v, S', p'⟩ := t9
    obtain ⟨rfl, h1, h2⟩ := ho
    have hN1 : mN M1 15 0 = 1 := by rw [(h2.1 15 0 (Or.inr (Or.inr (Or.inl rfl)))).2.2.2.2]; exact hN
    refine R.i2l dL_restoreState_6 ?_
    refine R.last (i := 0) dL_restoreState_7 (by decide) (by rw [hN1]; decide) ?_
    refine R.goto (tgt := 14) dL_restoreState_8 (by decide) ?_
    refine R.iconst (v := 0) dL_restoreState_14 rfl ?_
    refine WP.ret (ov := some (.int _)) dL_restoreState_15 ⟨rfl, _, rfl, by first | rfl | assumption | exact nar_b01 (by assumption)⟩ ?_
    exact hq _ h1 h2 hm
