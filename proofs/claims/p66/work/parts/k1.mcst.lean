/-! the start: what never changes, out of the premises by their places; what the tables say -/
def nTx : List Cond := flatC (Jvm.Cond.and given_1 narrow_1)
theorem nT_i {w : Cond} (i : Nat) (h : nTx[i]? = some w) : w ∈ nTx := List.mem_of_getElem? h
theorem nT_blk {p N : Nat} {L : List Cond} (h : (nTx.drop p).take N = L) (w : Cond) (hw : w ∈ L) : w ∈ nTx := List.mem_of_mem_drop (List.mem_of_mem_take (by rw [h]; exact hw))
theorem lt_i {w : Cond} (i : Nat) (h : tables_1[i]? = some w) : w ∈ lw_tbl := List.mem_append_right _ (List.mem_of_getElem? h)
def sAt : List Nat := [321, 404, 446, 776, 832, 859, 647, 676, 619, 711, 741, 496, 518, 508, 532, 547, 562, 579, 600, 885, 916, 956, 988]
def sRf : List Nat := [417, 473, 474, 1389, 1691, 1692, 1047, 1144, 944, 1209, 1232, 500, 570, 540, 596, 597, 598, 599, 600, 1693, 1694, 1695, 1696]
def sQ (i : Nat) : String × Nat × String := sTab.getD i ("", 0, "")
def sT (i : Nat) : Jvm.Term := .string (sQ i).1 (sQ i).2.1
def sV (i : Nat) : Jvm.Term := .field (sT i) "java/lang/String" "value" "[B"
def sCk (i : Nat) : List Cond := [.exactly (sT i) "java/lang/String", .eq (.field (sT i) "java/lang/String" "coder" "B") (.int 0), .arrayOf (sV i) .byte, .eq (.length (sV i)) (.int (Int32.ofNat (sLn i)))] ++ (List.range (sLn i)).map fun j => .eq (.elem (sV i) (.int (Int32.ofNat j))) (.int (sB i j))
theorem sCk_in : ∀ i, i < 23 → (nTx.drop (sAt.getD i 0)).take (4 + sLn i) = sCk i := by decide +kernel
theorem sRf_in : ∀ i, i < 23 → tables_1[sRf.getD i 0]? = some (Cond.stringRef (sQ i).1 (sQ i).2.1 (sQ i).2.2) := by decide +kernel
theorem sLn_l9 : ∀ i, i < 23 → sLn i < 1000 := by decide +kernel
section STA
variable {args : Array Value} {s : State} {A : Nat → Prop}
theorem str0 (hn : ∀ w ∈ nTx, w.before args s = true) (ht : ∀ w ∈ lw_tbl, w.before args s = true) (hA : ∀ a : Nat, a < s.heap.size → ¬ A a) {i : Nat} (hi : i < 23) : ∃ q : Nat × Nat, (sT i).eval args s none [] s = some (.ref q.1) ∧ (va_O "java/lang/String" q.1 A s s.heap ∧ va_OF "java/lang/String" "coder" "B" (.int 0) q.1 A s s.heap ∧ va_OF "java/lang/String" "value" "[B" (.ref q.2) q.1 A s s.heap ∧ va_T .byte q.2 (sLn i) (fun j => .int (sB i j)) A s s.heap) ∧ vk_R (sQ i).1 (sQ i).2.1 (sQ i).2.2 q.1 s := by
  have hc : ∀ w ∈ sCk i, w.before args s = true := fun w hw => hn w (nT_blk (sCk_in i hi) w hw)
  have hex : (Cond.exactly (sT i) "java/lang/String").before args s = true := hc _ (List.mem_append_left _ List.mem_cons_self)
  have hco : (Cond.eq (.field (sT i) "java/lang/String" "coder" "B") (.int 0)).before args s = true := hc _ (List.mem_append_left _ (List.mem_cons_of_mem _ List.mem_cons_self))
  have har : (Cond.arrayOf (sV i) .byte).before args s = true := hc _ (List.mem_append_left _ (List.mem_cons_of_mem _ (List.mem_cons_of_mem _ List.mem_cons_self)))
  have hle : (Cond.eq (.length (sV i)) (.int (Int32.ofNat (sLn i)))).before args s = true := hc _ (List.mem_append_left _ (List.mem_cons_of_mem _ (List.mem_cons_of_mem _ (List.mem_cons_of_mem _ List.mem_cons_self))))
  have hel : ∀ j : Nat, j < sLn i → (Cond.eq (.elem (sV i) (.int (Int32.ofNat j))) (.int (sB i j))).before args s = true := fun j hj => hc _ (List.mem_append_right _ (List.mem_map.mpr ⟨j, List.mem_range.mpr hj, rfl⟩))
  obtain ⟨a, c, cA, kA, q1, q2, q3, q4, q5, q6, -⟩ := Cond.exactly_spec (args := args) (first := s) (o := none) (s := s) (idx := []) (t := sT i) (cls := "java/lang/String") hex
  obtain ⟨t, ht2, hT⟩ := va_Tof (tm := sV i) (N := sLn i) (f := fun j => .int (sB i j)) (A := A) (by have := sLn_l9 i hi; omega) har (va_eqt hle) (fun j hj => va_eqt (hel j hj)) hA
  exact ⟨(a, t), q1, ⟨⟨cA, q3, q5, by rw [q6]; exact q2, hA a (Array.getElem?_eq_some_iff.mp q3).1⟩, vk_OFof q1 (va_eqt hco) hA, vk_OFof q1 ht2 hA, hT⟩, vk_R.of (ht _ (lt_i _ (sRf_in i hi))) q1⟩
theorem v_do : ∀ i, i < 100 → nTx[25 + i]? = some (Cond.eq (.elem (.static "java/lang/Integer" "DigitOnes" "[B") (.int (Int32.ofNat i))) (.int (dgO i))) := by decide +kernel
theorem v_dt : ∀ i, i < 100 → nTx[128 + i]? = some (Cond.eq (.elem (.static "java/lang/Integer" "DigitTens" "[B") (.int (Int32.ofNat i))) (.int (dgT i))) := by decide +kernel
def phi9 (aS aB aC : Nat → Nat) (sp t0 t1 mi b fm tC tE : Nat) : Nat → Nat := fun a => match kd a with
  | 21 => aS (ix a)
  | 22 => sp
  | 23 => aB (ix a)
  | 24 => if ix a = 0 then t0 else t1
  | 25 => mi
  | 27 => b
  | 28 => aC (ix a)
  | 29 => fm
  | 30 => tC
  | 31 => tE
  | _ => 0
theorem cst0 {b L : Nat} {xs : Nat → Int32} (hn : ∀ w ∈ nTx, w.before args s = true) (ht : ∀ w ∈ lw_tbl, w.before args s = true) (hA : ∀ a : Nat, a < s.heap.size → ¬ A a) (hX : va_X b L xs s s.heap) (hb : b < s.heap.size) : ∃ φ : Nat → Nat, φ (rf 27 0) = b ∧ Cst φ A s s.heap L xs := by
  have h1 : ∀ i : Nat, ∃ q : Nat × Nat, i < 23 → (sT i).eval args s none [] s = some (.ref q.1) ∧ (va_O "java/lang/String" q.1 A s s.heap ∧ va_OF "java/lang/String" "coder" "B" (.int 0) q.1 A s s.heap ∧ va_OF "java/lang/String" "value" "[B" (.ref q.2) q.1 A s s.heap ∧ va_T .byte q.2 (sLn i) (fun j => .int (sB i j)) A s s.heap) ∧ vk_R (sQ i).1 (sQ i).2.1 (sQ i).2.2 q.1 s := fun i => by
    by_cases hi : i < 23
    · obtain ⟨q, h⟩ := str0 hn ht hA hi
      exact ⟨q, fun _ => h⟩
    · exact ⟨(0, 0), fun h => absurd h hi⟩
  obtain ⟨aq, haq⟩ := Classical.axiomOfChoice h1
  obtain ⟨sp, c9, cell9, k9, esp, -⟩ := Cond.exactly_spec (args := args) (first := s) (o := none) (s := s) (idx := []) (t := .static "CrateScale$Verb" "SPRING" "LCrateScale$Verb;") (cls := "CrateScale$Verb") (hn _ (nT_i 4 (by decide +kernel)))
  obtain ⟨ad, had, hadE⟩ := vb_Cof (A := A) (st := .static "java/lang/Integer$IntegerCache" "cache" "[Ljava/lang/Integer;") rfl (va_eqt (hn _ (nT_i 20 (by decide +kernel)))) (hn _ (nT_i 21 (by decide +kernel))) hA
  obtain ⟨tC, eC, hTC⟩ := va_Tof (tm := .static "java/lang/Integer$IntegerCache" "cache" "[Ljava/lang/Integer;") (ty := .object "java/lang/Integer") (N := 256) (f := fun j => .ref (ad j)) (A := A) (by decide) (hn _ (nT_i 19 (by decide +kernel))) (va_eqt (hn _ (nT_i 20 (by decide +kernel)))) hadE hA
  obtain ⟨tE, eE, hTE⟩ := va_Tof (tm := .static "java/util/ArrayList" "DEFAULTCAPACITY_EMPTY_ELEMENTDATA" "[Ljava/lang/Object;") (ty := .object "java/lang/Object") (N := 0) (f := fun _ => .null) (A := A) (by decide) (hn _ (nT_i 12 (by decide +kernel))) (va_eqt (hn _ (nT_i 14 (by decide +kernel)))) (fun j hj => absurd hj (Nat.not_lt_zero j)) hA
  obtain ⟨mi, hMi⟩ := va_Mi.of (C := "[Ljava/lang/Object;") (hn _ (nT_i 320 (by decide +kernel)))
  obtain ⟨t0, e0, hT0⟩ := va_Tof (tm := .static "java/lang/Integer" "DigitTens" "[B") (ty := .byte) (N := 100) (f := fun j => .int (dgT j)) (A := A) (by decide) (hn _ (nT_i 126 (by decide +kernel))) (va_eqt (hn _ (nT_i 127 (by decide +kernel)))) (fun j hj => va_eqt (hn _ (nT_i _ (v_dt j hj)))) hA
  obtain ⟨t1, e1, hT1⟩ := va_Tof (tm := .static "java/lang/Integer" "DigitOnes" "[B") (ty := .byte) (N := 100) (f := fun j => .int (dgO j)) (A := A) (by decide) (hn _ (nT_i 23 (by decide +kernel))) (va_eqt (hn _ (nT_i 24 (by decide +kernel)))) (fun j hj => va_eqt (hn _ (nT_i _ (v_do j hj)))) hA
  obtain ⟨fm, hfm⟩ : ∃ fm : Nat, va_Z "jdk/internal/util/Preconditions" "SIOOBE_FORMATTER" "Ljava/util/function/BiFunction;" (if fm = 0 then .null else .ref (fm - 1)) A s s.heap := by
    rcases va_Zqof (C := "jdk/internal/util/Preconditions") (n := "SIOOBE_FORMATTER") (d := "Ljava/util/function/BiFunction;") (A := A) (ht _ (lt_i 446 (by decide +kernel))) (ht _ (lt_i 19 (by decide +kernel))) (hn _ (nT_i 7 (by decide +kernel))) hA with h | ⟨t, h⟩
    · exact ⟨0, by rw [if_pos rfl]; exact h⟩
    · exact ⟨t + 1, by rw [if_neg (Nat.succ_ne_zero t)]; exact h⟩
  have p21 : ∀ i, phi9 (fun i => (aq i).1) (fun i => (aq i).2) ad sp t0 t1 mi b fm tC tE (rf 21 i) = (aq i).1 := fun i => by unfold phi9; rw [kd_rf 21 i (by decide), ix_rf 21 i (by decide)]; try rfl
  have p22 : phi9 (fun i => (aq i).1) (fun i => (aq i).2) ad sp t0 t1 mi b fm tC tE (rf 22 5) = sp := rfl
  have p23 : ∀ i, phi9 (fun i => (aq i).1) (fun i => (aq i).2) ad sp t0 t1 mi b fm tC tE (rf 23 i) = (aq i).2 := fun i => by unfold phi9; rw [kd_rf 23 i (by decide), ix_rf 23 i (by decide)]; try rfl
  have p24 : phi9 (fun i => (aq i).1) (fun i => (aq i).2) ad sp t0 t1 mi b fm tC tE (rf 24 0) = t0 := rfl
  have p24b : phi9 (fun i => (aq i).1) (fun i => (aq i).2) ad sp t0 t1 mi b fm tC tE (rf 24 1) = t1 := rfl
  have p25 : phi9 (fun i => (aq i).1) (fun i => (aq i).2) ad sp t0 t1 mi b fm tC tE (rf 25 0) = mi := rfl
  have p27 : phi9 (fun i => (aq i).1) (fun i => (aq i).2) ad sp t0 t1 mi b fm tC tE (rf 27 0) = b := rfl
  have p28 : ∀ i, phi9 (fun i => (aq i).1) (fun i => (aq i).2) ad sp t0 t1 mi b fm tC tE (rf 28 i) = ad i := fun i => by unfold phi9; rw [kd_rf 28 i (by decide), ix_rf 28 i (by decide)]; try rfl
  have p29 : phi9 (fun i => (aq i).1) (fun i => (aq i).2) ad sp t0 t1 mi b fm tC tE (rf 29 0) = fm := rfl
  have p30 : phi9 (fun i => (aq i).1) (fun i => (aq i).2) ad sp t0 t1 mi b fm tC tE (rf 30 0) = tC := rfl
  have p31 : phi9 (fun i => (aq i).1) (fun i => (aq i).2) ad sp t0 t1 mi b fm tC tE (rf 31 0) = tE := rfl
  generalize phi9 (fun i => (aq i).1) (fun i => (aq i).2) ad sp t0 t1 mi b fm tC tE = φ at p21 p22 p23 p24 p24b p25 p27 p28 p29 p30 p31
  refine ⟨φ, p27, fun i q hq => ?_, ?_, ⟨?_, ?_, ?_⟩, ⟨?_, ?_⟩, ⟨fun j hj => ?_, ?_⟩, ?_, ⟨?_, ?_⟩, ⟨?_, ?_⟩, ?_, ⟨?_, ?_⟩, ⟨?_, ?_, ?_⟩⟩
  · have hi : i < 23 := (List.getElem?_eq_some_iff.mp hq).1
    have e : sQ i = q := by unfold sQ; rw [List.getD_eq_getElem?_getD, hq]; rfl
    obtain ⟨-, g2, g3⟩ := haq i hi
    rw [e] at g3
    unfold Str1
    rw [p21, p23]
    exact ⟨g2, g3⟩
  · rw [p22]
    exact va_Zref (ht _ (lt_i 354 (by decide +kernel))) (ht _ (lt_i 13 (by decide +kernel))) esp hA
  · exact va_Zof (ht _ (lt_i 1490 (by decide +kernel))) (ht _ (lt_i 40 (by decide +kernel))) (va_eqi (hn _ (nT_i 17 (by decide +kernel)))) hA
  · rw [p30]
    exact va_Zref (ht _ (lt_i 1492 (by decide +kernel))) (ht _ (lt_i 40 (by decide +kernel))) eC hA
  · rw [p30, show (fun j => Value.ref (φ (rf 28 j))) = fun j => Value.ref (ad j) from funext fun j => by rw [p28]]
    exact hTC
  · rw [p31]
    exact va_Zref (ht _ (lt_i 737 (by decide +kernel))) (ht _ (lt_i 23 (by decide +kernel))) eE hA
  · rw [p31]
    exact hTE
  · rw [p28]
    exact ⟨had.1 j hj, had.2 j hj⟩
  · rw [p25]
    exact hMi
  · exact va_Zof (ht _ (lt_i 392 (by decide +kernel))) (ht _ (lt_i 16 (by decide +kernel))) (va_eqi (hn _ (nT_i 6 (by decide +kernel)))) hA
  · rw [p24]
    exact va_Zref (ht _ (lt_i 1625 (by decide +kernel))) (ht _ (lt_i 30 (by decide +kernel))) e0 hA
  · rw [p24]
    exact hT0
  · rw [p24b]
    exact va_Zref (ht _ (lt_i 1623 (by decide +kernel))) (ht _ (lt_i 30 (by decide +kernel))) e1 hA
  · rw [p24b]
    exact hT1
  · have e9 : cv φ (.ref (rf 29 0)) = if fm = 0 then .null else .ref (fm - 1) := by
      simp only [cv, kd_rf 29 0 (by decide), p29]
      rfl
    rw [e9]
    exact hfm
  · exact vx_Zqof (ht _ (lt_i 929 (by decide +kernel))) (ht _ (lt_i 32 (by decide +kernel))) (hn _ (nT_i 15 (by decide +kernel))) hA
  · exact vx_Zqof (ht _ (lt_i 931 (by decide +kernel))) (ht _ (lt_i 32 (by decide +kernel))) (hn _ (nT_i 16 (by decide +kernel))) hA
  · rw [p27]
    exact hX
  · rw [p27]
    exact hb
  · rw [p27]
    exact hA b hb
theorem kcl_mk : ∀ q ∈ kcl, Cond.instantiable q.1 q.2.2 ∈ gtbl := by
  intro q hq
  simp only [kcl, List.mem_cons, List.mem_nil_iff, or_false] at hq
  rcases hq with rfl | rfl | rfl | rfl | rfl | rfl | rfl | rfl | rfl | rfl | rfl | rfl | rfl | rfl | rfl | rfl | rfl | rfl
  · exact mk_0
  · exact mk_1
  · exact mk_2
  · exact mk_3
  · exact mk_4
  · exact mk_5
  · exact mk_6
  · exact mk_7
  · exact mk_8
  · exact mk_9
  · exact mk_10
  · exact mk_11
  · exact mk_12
  · exact mk_32
  · exact mk_33
  · exact mk_34
  · exact mk_35
  · exact mk_36
theorem nest_in : ∀ w ∈ nestW, w ∈ lw_tbl := by
  intro w hw
  simp only [nestW, List.mem_cons, List.mem_nil_iff, or_false] at hw
  rcases hw with rfl | rfl | rfl | rfl | rfl | rfl
  · exact lt_i 61 (by decide +kernel)
  · exact lt_i 86 (by decide +kernel)
  · exact lt_i 298 (by decide +kernel)
  · exact lt_i 349 (by decide +kernel)
  · exact lt_i 416 (by decide +kernel)
  · exact lt_i 797 (by decide +kernel)
theorem nest_ot : ∀ w ∈ nestW, w.onTables = true := by decide +kernel
theorem exW_in : ∀ w ∈ exW, w ∈ lw_tbl := by
  intro w hw
  simp only [exW, List.mem_cons, List.mem_nil_iff, or_false] at hw
  rcases hw with rfl | rfl | rfl | rfl | rfl | rfl | rfl | rfl | rfl | rfl | rfl | rfl | rfl | rfl | rfl | rfl | rfl | rfl | rfl | rfl | rfl | rfl | rfl | rfl | rfl | rfl | rfl | rfl | rfl | rfl | rfl | rfl | rfl | rfl | rfl | rfl | rfl | rfl
  · exact lt_i 904 (by decide +kernel)
  · exact lt_i 1202 (by decide +kernel)
  · exact lt_i 1225 (by decide +kernel)
  · exact lt_i 1137 (by decide +kernel)
  · exact lt_i 906 (by decide +kernel)
  · exact lt_i 908 (by decide +kernel)
  · exact lt_i 910 (by decide +kernel)
  · exact lt_i 1522 (by decide +kernel)
  · exact lt_i 1526 (by decide +kernel)
  · exact lt_i 1723 (by decide +kernel)
  · exact lt_i 1711 (by decide +kernel)
  · exact lt_i 1733 (by decide +kernel)
  · exact lt_i 740 (by decide +kernel)
  · exact lt_i 754 (by decide +kernel)
  · exact lt_i 756 (by decide +kernel)
  · exact lt_i 758 (by decide +kernel)
  · exact lt_i 759 (by decide +kernel)
  · exact lt_i 760 (by decide +kernel)
  · exact lt_i 762 (by decide +kernel)
  · exact lt_i 765 (by decide +kernel)
  · exact lt_i 767 (by decide +kernel)
  · exact lt_i 769 (by decide +kernel)
  · exact lt_i 770 (by decide +kernel)
  · exact lt_i 804 (by decide +kernel)
  · exact lt_i 806 (by decide +kernel)
  · exact lt_i 808 (by decide +kernel)
  · exact lt_i 810 (by decide +kernel)
  · exact lt_i 812 (by decide +kernel)
  · exact lt_i 814 (by decide +kernel)
  · exact lt_i 815 (by decide +kernel)
  · exact lt_i 816 (by decide +kernel)
  · exact lt_i 817 (by decide +kernel)
  · exact lt_i 818 (by decide +kernel)
  · exact lt_i 819 (by decide +kernel)
  · exact lt_i 820 (by decide +kernel)
  · exact lt_i 1539 (by decide +kernel)
  · exact lt_i 1563 (by decide +kernel)
  · exact lt_i 1567 (by decide +kernel)
theorem arr0 (ht : ∀ w ∈ lw_tbl, w.before args s = true) : ∀ k, ∃ c : ClassId, 13 ≤ k → k < 21 → ArrOfT s c (tyk k 0) ∧ va_RA s c (tyk k 0) := by
  intro k
  by_cases hk : 13 ≤ k ∧ k < 21
  · rcases (by omega : k = 13 ∨ k = 14 ∨ k = 15 ∨ k = 16 ∨ k = 17 ∨ k = 18 ∨ k = 19 ∨ k = 20) with rfl | rfl | rfl | rfl | rfl | rfl | rfl | rfl
    · obtain ⟨c, kk, comp, h1, h2, h3⟩ := Cond.arrayClass_spec (type := .byte) (args := args) (first := s) (o := none) (s := s) (idx := []) (ht _ (lt_i 326 (by decide +kernel)))
      exact ⟨c, fun _ _ => ⟨fun N z => ⟨(fun k h => by cases h), kk, h2, comp, h3⟩, h1⟩⟩
    · obtain ⟨c, kk, comp, h1, h2, h3⟩ := Cond.arrayClass_spec (type := .int) (args := args) (first := s) (o := none) (s := s) (idx := []) (ht _ (lt_i 869 (by decide +kernel)))
      exact ⟨c, fun _ _ => ⟨fun N z => ⟨(fun k h => by cases h), kk, h2, comp, h3⟩, h1⟩⟩
    · obtain ⟨c, kk, comp, h1, h2, h3⟩ := Cond.arrayClass_spec (type := .int) (args := args) (first := s) (o := none) (s := s) (idx := []) (ht _ (lt_i 869 (by decide +kernel)))
      exact ⟨c, fun _ _ => ⟨fun N z => ⟨(fun k h => by cases h), kk, h2, comp, h3⟩, h1⟩⟩
    · obtain ⟨comp, c, kk, f1, -, f2, f3, f4⟩ := Cond.arrayOver_spec (n := "java/lang/Object") (args := args) (first := s) (o := none) (s := s) (idx := []) (ht _ (lt_i 1364 (by decide +kernel)))
      exact ⟨c, fun _ _ => ⟨fun N z => ⟨(fun k h => by cases h), kk, f2, comp, f3⟩, kk, comp, f2, f3, f1, f4⟩⟩
    · obtain ⟨comp, c, kk, f1, -, f2, f3, f4⟩ := Cond.arrayOver_spec (n := "CrateScale$Buyer") (args := args) (first := s) (o := none) (s := s) (idx := []) (ht _ (lt_i 58 (by decide +kernel)))
      exact ⟨c, fun _ _ => ⟨fun N z => ⟨(fun k h => by cases h), kk, f2, comp, f3⟩, kk, comp, f2, f3, f1, f4⟩⟩
    · obtain ⟨comp, c, kk, f1, -, f2, f3, f4⟩ := Cond.arrayOver_spec (n := "CrateScale$Crate") (args := args) (first := s) (o := none) (s := s) (idx := []) (ht _ (lt_i 56 (by decide +kernel)))
      exact ⟨c, fun _ _ => ⟨fun N z => ⟨(fun k h => by cases h), kk, f2, comp, f3⟩, kk, comp, f2, f3, f1, f4⟩⟩
    · obtain ⟨comp, c, kk, f1, -, f2, f3, f4⟩ := Cond.arrayOver_spec (n := "CrateScale$Statement") (args := args) (first := s) (o := none) (s := s) (idx := []) (ht _ (lt_i 347 (by decide +kernel)))
      exact ⟨c, fun _ _ => ⟨fun N z => ⟨(fun k h => by cases h), kk, f2, comp, f3⟩, kk, comp, f2, f3, f1, f4⟩⟩
    · obtain ⟨comp, c, kk, f1, -, f2, f3, f4⟩ := Cond.arrayOver_spec (n := "CrateScale$Yard") (args := args) (first := s) (o := none) (s := s) (idx := []) (ht _ (lt_i 284 (by decide +kernel)))
      exact ⟨c, fun _ _ => ⟨fun N z => ⟨(fun k h => by cases h), kk, f2, comp, f3⟩, kk, comp, f2, f3, f1, f4⟩⟩
  · exact ⟨0, fun h1 h2 => absurd ⟨h1, h2⟩ hk⟩
theorem kn0 (ht : ∀ w ∈ lw_tbl, w.before args s = true) : ∃ (D : va_G) (cA : Nat → ClassId), Kn D cA s := by
  have hg : ∀ w ∈ gtbl, w.before args s = true := fun w hw => ht w ((List.mem_filter.mp hw).1)
  have h0 : ∀ k : Nat, ∃ x : ClassId × (Nat → Nat), ∀ q, kcl[k]? = some q → u_Kn s q.1 q.2.1 q.2.2 x.1 x.2 := fun k => by
    cases hq : kcl[k]? with
    | none => exact ⟨(0, fun _ => 0), fun q h => nomatch h⟩
    | some q =>
      obtain ⟨cC, iS, h⟩ := u_known (C := q.1) (T := q.2.1) (N := q.2.2) (n := q.2.2) hg (kclOk q (List.mem_of_getElem? hq)) (hg _ (kcl_mk q (List.mem_of_getElem? hq)))
      exact ⟨(cC, iS), fun q' h' => by cases h'; exact h⟩
  obtain ⟨D, hD⟩ := Classical.axiomOfChoice h0
  obtain ⟨cA, hcA⟩ := Classical.axiomOfChoice (arr0 ht)
  refine ⟨(fun k => (D k).1, fun k => (D k).2), cA, ⟨fun k q hq => hD k q hq, fun k q hq => ?_⟩, fun w hw => va_tabs (nest_ot w hw) rfl (ht w (nest_in w hw)), fun w hw => va_tabs (exW_ot w hw) rfl (ht w (exW_in w hw)), fun q hq => ?_, fun C hC => ?_⟩
  · have hk : k < 8 := (List.getElem?_eq_some_iff.mp hq).1
    rcases (by omega : k = 0 ∨ k = 1 ∨ k = 2 ∨ k = 3 ∨ k = 4 ∨ k = 5 ∨ k = 6 ∨ k = 7) with rfl | rfl | rfl | rfl | rfl | rfl | rfl | rfl
    · obtain rfl : (cA 13, tyk 13 0) = q := Option.some.inj hq
      exact hcA 13 (by decide) (by decide)
    · obtain rfl : (cA 14, tyk 14 0) = q := Option.some.inj hq
      exact hcA 14 (by decide) (by decide)
    · obtain rfl : (cA 15, tyk 15 0) = q := Option.some.inj hq
      exact hcA 15 (by decide) (by decide)
    · obtain rfl : (cA 16, tyk 16 0) = q := Option.some.inj hq
      exact hcA 16 (by decide) (by decide)
    · obtain rfl : (cA 17, tyk 17 0) = q := Option.some.inj hq
      exact hcA 17 (by decide) (by decide)
    · obtain rfl : (cA 18, tyk 18 0) = q := Option.some.inj hq
      exact hcA 18 (by decide) (by decide)
    · obtain rfl : (cA 19, tyk 19 0) = q := Option.some.inj hq
      exact hcA 19 (by decide) (by decide)
    · obtain rfl : (cA 20, tyk 20 0) = q := Option.some.inj hq
      exact hcA 20 (by decide) (by decide)
  · simp only [ifN, List.mem_cons, List.mem_nil_iff, or_false] at hq
    rcases hq with rfl | rfl | rfl | rfl | rfl | rfl | rfl | rfl | rfl
    · exact va_Fw.of (ht _ (lt_i 989 (by decide +kernel))) (ht _ (lt_i 988 (by decide +kernel))) (ht _ (lt_i 994 (by decide +kernel))) (ht _ (lt_i 992 (by decide +kernel))) (ht _ (lt_i 990 (by decide +kernel)))
    · exact va_Fw.of (ht _ (lt_i 1018 (by decide +kernel))) (ht _ (lt_i 1017 (by decide +kernel))) (ht _ (lt_i 1023 (by decide +kernel))) (ht _ (lt_i 1021 (by decide +kernel))) (ht _ (lt_i 1019 (by decide +kernel)))
    · exact va_Fw.of (ht _ (lt_i 1028 (by decide +kernel))) (ht _ (lt_i 1027 (by decide +kernel))) (ht _ (lt_i 1032 (by decide +kernel))) (ht _ (lt_i 1030 (by decide +kernel))) (ht _ (lt_i 1019 (by decide +kernel)))
    · exact va_Fw.of (ht _ (lt_i 1083 (by decide +kernel))) (ht _ (lt_i 1082 (by decide +kernel))) (ht _ (lt_i 1087 (by decide +kernel))) (ht _ (lt_i 1085 (by decide +kernel))) (ht _ (lt_i 990 (by decide +kernel)))
    · exact va_Fw.of (ht _ (lt_i 1104 (by decide +kernel))) (ht _ (lt_i 1103 (by decide +kernel))) (ht _ (lt_i 1108 (by decide +kernel))) (ht _ (lt_i 1106 (by decide +kernel))) (ht _ (lt_i 990 (by decide +kernel)))
    · exact va_Fw.of (ht _ (lt_i 1121 (by decide +kernel))) (ht _ (lt_i 1120 (by decide +kernel))) (ht _ (lt_i 1125 (by decide +kernel))) (ht _ (lt_i 1123 (by decide +kernel))) (ht _ (lt_i 990 (by decide +kernel)))
    · exact va_Fw.of (ht _ (lt_i 1186 (by decide +kernel))) (ht _ (lt_i 1185 (by decide +kernel))) (ht _ (lt_i 1190 (by decide +kernel))) (ht _ (lt_i 1188 (by decide +kernel))) (ht _ (lt_i 990 (by decide +kernel)))
    · exact va_Fw.of (ht _ (lt_i 1286 (by decide +kernel))) (ht _ (lt_i 1285 (by decide +kernel))) (ht _ (lt_i 1290 (by decide +kernel))) (ht _ (lt_i 1288 (by decide +kernel))) (ht _ (lt_i 990 (by decide +kernel)))
    · exact va_Fw.of (ht _ (lt_i 1302 (by decide +kernel))) (ht _ (lt_i 1301 (by decide +kernel))) (ht _ (lt_i 1306 (by decide +kernel))) (ht _ (lt_i 1304 (by decide +kernel))) (ht _ (lt_i 990 (by decide +kernel)))
  · simp only [arN, List.mem_cons, List.mem_nil_iff, or_false] at hC
    rcases hC with rfl | rfl | rfl | rfl | rfl
    · exact va_AO.of (ht _ (lt_i 1364 (by decide +kernel)))
    · exact va_AO.of (ht _ (lt_i 58 (by decide +kernel)))
    · exact va_AO.of (ht _ (lt_i 56 (by decide +kernel)))
    · exact va_AO.of (ht _ (lt_i 347 (by decide +kernel)))
    · exact va_AO.of (ht _ (lt_i 284 (by decide +kernel)))
end STA
