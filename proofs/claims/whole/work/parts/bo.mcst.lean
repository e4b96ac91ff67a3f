/-! the start: what never changes, out of the premises by their places; what the tables say -/
def nTx : List Cond := flatC (Jvm.Cond.and given_1 narrow_1)
theorem nT_i {w : Cond} (i : Nat) (h : nTx[i]? = some w) : w ∈ nTx := List.mem_of_getElem? h
theorem nT_blk {p N : Nat} {L : List Cond} (h : (nTx.drop p).take N = L) (w : Cond) (hw : w ∈ L) : w ∈ nTx := List.mem_of_mem_drop (List.mem_of_mem_take (by rw [h]; exact hw))
theorem lt_i {w : Cond} (i : Nat) (h : tables_1[i]? = some w) : w ∈ lw_tbl := List.mem_append_right _ (List.mem_of_getElem? h)
def sAt : List Nat := [468, 551, 592, 817, 857, 981, 725, 759, 742, 801, 781, 640, 655, 649, 664, 673, 681, 690, 702, 711, 719, 1171, 1181, 1189, 1200, 1209, 1160, 1221, 1230, 1241, 1012, 1002, 1019, 1029, 1039, 1048, 1058, 1071, 1081, 1090, 1097, 1107, 1115, 1126, 1136, 1144, 1153]
def sRf : List Nat := [439, 495, 496, 1467, 1498, 1776, 1117, 1247, 1158, 1331, 1297, 522, 592, 562, 618, 619, 620, 621, 622, 747, 757, 2564, 2565, 2566, 2567, 2568, 2555, 2569, 2570, 2571, 1988, 1941, 2001, 2010, 2015, 2016, 2017, 2018, 2043, 2044, 2045, 2046, 2047, 2048, 2049, 2058, 2063]
def sQ (i : Nat) : String × Nat × String := sTab.getD i ("", 0, "")
def sT (i : Nat) : Jvm.Term := .string (sQ i).1 (sQ i).2.1
def sV (i : Nat) : Jvm.Term := .field (sT i) "java/lang/String" "value" "[B"
def sCk (i : Nat) : List Cond := [.exactly (sT i) "java/lang/String", .eq (.field (sT i) "java/lang/String" "coder" "B") (.int 0), .arrayOf (sV i) .byte, .eq (.length (sV i)) (.int (Int32.ofNat (sLn i)))] ++ (List.range (sLn i)).map fun j => .eq (.elem (sV i) (.int (Int32.ofNat j))) (.int (sB i j))
theorem sCk_in : ∀ i, i < 47 → (nTx.drop (sAt.getD i 0)).take (4 + sLn i) = sCk i := by decide +kernel
theorem sRf_in : ∀ i, i < 47 → tables_1[sRf.getD i 0]? = some (Cond.stringRef (sQ i).1 (sQ i).2.1 (sQ i).2.2) := by decide +kernel
section STA
variable {args : Array Value} {s : State} {A : Nat → Prop}
theorem str0 (hn : ∀ w ∈ nTx, w.before args s = true) (ht : ∀ w ∈ lw_tbl, w.before args s = true) (hA : ∀ a : Nat, a < s.heap.size → ¬ A a) {i : Nat} (hi : i < 47) : ∃ q : Nat × Nat, (sT i).eval args s none [] s = some (.ref q.1) ∧ (va_O "java/lang/String" q.1 A s s.heap ∧ va_OF "java/lang/String" "coder" "B" (.int 0) q.1 A s s.heap ∧ va_OF "java/lang/String" "value" "[B" (.ref q.2) q.1 A s s.heap ∧ va_T .byte q.2 (sLn i) (fun j => .int (sB i j)) A s s.heap) ∧ vk_R (sQ i).1 (sQ i).2.1 (sQ i).2.2 q.1 s := by
  have hc : ∀ w ∈ sCk i, w.before args s = true := fun w hw => hn w (nT_blk (sCk_in i hi) w hw)
  have hex : (Cond.exactly (sT i) "java/lang/String").before args s = true := hc _ (List.mem_append_left _ List.mem_cons_self)
  have hco : (Cond.eq (.field (sT i) "java/lang/String" "coder" "B") (.int 0)).before args s = true := hc _ (List.mem_append_left _ (List.mem_cons_of_mem _ List.mem_cons_self))
  have har : (Cond.arrayOf (sV i) .byte).before args s = true := hc _ (List.mem_append_left _ (List.mem_cons_of_mem _ (List.mem_cons_of_mem _ List.mem_cons_self)))
  have hle : (Cond.eq (.length (sV i)) (.int (Int32.ofNat (sLn i)))).before args s = true := hc _ (List.mem_append_left _ (List.mem_cons_of_mem _ (List.mem_cons_of_mem _ (List.mem_cons_of_mem _ List.mem_cons_self))))
  have hel : ∀ j : Nat, j < sLn i → (Cond.eq (.elem (sV i) (.int (Int32.ofNat j))) (.int (sB i j))).before args s = true := fun j hj => hc _ (List.mem_append_right _ (List.mem_map.mpr ⟨j, List.mem_range.mpr hj, rfl⟩))
  obtain ⟨a, c, cA, kA, q1, q2, q3, q4, q5, q6, -⟩ := Cond.exactly_spec (args := args) (first := s) (o := none) (s := s) (idx := []) (t := sT i) (cls := "java/lang/String") hex
  obtain ⟨t, ht2, hT⟩ := va_Tof (tm := sV i) (N := sLn i) (f := fun j => .int (sB i j)) (A := A) (by have := sLn_lt i hi; omega) har (va_eqt hle) (fun j hj => va_eqt (hel j hj)) hA
  exact ⟨(a, t), q1, ⟨⟨cA, q3, q5, by rw [q6]; exact q2, hA a (Array.getElem?_eq_some_iff.mp q3).1⟩, vk_OFof q1 (va_eqt hco) hA, vk_OFof q1 ht2 hA, hT⟩, vk_R.of (ht _ (lt_i _ (sRf_in i hi))) q1⟩
def vTm (i : Nat) : Jvm.Term := .static "CrateScale$Verb" (vNm.getD i "") "LCrateScale$Verb;"
def vEx : List Nat := [246, 250, 255, 261, 268, 4, 276, 285, 295]
def vLs : List Nat := [2556, 2557, 2558, 2559, 2560, 373, 2561, 2562, 2563]
def vNp : List (List Nat) := [[0, 254, 259, 265, 272, 0, 280, 289, 299], [0, 0, 260, 266, 273, 0, 281, 290, 300], [0, 0, 0, 267, 274, 0, 282, 291, 301], [0, 0, 0, 0, 275, 0, 283, 292, 302], [0, 0, 0, 0, 0, 0, 284, 293, 303], [249, 253, 258, 264, 271, 0, 279, 288, 298], [0, 0, 0, 0, 0, 0, 0, 294, 304], [0, 0, 0, 0, 0, 0, 0, 0, 305], [0, 0, 0, 0, 0, 0, 0, 0, 0]]
theorem v_ex : ∀ i, i < 9 → nTx[vEx.getD i 0]? = some (Cond.exactly (vTm i) "CrateScale$Verb") := by decide +kernel
theorem v_or : ∀ i, i < 9 → nTx[vEx.getD i 0 + 1]? = some (Cond.eq (.field (vTm i) "java/lang/Enum" "ordinal" "I") (.int (([0, 1, 2, 3, 4, 5, 6, 7, 8] : List Int32).getD i 0))) := by decide +kernel
theorem v_wd : ∀ i, i < 9 → nTx[vEx.getD i 0 + 2]? = some (Cond.eq (.field (vTm i) "CrateScale$Verb" "word" "Ljava/lang/String;") (sT (vWd i))) := by decide +kernel
theorem v_ls : ∀ i, i < 9 → tables_1[vLs.getD i 0]? = some (Cond.laysStatic "CrateScale$Verb" (vNm.getD i "") "LCrateScale$Verb;") := by decide +kernel
theorem v_ne : ∀ i, i < 9 → ∀ j, j < 9 → i ≠ j → nTx[(vNp.getD i []).getD j 0]? = some (Cond.not (.eq (vTm i) (vTm j))) ∨ nTx[(vNp.getD j []).getD i 0]? = some (Cond.not (.eq (vTm j) (vTm i))) := by decide +kernel
theorem v_al : ∀ i, i < 9 → nTx[17 + i]? = some (Cond.eq (.elem (.static "CrateScale$Verb" "ALL" "[LCrateScale$Verb;") (.int (Int32.ofNat i))) (vTm i)) := by decide +kernel
theorem v_sw : ∀ i, i < 9 → nTx[29 + i]? = some (Cond.eq (.elem (.static "CrateScale$1" "$SwitchMap$CrateScale$Verb" "[I") (.int (Int32.ofNat i))) (.int (swM i))) := by decide +kernel
theorem v_do : ∀ i, i < 100 → nTx[43 + i]? = some (Cond.eq (.elem (.static "java/lang/Integer" "DigitOnes" "[B") (.int (Int32.ofNat i))) (.int (dgO i))) := by decide +kernel
theorem v_dt : ∀ i, i < 100 → nTx[146 + i]? = some (Cond.eq (.elem (.static "java/lang/Integer" "DigitTens" "[B") (.int (Int32.ofNat i))) (.int (dgT i))) := by decide +kernel
def phi9 (aS aV aB : Nat → Nat) (t0 t1 tA tW b fm : Nat) : Nat → Nat := fun a => match kd a with
  | 21 => aS (ix a)
  | 22 => aV (ix a)
  | 23 => aB (ix a)
  | 24 => if ix a = 0 then t0 else t1
  | 25 => tA
  | 26 => tW
  | 27 => b
  | 29 => fm
  | _ => 0
theorem cst0 {b L : Nat} {xs : Nat → Int32} (hn : ∀ w ∈ nTx, w.before args s = true) (ht : ∀ w ∈ lw_tbl, w.before args s = true) (hA : ∀ a : Nat, a < s.heap.size → ¬ A a) (hX : va_X b L xs s s.heap) (hb : b < s.heap.size) : ∃ φ : Nat → Nat, φ (rf 27 0) = b ∧ Cst φ A s s.heap L xs := by
  have h1 : ∀ i : Nat, ∃ q : Nat × Nat, i < 47 → (sT i).eval args s none [] s = some (.ref q.1) ∧ (va_O "java/lang/String" q.1 A s s.heap ∧ va_OF "java/lang/String" "coder" "B" (.int 0) q.1 A s s.heap ∧ va_OF "java/lang/String" "value" "[B" (.ref q.2) q.1 A s s.heap ∧ va_T .byte q.2 (sLn i) (fun j => .int (sB i j)) A s s.heap) ∧ vk_R (sQ i).1 (sQ i).2.1 (sQ i).2.2 q.1 s := fun i => by
    by_cases hi : i < 47
    · obtain ⟨q, h⟩ := str0 hn ht hA hi
      exact ⟨q, fun _ => h⟩
    · exact ⟨(0, 0), fun h => absurd h hi⟩
  obtain ⟨aq, haq⟩ := Classical.axiomOfChoice h1
  have h2 : ∀ i : Nat, ∃ t : Nat, i < 9 → (vTm i).eval args s none [] s = some (.ref t) ∧ va_O "CrateScale$Verb" t A s s.heap := fun i => by
    by_cases hi : i < 9
    · obtain ⟨a, c, cell, k, q1, q2, q3, q4, q5, q6, -⟩ := Cond.exactly_spec (args := args) (first := s) (o := none) (s := s) (idx := []) (t := vTm i) (cls := "CrateScale$Verb") (hn _ (nT_i _ (v_ex i hi)))
      exact ⟨a, fun _ => ⟨q1, cell, q3, q5, by rw [q6]; exact q2, hA a (Array.getElem?_eq_some_iff.mp q3).1⟩⟩
    · exact ⟨0, fun h => absurd h hi⟩
  obtain ⟨av, hav⟩ := Classical.axiomOfChoice h2
  have hini : (Cond.initialized "CrateScale$Verb").before args s = true := ht _ (lt_i 13 (by decide +kernel))
  have hEn : va_En "CrateScale$Verb" "LCrateScale$Verb;" vNm [("java/lang/Enum", "ordinal", "I", [0, 1, 2, 3, 4, 5, 6, 7, 8])] av A s s.heap := by
    refine ⟨fun i hi => ⟨va_Zref (ht _ (lt_i _ (v_ls i hi))) hini (hav i hi).1 hA, (hav i hi).2, fun q hq => ?_⟩, fun i j hi hj e => ?_⟩
    · rcases List.mem_singleton.mp hq with rfl
      exact vk_OFof (hav i hi).1 (va_eqt (hn _ (nT_i _ (v_or i hi)))) hA
    · by_cases hij : i = j
      · exact hij
      · rcases v_ne i hi j hj hij with h | h
        · exact absurd e (va_neR (hn _ (nT_i _ h)) (hav i hi).1 (hav j hj).1)
        · exact absurd e.symm (va_neR (hn _ (nT_i _ h)) (hav j hj).1 (hav i hi).1)
  have hWd : ∀ i : Nat, i < 9 → va_OF "CrateScale$Verb" "word" "Ljava/lang/String;" (.ref (aq (vWd i)).1) (av i) A s s.heap := fun i hi => by
    have h47 : ∀ i, i < 9 → vWd i < 47 := by decide
    exact vk_OFof (hav i hi).1 (va_eqv (hn _ (nT_i _ (v_wd i hi))) (haq (vWd i) (h47 i hi)).1) hA
  obtain ⟨tA, eA, hTA⟩ := va_Tof (tm := .static "CrateScale$Verb" "ALL" "[LCrateScale$Verb;") (ty := .object "CrateScale$Verb") (N := 9) (f := fun j => .ref (av j)) (A := A) (by decide) (hn _ (nT_i 14 (by decide +kernel))) (va_eqt (hn _ (nT_i 15 (by decide +kernel)))) (fun j hj => va_eqv (hn _ (nT_i _ (v_al j hj))) (hav j hj).1) hA
  obtain ⟨tW, eW, hTW⟩ := va_Tof (tm := .static "CrateScale$1" "$SwitchMap$CrateScale$Verb" "[I") (ty := .int) (N := 9) (f := fun j => .int (swM j)) (A := A) (by decide) (hn _ (nT_i 27 (by decide +kernel))) (va_eqt (hn _ (nT_i 28 (by decide +kernel)))) (fun j hj => va_eqt (hn _ (nT_i _ (v_sw j hj)))) hA
  obtain ⟨t0, e0, hT0⟩ := va_Tof (tm := .static "java/lang/Integer" "DigitTens" "[B") (ty := .byte) (N := 100) (f := fun j => .int (dgT j)) (A := A) (by decide) (hn _ (nT_i 144 (by decide +kernel))) (va_eqt (hn _ (nT_i 145 (by decide +kernel)))) (fun j hj => va_eqt (hn _ (nT_i _ (v_dt j hj)))) hA
  obtain ⟨t1, e1, hT1⟩ := va_Tof (tm := .static "java/lang/Integer" "DigitOnes" "[B") (ty := .byte) (N := 100) (f := fun j => .int (dgO j)) (A := A) (by decide) (hn _ (nT_i 41 (by decide +kernel))) (va_eqt (hn _ (nT_i 42 (by decide +kernel)))) (fun j hj => va_eqt (hn _ (nT_i _ (v_do j hj)))) hA
  obtain ⟨fm, hfm⟩ : ∃ fm : Nat, va_Z "jdk/internal/util/Preconditions" "SIOOBE_FORMATTER" "Ljava/util/function/BiFunction;" (if fm = 0 then .null else .ref (fm - 1)) A s s.heap := by
    rcases va_Zqof (C := "jdk/internal/util/Preconditions") (n := "SIOOBE_FORMATTER") (d := "Ljava/util/function/BiFunction;") (A := A) (ht _ (lt_i 468 (by decide +kernel))) (ht _ (lt_i 19 (by decide +kernel))) (hn _ (nT_i 8 (by decide +kernel))) hA with h | ⟨t, h⟩
    · exact ⟨0, by rw [if_pos rfl]; exact h⟩
    · exact ⟨t + 1, by rw [if_neg (Nat.succ_ne_zero t)]; exact h⟩
  have p21 : ∀ i, phi9 (fun i => (aq i).1) av (fun i => (aq i).2) t0 t1 tA tW b fm (rf 21 i) = (aq i).1 := fun i => by unfold phi9; rw [kd_rf 21 i (by decide), ix_rf 21 i (by decide)]; try rfl
  have p22 : ∀ i, phi9 (fun i => (aq i).1) av (fun i => (aq i).2) t0 t1 tA tW b fm (rf 22 i) = av i := fun i => by unfold phi9; rw [kd_rf 22 i (by decide), ix_rf 22 i (by decide)]; try rfl
  have p23 : ∀ i, phi9 (fun i => (aq i).1) av (fun i => (aq i).2) t0 t1 tA tW b fm (rf 23 i) = (aq i).2 := fun i => by unfold phi9; rw [kd_rf 23 i (by decide), ix_rf 23 i (by decide)]; try rfl
  have p24 : phi9 (fun i => (aq i).1) av (fun i => (aq i).2) t0 t1 tA tW b fm (rf 24 0) = t0 := rfl
  have p24b : phi9 (fun i => (aq i).1) av (fun i => (aq i).2) t0 t1 tA tW b fm (rf 24 1) = t1 := rfl
  have p25 : phi9 (fun i => (aq i).1) av (fun i => (aq i).2) t0 t1 tA tW b fm (rf 25 0) = tA := rfl
  have p26 : phi9 (fun i => (aq i).1) av (fun i => (aq i).2) t0 t1 tA tW b fm (rf 26 0) = tW := rfl
  have p27 : phi9 (fun i => (aq i).1) av (fun i => (aq i).2) t0 t1 tA tW b fm (rf 27 0) = b := rfl
  have p29 : phi9 (fun i => (aq i).1) av (fun i => (aq i).2) t0 t1 tA tW b fm (rf 29 0) = fm := rfl
  generalize phi9 (fun i => (aq i).1) av (fun i => (aq i).2) t0 t1 tA tW b fm = φ at p21 p22 p23 p24 p24b p25 p26 p27 p29
  refine ⟨φ, p27, fun i q hq => ?_, ?_, fun i hi => ?_, ⟨?_, ?_⟩, ⟨?_, ?_⟩, ?_, ⟨?_, ?_⟩, ⟨?_, ?_⟩, ?_, ⟨?_, ?_⟩, ⟨?_, ?_, ?_⟩⟩
  · have hi : i < 47 := (List.getElem?_eq_some_iff.mp hq).1
    have e : sQ i = q := by unfold sQ; rw [List.getD_eq_getElem?_getD, hq]; rfl
    obtain ⟨-, g2, g3⟩ := haq i hi
    rw [e] at g3
    unfold Str1
    rw [p21, p23]
    exact ⟨g2, g3⟩
  · rw [show (fun i => φ (rf 22 i)) = av from funext p22]
    exact hEn
  · rw [p21, p22]
    exact hWd i hi
  · rw [p25]
    exact va_Zref (ht _ (lt_i 715 (by decide +kernel))) hini eA hA
  · rw [p25, show (fun j => Value.ref (φ (rf 22 j))) = fun j => Value.ref (av j) from funext fun j => by rw [p22]]
    exact hTA
  · rw [p26]
    exact va_Zref (ht _ (lt_i 723 (by decide +kernel))) (ht _ (lt_i 21 (by decide +kernel))) eW hA
  · rw [p26]
    exact hTW
  · exact va_Zof (ht _ (lt_i 413 (by decide +kernel))) (ht _ (lt_i 16 (by decide +kernel))) (va_eqi (hn _ (nT_i 7 (by decide +kernel)))) hA
  · rw [p24]
    exact va_Zref (ht _ (lt_i 1638 (by decide +kernel))) (ht _ (lt_i 35 (by decide +kernel))) e0 hA
  · rw [p24]
    exact hT0
  · rw [p24b]
    exact va_Zref (ht _ (lt_i 1636 (by decide +kernel))) (ht _ (lt_i 35 (by decide +kernel))) e1 hA
  · rw [p24b]
    exact hT1
  · have e9 : cv φ (.ref (rf 29 0)) = if fm = 0 then .null else .ref (fm - 1) := by
      simp only [cv, kd_rf 29 0 (by decide), p29]
      rfl
    rw [e9]
    exact hfm
  · exact vx_Zqof (ht _ (lt_i 1100 (by decide +kernel))) (ht _ (lt_i 23 (by decide +kernel))) (hn _ (nT_i 38 (by decide +kernel))) hA
  · exact vx_Zqof (ht _ (lt_i 1102 (by decide +kernel))) (ht _ (lt_i 23 (by decide +kernel))) (hn _ (nT_i 39 (by decide +kernel))) hA
  · rw [p27]
    exact hX
  · rw [p27]
    exact hb
  · rw [p27]
    exact hA b hb
theorem kcl_mk : ∀ q ∈ kcl, Cond.instantiable q.1 q.2.2 ∈ gtbl := by
  intro q hq
  simp only [kcl, List.mem_cons, List.mem_nil_iff, or_false] at hq
  rcases hq with rfl | rfl | rfl | rfl | rfl | rfl | rfl | rfl | rfl | rfl | rfl | rfl | rfl
  · exact mk_0
  · exact mk_1
  · exact mk_2
  · exact mk_3
  · exact mk_4
  · exact mk_5
  · exact mk_6
  · exact mk_7
  · exact mk_8
  · exact mk_9
  · exact mk_10
  · exact mk_11
  · exact mk_12
theorem nest_in : ∀ w ∈ nestW, w ∈ lw_tbl := by
  intro w hw
  simp only [nestW, List.mem_cons, List.mem_nil_iff, or_false] at hw
  rcases hw with rfl | rfl | rfl | rfl | rfl
  · exact lt_i 57 (by decide +kernel)
  · exact lt_i 85 (by decide +kernel)
  · exact lt_i 315 (by decide +kernel)
  · exact lt_i 368 (by decide +kernel)
  · exact lt_i 438 (by decide +kernel)
theorem nest_ot : ∀ w ∈ nestW, w.onTables = true := by decide +kernel
theorem exW_in : ∀ w ∈ exW, w ∈ lw_tbl := by
  intro w hw
  simp only [exW, List.mem_cons, List.mem_nil_iff, or_false] at hw
  rcases hw with rfl | rfl | rfl | rfl | rfl | rfl | rfl | rfl | rfl
  · exact lt_i 1075 (by decide +kernel)
  · exact lt_i 1324 (by decide +kernel)
  · exact lt_i 1290 (by decide +kernel)
  · exact lt_i 1240 (by decide +kernel)
  · exact lt_i 1077 (by decide +kernel)
  · exact lt_i 1079 (by decide +kernel)
  · exact lt_i 1081 (by decide +kernel)
  · exact lt_i 1537 (by decide +kernel)
  · exact lt_i 1541 (by decide +kernel)
theorem exN_nc : ∀ E ∈ exN, ∀ F ∈ exN, E ≠ F → Cond.not (.castable E F) ∈ nTx := by
  intro E hE F hF hne
  simp only [exN, List.mem_cons, List.mem_nil_iff, or_false] at hE hF
  rcases hE with rfl | rfl | rfl | rfl <;> rcases hF with rfl | rfl | rfl | rfl
  · exact absurd rfl hne
  · exact nT_i 378 (by decide +kernel)
  · exact nT_i 358 (by decide +kernel)
  · exact nT_i 338 (by decide +kernel)
  · exact nT_i 322 (by decide +kernel)
  · exact absurd rfl hne
  · exact nT_i 360 (by decide +kernel)
  · exact nT_i 340 (by decide +kernel)
  · exact nT_i 321 (by decide +kernel)
  · exact nT_i 380 (by decide +kernel)
  · exact absurd rfl hne
  · exact nT_i 339 (by decide +kernel)
  · exact nT_i 320 (by decide +kernel)
  · exact nT_i 379 (by decide +kernel)
  · exact nT_i 359 (by decide +kernel)
  · exact absurd rfl hne
theorem arr0 (ht : ∀ w ∈ lw_tbl, w.before args s = true) : ∀ k, ∃ c : ClassId, 13 ≤ k → k < 21 → ArrOfT s c (tyk k 0) ∧ va_RA s c (tyk k 0) := by
  intro k
  by_cases hk : 13 ≤ k ∧ k < 21
  · rcases (by omega : k = 13 ∨ k = 14 ∨ k = 15 ∨ k = 16 ∨ k = 17 ∨ k = 18 ∨ k = 19 ∨ k = 20) with rfl | rfl | rfl | rfl | rfl | rfl | rfl | rfl
    · obtain ⟨c, kk, comp, h1, h2, h3⟩ := Cond.arrayClass_spec (type := .byte) (args := args) (first := s) (o := none) (s := s) (idx := []) (ht _ (lt_i 345 (by decide +kernel)))
      exact ⟨c, fun _ _ => ⟨fun N z => ⟨(fun k h => by cases h), kk, h2, comp, h3⟩, h1⟩⟩
    · obtain ⟨c, kk, comp, h1, h2, h3⟩ := Cond.arrayClass_spec (type := .int) (args := args) (first := s) (o := none) (s := s) (idx := []) (ht _ (lt_i 1890 (by decide +kernel)))
      exact ⟨c, fun _ _ => ⟨fun N z => ⟨(fun k h => by cases h), kk, h2, comp, h3⟩, h1⟩⟩
    · obtain ⟨c, kk, comp, h1, h2, h3⟩ := Cond.arrayClass_spec (type := .long) (args := args) (first := s) (o := none) (s := s) (idx := []) (ht _ (lt_i 2513 (by decide +kernel)))
      exact ⟨c, fun _ _ => ⟨fun N z => ⟨(fun k h => by cases h), kk, h2, comp, h3⟩, h1⟩⟩
    · obtain ⟨c, kk, comp, h1, h2, h3⟩ := Cond.arrayClass_spec (type := .double) (args := args) (first := s) (o := none) (s := s) (idx := []) (ht _ (lt_i 2514 (by decide +kernel)))
      exact ⟨c, fun _ _ => ⟨fun N z => ⟨(fun k h => by cases h), kk, h2, comp, h3⟩, h1⟩⟩
    · obtain ⟨comp, c, kk, f1, -, f2, f3, f4⟩ := Cond.arrayOver_spec (n := "CrateScale$Buyer") (args := args) (first := s) (o := none) (s := s) (idx := []) (ht _ (lt_i 54 (by decide +kernel)))
      exact ⟨c, fun _ _ => ⟨fun N z => ⟨(fun k h => by cases h), kk, f2, comp, f3⟩, kk, comp, f2, f3, f1, f4⟩⟩
    · obtain ⟨comp, c, kk, f1, -, f2, f3, f4⟩ := Cond.arrayOver_spec (n := "CrateScale$Crate") (args := args) (first := s) (o := none) (s := s) (idx := []) (ht _ (lt_i 52 (by decide +kernel)))
      exact ⟨c, fun _ _ => ⟨fun N z => ⟨(fun k h => by cases h), kk, f2, comp, f3⟩, kk, comp, f2, f3, f1, f4⟩⟩
    · obtain ⟨comp, c, kk, f1, -, f2, f3, f4⟩ := Cond.arrayOver_spec (n := "CrateScale$Statement") (args := args) (first := s) (o := none) (s := s) (idx := []) (ht _ (lt_i 366 (by decide +kernel)))
      exact ⟨c, fun _ _ => ⟨fun N z => ⟨(fun k h => by cases h), kk, f2, comp, f3⟩, kk, comp, f2, f3, f1, f4⟩⟩
    · obtain ⟨comp, c, kk, f1, -, f2, f3, f4⟩ := Cond.arrayOver_spec (n := "CrateScale$Yard") (args := args) (first := s) (o := none) (s := s) (idx := []) (ht _ (lt_i 300 (by decide +kernel)))
      exact ⟨c, fun _ _ => ⟨fun N z => ⟨(fun k h => by cases h), kk, f2, comp, f3⟩, kk, comp, f2, f3, f1, f4⟩⟩
  · exact ⟨0, fun h1 h2 => absurd ⟨h1, h2⟩ hk⟩
theorem kn0 (hn : ∀ w ∈ nTx, w.before args s = true) (ht : ∀ w ∈ lw_tbl, w.before args s = true) : ∃ (D : va_G) (cA : Nat → ClassId), Kn D cA s := by
  have hg : ∀ w ∈ gtbl, w.before args s = true := fun w hw => ht w ((List.mem_filter.mp hw).1)
  have h0 : ∀ k : Nat, ∃ x : ClassId × (Nat → Nat), ∀ q, kcl[k]? = some q → u_Kn s q.1 q.2.1 q.2.2 x.1 x.2 := fun k => by
    cases hq : kcl[k]? with
    | none => exact ⟨(0, fun _ => 0), fun q h => nomatch h⟩
    | some q =>
      obtain ⟨cC, iS, h⟩ := u_known (C := q.1) (T := q.2.1) (N := q.2.2) (n := q.2.2) hg (kclOk q (List.mem_of_getElem? hq)) (hg _ (kcl_mk q (List.mem_of_getElem? hq)))
      exact ⟨(cC, iS), fun q' h' => by cases h'; exact h⟩
  obtain ⟨D, hD⟩ := Classical.axiomOfChoice h0
  obtain ⟨cA, hcA⟩ := Classical.axiomOfChoice (arr0 ht)
  refine ⟨(fun k => (D k).1, fun k => (D k).2), cA, ⟨fun k q hq => hD k q hq, fun k q hq => ?_⟩, fun w hw => va_tabs (nest_ot w hw) rfl (ht w (nest_in w hw)), fun w hw => va_tabs (exW_ot w hw) rfl (ht w (exW_in w hw)), fun E hE F hF hne => va_Nc.of (hn _ (exN_nc E hE F hF hne)), fun C hC => ?_⟩
  · have hk : k < 8 := (List.getElem?_eq_some_iff.mp hq).1
    rcases (by omega : k = 0 ∨ k = 1 ∨ k = 2 ∨ k = 3 ∨ k = 4 ∨ k = 5 ∨ k = 6 ∨ k = 7) with rfl | rfl | rfl | rfl | rfl | rfl | rfl | rfl
    · obtain rfl : (cA 13, tyk 13 0) = q := Option.some.inj hq
      exact hcA 13 (by decide) (by decide)
    · obtain rfl : (cA 14, tyk 14 0) = q := Option.some.inj hq
      exact hcA 14 (by decide) (by decide)
    · obtain rfl : (cA 15, tyk 15 0) = q := Option.some.inj hq
      exact hcA 15 (by decide) (by decide)
    · obtain rfl : (cA 16, tyk 16 0) = q := Option.some.inj hq
      exact hcA 16 (by decide) (by decide)
    · obtain rfl : (cA 17, tyk 17 0) = q := Option.some.inj hq
      exact hcA 17 (by decide) (by decide)
    · obtain rfl : (cA 18, tyk 18 0) = q := Option.some.inj hq
      exact hcA 18 (by decide) (by decide)
    · obtain rfl : (cA 19, tyk 19 0) = q := Option.some.inj hq
      exact hcA 19 (by decide) (by decide)
    · obtain rfl : (cA 20, tyk 20 0) = q := Option.some.inj hq
      exact hcA 20 (by decide) (by decide)
  · simp only [arN, List.mem_cons, List.mem_nil_iff, or_false] at hC
    rcases hC with rfl | rfl | rfl | rfl
    · exact va_AO.of (ht _ (lt_i 54 (by decide +kernel)))
    · exact va_AO.of (ht _ (lt_i 52 (by decide +kernel)))
    · exact va_AO.of (ht _ (lt_i 366 (by decide +kernel)))
    · exact va_AO.of (ht _ (lt_i 300 (by decide +kernel)))
end STA
