/-! the constants as one fact about a state and a heap, at addresses phi -/
def Str1 (own : String) (k : Nat) (tx : String) (i : Nat) (φ : Nat → Nat) (A : Nat → Prop) (U : State) (H : Heap) : Prop :=
  (va_O "java/lang/String" (φ (rf 21 i)) A U H ∧ va_OF "java/lang/String" "coder" "B" (.int 0) (φ (rf 21 i)) A U H ∧ va_OF "java/lang/String" "value" "[B" (.ref (φ (rf 23 i))) (φ (rf 21 i)) A U H ∧ va_T .byte (φ (rf 23 i)) (sLn i) (fun j => .int (sB i j)) A U H) ∧ vk_R own k tx (φ (rf 21 i)) U
def cv (φ : Nat → Nat) : Value → Value
  | .ref a => if kd a = 29 then (if φ a = 0 then .null else .ref (φ a - 1)) else .ref (φ a)
  | v => v
def Cst (φ : Nat → Nat) (A : Nat → Prop) (U : State) (H : Heap) (scL : Nat) (scX : Nat → Int32) : Prop :=
  (∀ (i : Nat) (q : String × Nat × String), sTab[i]? = some q → Str1 q.1 q.2.1 q.2.2 i φ A U H) ∧
  (va_Z "CrateScale$Verb" "SPRING" "LCrateScale$Verb;" (.ref (φ (rf 22 5))) A U H) ∧
  (va_Z "java/lang/Integer$IntegerCache" "high" "I" (.int 127) A U H ∧ va_Z "java/lang/Integer$IntegerCache" "cache" "[Ljava/lang/Integer;" (.ref (φ (rf 30 0))) A U H ∧ va_T (.object "java/lang/Integer") (φ (rf 30 0)) 256 (fun j => .ref (φ (rf 28 j))) A U H) ∧
  (va_Z "java/util/ArrayList" "DEFAULTCAPACITY_EMPTY_ELEMENTDATA" "[Ljava/lang/Object;" (.ref (φ (rf 31 0))) A U H ∧ va_T (.object "java/lang/Object") (φ (rf 31 0)) 0 (fun _ => .null) A U H) ∧
  ((∀ j : Nat, j < 256 → va_O "java/lang/Integer" (φ (rf 28 j)) A U H ∧ va_OF "java/lang/Integer" "value" "I" (.int (nI j - 128)) (φ (rf 28 j)) A U H) ∧ va_Mi "[Ljava/lang/Object;" (φ (rf 25 0)) U) ∧
  (va_Z "java/lang/String" "COMPACT_STRINGS" "Z" (.int 1) A U H) ∧
  (va_Z "java/lang/Integer" "DigitTens" "[B" (.ref (φ (rf 24 0))) A U H ∧ va_T .byte (φ (rf 24 0)) 100 (fun j => .int (dgT j)) A U H) ∧
  (va_Z "java/lang/Integer" "DigitOnes" "[B" (.ref (φ (rf 24 1))) A U H ∧ va_T .byte (φ (rf 24 1)) 100 (fun j => .int (dgO j)) A U H) ∧
  (va_Z "jdk/internal/util/Preconditions" "SIOOBE_FORMATTER" "Ljava/util/function/BiFunction;" (cv φ (.ref (rf 29 0))) A U H) ∧
  (vx_Zq Bundle.tN "UNASSIGNED_STACK" Bundle.steD A U H ∧ vx_Zq Bundle.tN "SUPPRESSED_SENTINEL" Bundle.listD A U H) ∧
  (va_X (φ (rf 27 0)) scL scX U H ∧ φ (rf 27 0) < H.size ∧ ¬ A (φ (rf 27 0)))
theorem Str1.go {own : String} {k : Nat} {tx : String} {i : Nat} {φ : Nat → Nat} {A B : Nat → Prop} {s U : State} {H : Heap} (hW : s.WarmedH U.vm) (hq : ∀ a : Nat, a < s.heap.size → ¬ A a → H[a]? = s.heap[a]?) (hAB : ∀ q, B q → A q) (h : Str1 own k tx i φ A s s.heap) : Str1 own k tx i φ B U H :=
  ⟨⟨((h.1.1.kept hq).narrow hAB).moved hW.alike, ((h.1.2.1.kept hq).narrow hAB).moved hW.alike, ((h.1.2.2.1.kept hq).narrow hAB).moved hW.alike, ((h.1.2.2.2.kept hq).narrow hAB).moved hW.alike⟩, vk_R.warm hW h.2⟩
theorem Cst.go {φ : Nat → Nat} {A B : Nat → Prop} {s U : State} {H : Heap} {L : Nat} {X : Nat → Int32} (hW : s.WarmedH U.vm) (hsz : s.heap.size ≤ H.size) (hq : ∀ a : Nat, a < s.heap.size → ¬ A a → H[a]? = s.heap[a]?) (hAB : ∀ q, B q → A q) (h : Cst φ A s s.heap L X) : Cst φ B U H L X := by
  obtain ⟨h1, h2, ⟨h3, h3b, h3c⟩, ⟨h4, h4b⟩, ⟨h5, h5b⟩, h6, ⟨h7, h7b⟩, ⟨h8, h8b⟩, h9, ⟨h10, h10b⟩, h11, h12, h13⟩ := h
  refine ⟨fun i q hi => (h1 i q hi).go hW hq hAB, ((h2.kept hq).narrow hAB).moved hW.alike, ⟨((h3.kept hq).narrow hAB).moved hW.alike, ((h3b.kept hq).narrow hAB).moved hW.alike, ((h3c.kept hq).narrow hAB).moved hW.alike⟩, ⟨((h4.kept hq).narrow hAB).moved hW.alike, ((h4b.kept hq).narrow hAB).moved hW.alike⟩, ⟨fun j hj => ⟨(((h5 j hj).1.kept hq).narrow hAB).moved hW.alike, (((h5 j hj).2.kept hq).narrow hAB).moved hW.alike⟩, h5b.moved hW.alike⟩, ((h6.kept hq).narrow hAB).moved hW.alike, ⟨((h7.kept hq).narrow hAB).moved hW.alike, ((h7b.kept hq).narrow hAB).moved hW.alike⟩, ⟨((h8.kept hq).narrow hAB).moved hW.alike, ((h8b.kept hq).narrow hAB).moved hW.alike⟩, ((h9.kept hq).narrow hAB).moved hW.alike, ⟨((h10.kept hq).narrow hAB).moved hW.alike, ((h10b.kept hq).narrow hAB).moved hW.alike⟩, (h11.kept (hq _ h12 h13)).moved hW.alike, Nat.lt_of_lt_of_le h12 hsz, fun z => h13 (hAB _ z)⟩
theorem Cst.ext {φ φ' : Nat → Nat} {A : Nat → Prop} {U : State} {H : Heap} {L : Nat} {X : Nat → Int32} (he : ∀ k i, ¬ KO k → k < 64 → φ' (rf k i) = φ (rf k i)) (h : Cst φ A U H L X) : Cst φ' A U H L X := by
  have e1 : ∀ i, φ' (rf 21 i) = φ (rf 21 i) := fun i => he 21 i (by omega) (by omega)
  have e2 : ∀ i, φ' (rf 22 i) = φ (rf 22 i) := fun i => he 22 i (by omega) (by omega)
  have e3 : ∀ i, φ' (rf 23 i) = φ (rf 23 i) := fun i => he 23 i (by omega) (by omega)
  have e4 : ∀ i, φ' (rf 24 i) = φ (rf 24 i) := fun i => he 24 i (by omega) (by omega)
  have e5 : ∀ i, φ' (rf 25 i) = φ (rf 25 i) := fun i => he 25 i (by omega) (by omega)
  have e7 : ∀ i, φ' (rf 27 i) = φ (rf 27 i) := fun i => he 27 i (by omega) (by omega)
  have e8 : ∀ i, φ' (rf 28 i) = φ (rf 28 i) := fun i => he 28 i (by omega) (by omega)
  have e9 : ∀ i, φ' (rf 29 i) = φ (rf 29 i) := fun i => he 29 i (by omega) (by omega)
  have e10 : ∀ i, φ' (rf 30 i) = φ (rf 30 i) := fun i => he 30 i (by omega) (by omega)
  have e11 : ∀ i, φ' (rf 31 i) = φ (rf 31 i) := fun i => he 31 i (by omega) (by omega)
  simp only [Cst, Str1, cv, e1, e2, e3, e4, e5, e7, e8, e9, e10, e11] at h ⊢
  exact h
/-! the memory of the walk: by kind, number and field -/
abbrev Mem : Type := (Nat → Nat → Nat → Int32) × (Nat → Nat → Nat → Int64) × (Nat → Nat → Nat → Option Nat) × (Nat → Nat → Nat → UInt64) × (Nat → Nat → Nat) × (Nat → Nat) × Nat × Nat
def mI (M : Mem) : Nat → Nat → Nat → Int32 := M.1
def mL (M : Mem) : Nat → Nat → Nat → Int64 := M.2.1
def mR (M : Mem) : Nat → Nat → Nat → Option Nat := M.2.2.1
def mD (M : Mem) : Nat → Nat → Nat → UInt64 := M.2.2.2.1
def mN (M : Mem) : Nat → Nat → Nat := M.2.2.2.2.1
def mC (M : Mem) : Nat → Nat := M.2.2.2.2.2.1
def mK (M : Mem) : Nat := M.2.2.2.2.2.2.1
def mS (M : Mem) : Nat := M.2.2.2.2.2.2.2
def up3 {α : Type} (F : Nat → Nat → Nat → α) (k i f : Nat) (v : α) : Nat → Nat → Nat → α := fun k' i' f' => if k' = k ∧ i' = i ∧ f' = f then v else F k' i' f'
def up2 {α : Type} (F : Nat → Nat → Nat → α) (k i : Nat) (v : α) : Nat → Nat → Nat → α := fun k' i' f' => if k' = k ∧ i' = i then v else F k' i' f'
def sI (M : Mem) (k i f : Nat) (v : Int32) : Mem := (up3 M.1 k i f v, M.2)
def sL (M : Mem) (k i f : Nat) (v : Int64) : Mem := (M.1, up3 M.2.1 k i f v, M.2.2)
def sR (M : Mem) (k i f : Nat) (v : Option Nat) : Mem := (M.1, M.2.1, up3 M.2.2.1 k i f v, M.2.2.2)
def sD (M : Mem) (k i f : Nat) (v : UInt64) : Mem := (M.1, M.2.1, M.2.2.1, up3 M.2.2.2.1 k i f v, M.2.2.2.2)
/-- a new cell of kind k, of n places (an array), with sl slots -/
def al (M : Mem) (k n sl : Nat) : Mem :=
  (up2 M.1 k (mC M k) 0, up2 M.2.1 k (mC M k) 0, up2 M.2.2.1 k (mC M k) none, up2 M.2.2.2.1 k (mC M k) 0, (fun k' i' => if k' = k ∧ i' = mC M k then n else mN M k' i'), (fun k' => if k' = k then mC M k + 1 else mC M k'), mK M + 1, mS M + sl)
/-- what a thrown exception costs -/
def ax (M : Mem) : Mem := (M.1, M.2.1, M.2.2.1, M.2.2.2.1, M.2.2.2.2.1, M.2.2.2.2.2.1, mK M + 1, mS M + 6)
def tyk (k f : Nat) : FieldType := match k with
  | 0 => tyX1 f | 1 => tyX2 f | 2 => tyX3 f | 3 => tyX4 f | 4 => tyX5 f | 5 => tyX6 f | 6 => tyX7 f | 7 => tyX8 f | 8 => tyX9 f | 9 => tyX11 f | 10 => tyX12 f | 11 => tyX13 f | 12 => tyJ4 f | 32 => tyX14 f | 33 => tyJx4a65c f | 34 => tyJx35411 f | 35 => tyJ6 f | 36 => tyJ0 f
  | 13 => .byte | 14 => .int | 15 => .int | 16 => .object "java/lang/Object" | 17 => .object "CrateScale$Buyer" | 18 => .object "CrateScale$Crate" | 19 => .object "CrateScale$Statement" | _ => .object "CrateScale$Yard"
def ev (M : Mem) (k i f : Nat) : Value := match tyk k f with
  | .long => .long (mL M k i f)
  | .double => .double (mD M k i f)
  | .object _ => va_rf (mR M k i f)
  | .array _ => va_rf (mR M k i f)
  | .float => .float 0
  | _ => .int (mI M k i f)
abbrev kcl : List vw_C := [(RX1, TX1, 6), (RX2, TX2, 13), (RX3, TX3, 3), (RX4, TX4, 4), (RX5, TX5, 4), (RX6, TX6, 2), (RX7, TX7, 5), (RX8, TX8, 7), (RX9, TX9, 7), (RX11, TX11, 9), (RX12, TX12, 11), (RX13, TX13, 9), (RJ4, TJ4, 4), (RX14, TX14, 12), (RJx4a65c, TJx4a65c, 3), (RJx35411, TJx35411, 4), (RJ6, TJ6, 1), (RJ0, TJ0, 4)]
def kx (k : Nat) : Nat := if k < 13 then k else if 32 ≤ k then k - 19 else 99
abbrev kq (k : Nat) : Option vw_C := kcl[kx k]?
def ktys (cA : Nat → ClassId) : List (ClassId × FieldType) := [(cA 13, .byte), (cA 14, .int), (cA 15, .int), (cA 16, .object "java/lang/Object"), (cA 17, .object "CrateScale$Buyer"), (cA 18, .object "CrateScale$Crate"), (cA 19, .object "CrateScale$Statement"), (cA 20, .object "CrateScale$Yard")]
def VA (M : Mem) (a : Nat) : Prop := KO (kd a) → ix a < mC M (kd a)
def VOk (M : Mem) (v : Value) : Prop := ∀ a, v = .ref a → VA M a
def Rel (D : va_G) (cA : Nat → ClassId) (φ : Nat → Nat) (M : Mem) (H : Heap) : Prop :=
  (∀ k i q, kq k = some q → i < mC M k → t_OB (φ (rf k i)) (D.1 (kx k)) q.2.2 (D.2 (kx k)) H (fun f => cv φ (ev M k i f))) ∧
  (∀ k i, 13 ≤ k → k < 21 → i < mC M k → H[φ (rf k i)]? = some (arrV (cA k) (mN M k i) (fun j => cv φ (ev M k i j)))) ∧
  (∀ k i k' i', KO k → i < mC M k → KO k' → i' < mC M k' → φ (rf k i) = φ (rf k' i') → k = k' ∧ i = i') ∧
  (∀ k i f a, KO k → i < mC M k → mR M k i f = some a → VA M a)
/-- the cells that a walk over M may write: its own, and new ones -/
def Af (φ : Nat → Nat) (M : Mem) (sz : Nat) : Nat → Prop := fun q => (∃ k i, KO k ∧ i < mC M k ∧ q = φ (rf k i)) ∨ sz ≤ q
def nestW : List Cond := [Cond.methodLinkNest RX11 25 yX4_init "CrateScale", Cond.methodLinkNest RX11 32 yX9_init "CrateScale", Cond.methodLinkNest RX12 31 yX8_init "CrateScale", Cond.methodLinkNest RX5 25 yX7_init "CrateScale", Cond.methodLinkNest RX12 70 yX4_init "CrateScale", Cond.methodLinkNest "CrateScaleLaw" 256 yX14_init "CrateScaleLaw"]
def arN : List String := ["java/lang/Object", "CrateScale$Buyer", "CrateScale$Crate", "CrateScale$Statement", "CrateScale$Yard"]
def exN : List String := ["java/lang/IndexOutOfBoundsException", "java/lang/IllegalArgumentException", "java/lang/IllegalStateException", "java/util/NoSuchElementException"]
def exW : List Cond := [.castable "java/lang/IndexOutOfBoundsException" "java/lang/IndexOutOfBoundsException", .castable "java/lang/IllegalArgumentException" "java/lang/IllegalArgumentException", .castable "java/lang/IllegalStateException" "java/lang/IllegalStateException", .castable "java/util/NoSuchElementException" "java/util/NoSuchElementException", .declares ⟨"java/lang/RuntimeException", "<init>", "(Ljava/lang/String;)V"⟩, .declares ⟨"java/lang/Exception", "<init>", "(Ljava/lang/String;)V"⟩, .declares ⟨"java/lang/Throwable", "<init>", "(Ljava/lang/String;)V"⟩, .privateMethod ⟨"java/lang/AbstractStringBuilder", "ensureCapacityInternal", "(I)V"⟩, .privateMethod ⟨"java/lang/AbstractStringBuilder", "newCapacity", "(I)I"⟩, .castable "CrateScaleLaw$Crate" "java/lang/Object", .castable "java/lang/Integer" "java/lang/Object", .declares ⟨"java/lang/Object", "getClass", "()Ljava/lang/Class;"⟩, .fieldLinkNest "java/util/ArrayList$Itr" 28 "java/util/ArrayList" "size" "I" "java/util/ArrayList", .fieldLinkNest "CrateScaleLaw" 106 "CrateScaleLaw$Crate" "number" "I" "CrateScaleLaw", .fieldLinkNest "CrateScaleLaw" 196 "CrateScaleLaw$Crate" "tare" "I" "CrateScaleLaw", .fieldLinkNest "CrateScaleLaw" 118 "CrateScaleLaw$Crate" "goods" "I" "CrateScaleLaw", .fieldLinkNest "CrateScaleLaw$Yard" 33 "CrateScaleLaw$Crate" "error" "I" "CrateScaleLaw", .fieldLinkNest "CrateScaleLaw" 146 "CrateScaleLaw$Crate" "isGone" "Z" "CrateScaleLaw", .fieldLinkNest "CrateScaleLaw$Yard" 29 "CrateScaleLaw$Crate" "isOpen" "Z" "CrateScaleLaw", .fieldLinkNest "CrateScaleLaw" 124 "CrateScaleLaw$Crate" "parent" "LCrateScaleLaw$Crate;" "CrateScaleLaw", .fieldLinkNest "CrateScaleLaw" 137 "CrateScaleLaw$Crate" "children" "Ljava/util/List;" "CrateScaleLaw", .fieldLinkNest "CrateScaleLaw$Yard" 43 "CrateScaleLaw$Crate" "readings" "Ljava/util/List;" "CrateScaleLaw", .fieldLinkNest "CrateScaleLaw" 153 "CrateScaleLaw$Crate" "readings" "Ljava/util/List;" "CrateScaleLaw", .fieldLinkNest "CrateScaleLaw" 84 "CrateScaleLaw$Yard" "all" "Ljava/util/List;" "CrateScaleLaw", .fieldLinkNest "CrateScaleLaw" 281 "CrateScaleLaw$Yard" "state" "I" "CrateScaleLaw", .fieldLinkNest "CrateScaleLaw" 82 "CrateScaleLaw$Yard" "amplitude" "I" "CrateScaleLaw", .fieldLinkNest "CrateScaleLaw" 39 "CrateScaleLaw$Yard" "aging" "I" "CrateScaleLaw", .fieldLinkNest "CrateScaleLaw" 30 "CrateScaleLaw$Yard" "age" "I" "CrateScaleLaw", .fieldLinkNest "CrateScaleLaw" 45 "CrateScaleLaw$Yard" "total" "I" "CrateScaleLaw", .fieldLinkNest "CrateScaleLaw" 51 "CrateScaleLaw$Yard" "discarded" "I" "CrateScaleLaw", .fieldLinkNest "CrateScaleLaw" 58 "CrateScaleLaw$Yard" "money" "I" "CrateScaleLaw", .fieldLinkNest "CrateScaleLaw" 246 "CrateScaleLaw$Yard" "tolerance" "I" "CrateScaleLaw", .fieldLinkNest "CrateScaleLaw" 64 "CrateScaleLaw$Yard" "trust" "I" "CrateScaleLaw", .fieldLinkNest "CrateScaleLaw" 70 "CrateScaleLaw$Yard" "prices" "I" "CrateScaleLaw", .fieldLinkNest "CrateScaleLaw" 76 "CrateScaleLaw$Yard" "refunds" "I" "CrateScaleLaw", .castable "[B" "java/lang/Cloneable", .privateMethod ⟨"java/lang/AbstractStringBuilder", "putStringAt", "(ILjava/lang/String;)V"⟩, .privateMethod ⟨"java/lang/AbstractStringBuilder", "inflateIfNeededFor", "(Ljava/lang/String;)V"⟩]
/-- calls through an interface: the receiver's class, the method named, the one that runs -/
def ifN : List (String × MethodName × MethodName) := [(RJx4a65c, ⟨"java/util/List", "iterator", "()Ljava/util/Iterator;"⟩, yJx4a65c_iterator_32c93), (RJx35411, ⟨"java/util/Iterator", "hasNext", "()Z"⟩, yJx35411_hasNext_aae02), (RJx35411, ⟨"java/util/Iterator", "next", "()Ljava/lang/Object;"⟩, yJx35411_next_0502b), (RJx4a65c, ⟨"java/util/List", "size", "()I"⟩, yJx4a65c_size_8abf5), (RJx4a65c, ⟨"java/util/List", "get", "(I)Ljava/lang/Object;"⟩, yJx4a65c_get_915e3), (RJx4a65c, ⟨"java/util/List", "isEmpty", "()Z"⟩, yJx4a65c_isEmpty_aae02), (RJx4a65c, ⟨"java/util/List", "clear", "()V"⟩, yJx4a65c_clear_da8c8), (RJx4a65c, ⟨"java/util/List", "remove", "(I)Ljava/lang/Object;"⟩, yJx4a65c_remove_915e3), (RJx4a65c, ⟨"java/util/List", "add", "(Ljava/lang/Object;)Z"⟩, yJx4a65c_add_9ea2d)]
theorem ifN_mh : ∀ q ∈ ifN, q.2.1.cls ≠ "java/lang/invoke/MethodHandle" ∧ q.2.1.cls ≠ "java/lang/invoke/VarHandle" := by decide +kernel
theorem exW_ot : ∀ w ∈ exW, w.onTables = true := by decide +kernel
/-- what the tables say of a state, in the walk's words -/
def Kn (D : va_G) (cA : Nat → ClassId) (U : State) : Prop := va_K D kcl (ktys cA) U ∧ (∀ w ∈ nestW, va_Nw w U) ∧ (∀ w ∈ exW, va_Nw w U) ∧ (∀ q ∈ ifN, va_Fw q.1 q.2.1 q.2.2 U) ∧ ∀ C ∈ arN, va_AO C U
theorem Kn.warm {D : va_G} {cA : Nat → ClassId} {s U : State} (hW : s.WarmedH U.vm) (h : Kn D cA s) : Kn D cA U := by
  refine ⟨va_K.moved hW.alike h.1, fun w hw => ?_, fun w hw => ?_, fun q hq => va_Fw.moved (ifN_mh q hq) hW.alike (h.2.2.2.1 q hq), fun C hC => va_AO.moved hW.alike (h.2.2.2.2 C hC)⟩
  have h2 := h.2.1 w hw
  simp only [nestW, List.mem_cons, List.mem_nil_iff, or_false] at hw
  rcases hw with rfl | rfl | rfl | rfl | rfl | rfl <;> exact va_Nw.warmM hW h2
  have h2 := h.2.2.1 w hw
  simp only [exW, List.mem_cons, List.mem_nil_iff, or_false] at hw
  rcases hw with rfl | rfl | rfl | rfl | rfl | rfl | rfl | rfl | rfl | rfl | rfl | rfl | rfl | rfl | rfl | rfl | rfl | rfl | rfl | rfl | rfl | rfl | rfl | rfl | rfl | rfl | rfl | rfl | rfl | rfl | rfl | rfl | rfl | rfl | rfl | rfl | rfl | rfl <;> first | exact va_Nw.warmF hW h2 | exact va_Nw.warmC hW h2 | exact va_Nw.warmD hW h2 | exact va_tabs rfl (rfl : (s.setVm U.vm).vm = U.vm) (by rw [Cond.privateMethod_setVm hW.alike]; exact h2) | exact va_tabs rfl (rfl : (s.setVm U.vm).vm = U.vm) (Cond.privateMethod_warm hW h2)
def gtbl : List Cond := lw_tbl.filter goodWord
abbrev MRec : Type := MethodName × ByteArray × Nat × Option FieldType × List (Nat × Nat × Nat × Nat)
def wcode (m : MRec) : Cond := if m.2.2.2.2 = [] then Cond.code m.1 m.2.1 m.2.2.1 m.2.2.2.1 else Cond.codeWith m.1 m.2.1 m.2.2.1 m.2.2.2.1 m.2.2.2.2
abbrev Out : Type := Option Value ⊕ String
def Mono (M M' : Mem) : Prop := mK M ≤ mK M' ∧ mS M ≤ mS M' ∧ (∀ k, mC M k ≤ mC M' k) ∧ mN M' 27 0 = mN M 27 0 ∧ mI M' 27 0 = mI M 27 0
def Ext (φ φ' : Nat → Nat) (M : Mem) : Prop := (∀ k i, KO k → i < mC M k → φ' (rf k i) = φ (rf k i)) ∧ ∀ k i, ¬ KO k → k < 64 → φ' (rf k i) = φ (rf k i)
theorem Mono.rf (M : Mem) : Mono M M := ⟨Nat.le_refl _, Nat.le_refl _, fun _ => Nat.le_refl _, rfl, rfl⟩
theorem Mono.tr {M M' M'' : Mem} (h : Mono M M') (h2 : Mono M' M'') : Mono M M'' := ⟨Nat.le_trans h.1 h2.1, Nat.le_trans h.2.1 h2.2.1, fun k => Nat.le_trans (h.2.2.1 k) (h2.2.2.1 k), h2.2.2.2.1.trans h.2.2.2.1, h2.2.2.2.2.trans h.2.2.2.2⟩
theorem Ext.rf (φ : Nat → Nat) (M : Mem) : Ext φ φ M := ⟨fun _ _ _ _ => rfl, fun _ _ _ _ => rfl⟩
theorem Ext.tr {φ φ' φ'' : Nat → Nat} {M M' : Mem} (hm : Mono M M') (h : Ext φ φ' M) (h2 : Ext φ' φ'' M') : Ext φ φ'' M :=
  ⟨fun k i hk hi => (h2.1 k i hk (Nat.lt_of_lt_of_le hi (hm.2.2.1 k))).trans (h.1 k i hk hi), fun k i h1 h3 => (h2.2 k i h1 h3).trans (h.2 k i h1 h3)⟩
theorem VA.mono {M M' : Mem} {a : Nat} (hm : Mono M M') (h : VA M a) : VA M' a := fun hk => Nat.lt_of_lt_of_le (h hk) (hm.2.2.1 _)
theorem VOk.mono {M M' : Mem} {v : Value} (hm : Mono M M') (h : VOk M v) : VOk M' v := fun a e => (h a e).mono hm
theorem cv_ext {φ φ' : Nat → Nat} {M : Mem} {v : Value} (he : Ext φ φ' M) (h : VOk M v) : cv φ' v = cv φ v := by
  cases v with
  | ref a =>
    have e : φ' a = φ a := by
      have h1 := h a rfl
      rw [← rf_kx a]
      by_cases hk : KO (kd a)
      · exact he.1 _ _ hk (h1 hk)
      · exact he.2 _ _ hk (kd_lt a)
    simp only [cv, e]
  | _ => rfl
theorem VOk.int (M : Mem) (x : Int32) : VOk M (.int x) := fun _ h => nomatch h
theorem VOk.long (M : Mem) (x : Int64) : VOk M (.long x) := fun _ h => nomatch h
theorem VOk.float (M : Mem) (x : UInt32) : VOk M (.float x) := fun _ h => nomatch h
theorem VOk.double (M : Mem) (x : UInt64) : VOk M (.double x) := fun _ h => nomatch h
theorem VOk.null (M : Mem) : VOk M .null := fun _ h => nomatch h
theorem cv_rf {φ : Nat → Nat} {k i : Nat} (h : k < 29) : cv φ (.ref (rf k i)) = .ref (φ (rf k i)) := by
  simp only [cv, kd_rf k i (by omega)]
  rw [if_neg (by omega)]
theorem cv_rg {φ : Nat → Nat} {k i : Nat} (h : k < 64 ∧ k ≠ 29) : cv φ (.ref (rf k i)) = .ref (φ (rf k i)) := by
  simp only [cv, kd_rf k i h.1]
  rw [if_neg h.2]
theorem kq_lt {k : Nat} {q : vw_C} (h : kq k = some q) : k < 13 ∨ 32 ≤ k ∧ k < 37 := by
  have h1 : kx k < 18 := (List.getElem?_eq_some_iff.mp h).1
  unfold kx at h1
  split at h1
  · omega
  · split at h1 <;> omega
theorem kq_KO {k : Nat} {q : vw_C} (h : kq k = some q) : KO k := by have := kq_lt h; omega
theorem cv_cat (φ : Nat → Nat) (v : Value) : (cv φ v).category = v.category := by
  cases v with
  | ref a =>
    simp only [cv]
    split
    · split <;> rfl
    · rfl
  | _ => rfl
theorem rf_cat (o : Option Nat) : (va_rf o).category = 1 := by cases o <;> rfl
