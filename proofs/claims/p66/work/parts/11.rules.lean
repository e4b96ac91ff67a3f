/-! rows: one instruction each; those that leave the heap -/
def rfv : Value → Bool
  | .null => true
  | .ref _ => true
  | _ => false
theorem rfv_rf (x : Option Nat) : rfv (va_rf x) = true := by cases x <;> rfl
theorem ok_c {M : Mem} {v : Value} {st : List Value} (h : VOk M v) (hs : ∀ w ∈ st, VOk M w) : ∀ w ∈ v :: st, VOk M w := by
  intro w hw
  rcases List.mem_cons.mp hw with rfl | hw
  · exact h
  · exact hs w hw
theorem ok_t {M : Mem} {v : Value} {st : List Value} (hs : ∀ w ∈ v :: st, VOk M w) : ∀ w ∈ st, VOk M w := fun w hw => hs w (List.mem_cons_of_mem _ hw)
theorem ok_h {M : Mem} {v : Value} {st : List Value} (hs : ∀ w ∈ v :: st, VOk M w) : VOk M v := hs v List.mem_cons_self
theorem ok_g {M : Mem} {v : Value} {st : List Value} {k : Nat} (hs : ∀ w ∈ st, VOk M w) (h : st[k]? = some v) : VOk M v := hs v (List.mem_of_getElem? h)
theorem ok_set {M : Mem} {v : Value} {st : List Value} {k : Nat} (hs : ∀ w ∈ st, VOk M w) (h : VOk M v) : ∀ w ∈ st.set k v, VOk M w := by
  intro w hw
  rcases List.mem_or_eq_of_mem_set hw with hw | rfl
  · exact hs w hw
  · exact h
theorem cv_nr {φ : Nat → Nat} {v : Value} (h : rfv v = true) : cv φ v = .null ∨ ∃ b, cv φ v = .ref b := by
  cases v with
  | null => exact Or.inl rfl
  | ref a => exact cv_ref_or
  | _ => cases h
theorem kn_rfv {v : Value} (h : rfv v = true) : kn v = true := by cases v <;> first | rfl | cases h
theorem cat_rfv {v : Value} (h : rfv v = true) : v.category = 1 := by cases v <;> first | rfl | cases h
section RW
variable {m : MRec} {d pc : Nat} {ls st : List Value} {M : Mem} {Q : Out → Mem → Prop}
theorem R.iadd {x y : Int32} (hd : decode m.2.1 pc = .ok (.iadd, 1))  (k : WP m d (pc + 1) ls (.int (x + y) :: st) M Q) : WP m d pc ls (.int y :: .int x :: st) M Q :=
  WP.pure k (fun _ hl hs => ⟨hl, ok_c (VOk.int _ _) (ok_t (ok_t hs))⟩) (fun p l e R s mid args below meth c D cA A Qg hc φ H locs cells slots lsA hiv hlv hls hst kk => lv_iadd hc.1 hc.2.1 hd  (kk lsA hlv))
theorem R.isub {x y : Int32} (hd : decode m.2.1 pc = .ok (.isub, 1))  (k : WP m d (pc + 1) ls (.int (x - y) :: st) M Q) : WP m d pc ls (.int y :: .int x :: st) M Q :=
  WP.pure k (fun _ hl hs => ⟨hl, ok_c (VOk.int _ _) (ok_t (ok_t hs))⟩) (fun p l e R s mid args below meth c D cA A Qg hc φ H locs cells slots lsA hiv hlv hls hst kk => lv_isub hc.1 hc.2.1 hd  (kk lsA hlv))
theorem R.imul {x y : Int32} (hd : decode m.2.1 pc = .ok (.imul, 1))  (k : WP m d (pc + 1) ls (.int (x * y) :: st) M Q) : WP m d pc ls (.int y :: .int x :: st) M Q :=
  WP.pure k (fun _ hl hs => ⟨hl, ok_c (VOk.int _ _) (ok_t (ok_t hs))⟩) (fun p l e R s mid args below meth c D cA A Qg hc φ H locs cells slots lsA hiv hlv hls hst kk => lv_imul hc.1 hc.2.1 hd  (kk lsA hlv))
theorem R.iand {x y : Int32} (hd : decode m.2.1 pc = .ok (.iand, 1))  (k : WP m d (pc + 1) ls (.int (x &&& y) :: st) M Q) : WP m d pc ls (.int y :: .int x :: st) M Q :=
  WP.pure k (fun _ hl hs => ⟨hl, ok_c (VOk.int _ _) (ok_t (ok_t hs))⟩) (fun p l e R s mid args below meth c D cA A Qg hc φ H locs cells slots lsA hiv hlv hls hst kk => lv_iand hc.1 hc.2.1 hd  (kk lsA hlv))
theorem R.ior {x y : Int32} (hd : decode m.2.1 pc = .ok (.ior, 1))  (k : WP m d (pc + 1) ls (.int (x ||| y) :: st) M Q) : WP m d pc ls (.int y :: .int x :: st) M Q :=
  WP.pure k (fun _ hl hs => ⟨hl, ok_c (VOk.int _ _) (ok_t (ok_t hs))⟩) (fun p l e R s mid args below meth c D cA A Qg hc φ H locs cells slots lsA hiv hlv hls hst kk => lv_ior hc.1 hc.2.1 hd  (kk lsA hlv))
theorem R.ixor {x y : Int32} (hd : decode m.2.1 pc = .ok (.ixor, 1))  (k : WP m d (pc + 1) ls (.int (x ^^^ y) :: st) M Q) : WP m d pc ls (.int y :: .int x :: st) M Q :=
  WP.pure k (fun _ hl hs => ⟨hl, ok_c (VOk.int _ _) (ok_t (ok_t hs))⟩) (fun p l e R s mid args below meth c D cA A Qg hc φ H locs cells slots lsA hiv hlv hls hst kk => lv_ixor hc.1 hc.2.1 hd  (kk lsA hlv))
theorem R.ishl {x y : Int32} (hd : decode m.2.1 pc = .ok (.ishl, 1))  (k : WP m d (pc + 1) ls (.int (x <<< (y &&& 31)) :: st) M Q) : WP m d pc ls (.int y :: .int x :: st) M Q :=
  WP.pure k (fun _ hl hs => ⟨hl, ok_c (VOk.int _ _) (ok_t (ok_t hs))⟩) (fun p l e R s mid args below meth c D cA A Qg hc φ H locs cells slots lsA hiv hlv hls hst kk => lv_ishl hc.1 hc.2.1 hd  (kk lsA hlv))
theorem R.ishr {x y : Int32} (hd : decode m.2.1 pc = .ok (.ishr, 1))  (k : WP m d (pc + 1) ls (.int (x >>> (y &&& 31)) :: st) M Q) : WP m d pc ls (.int y :: .int x :: st) M Q :=
  WP.pure k (fun _ hl hs => ⟨hl, ok_c (VOk.int _ _) (ok_t (ok_t hs))⟩) (fun p l e R s mid args below meth c D cA A Qg hc φ H locs cells slots lsA hiv hlv hls hst kk => lv_ishr hc.1 hc.2.1 hd  (kk lsA hlv))
theorem R.idiv {x y : Int32} (hd : decode m.2.1 pc = .ok (.idiv, 1)) (hne : ¬ y = 0) (k : WP m d (pc + 1) ls (.int (x / y) :: st) M Q) : WP m d pc ls (.int y :: .int x :: st) M Q :=
  WP.pure k (fun _ hl hs => ⟨hl, ok_c (VOk.int _ _) (ok_t (ok_t hs))⟩) (fun p l e R s mid args below meth c D cA A Qg hc φ H locs cells slots lsA hiv hlv hls hst kk => lv_idiv hc.1 hc.2.1 hd hne (kk lsA hlv))
theorem R.irem {x y : Int32} (hd : decode m.2.1 pc = .ok (.irem, 1)) (hne : ¬ y = 0) (k : WP m d (pc + 1) ls (.int (x - x / y * y) :: st) M Q) : WP m d pc ls (.int y :: .int x :: st) M Q :=
  WP.pure k (fun _ hl hs => ⟨hl, ok_c (VOk.int _ _) (ok_t (ok_t hs))⟩) (fun p l e R s mid args below meth c D cA A Qg hc φ H locs cells slots lsA hiv hlv hls hst kk => lv_irem hc.1 hc.2.1 hd hne (kk lsA hlv))
theorem R.ineg {x : Int32} (hd : decode m.2.1 pc = .ok (.ineg, 1))  (k : WP m d (pc + 1) ls (.int (-x) :: st) M Q) : WP m d pc ls (.int x :: st) M Q :=
  WP.pure k (fun _ hl hs => ⟨hl, ok_c (VOk.int _ _) (ok_t hs)⟩) (fun p l e R s mid args below meth c D cA A Qg hc φ H locs cells slots lsA hiv hlv hls hst kk => lv_ineg hc.1 hc.2.1 hd  (kk lsA hlv))
theorem R.i2l {x : Int32} (hd : decode m.2.1 pc = .ok (.i2l, 1))  (k : WP m d (pc + 1) ls (.long (x.toInt64) :: st) M Q) : WP m d pc ls (.int x :: st) M Q :=
  WP.pure k (fun _ hl hs => ⟨hl, ok_c (VOk.long _ _) (ok_t hs)⟩) (fun p l e R s mid args below meth c D cA A Qg hc φ H locs cells slots lsA hiv hlv hls hst kk => lv_i2l hc.1 hc.2.1 hd rfl (kk lsA hlv))
theorem R.l2i {x : Int64} (hd : decode m.2.1 pc = .ok (.l2i, 1))  (k : WP m d (pc + 1) ls (.int (x.toInt32) :: st) M Q) : WP m d pc ls (.long x :: st) M Q :=
  WP.pure k (fun _ hl hs => ⟨hl, ok_c (VOk.int _ _) (ok_t hs)⟩) (fun p l e R s mid args below meth c D cA A Qg hc φ H locs cells slots lsA hiv hlv hls hst kk => lv_l2i hc.1 hc.2.1 hd rfl (kk lsA hlv))
theorem R.i2b {x : Int32} (hd : decode m.2.1 pc = .ok (.i2b, 1))  (k : WP m d (pc + 1) ls (.int (x.toInt8.toInt32) :: st) M Q) : WP m d pc ls (.int x :: st) M Q :=
  WP.pure k (fun _ hl hs => ⟨hl, ok_c (VOk.int _ _) (ok_t hs)⟩) (fun p l e R s mid args below meth c D cA A Qg hc φ H locs cells slots lsA hiv hlv hls hst kk => lv_i2b hc.1 hc.2.1 hd rfl (kk lsA hlv))
theorem R.i2c {x : Int32} (hd : decode m.2.1 pc = .ok (.i2c, 1))  (k : WP m d (pc + 1) ls (.int ((x.toUInt32 % 65536).toInt32) :: st) M Q) : WP m d pc ls (.int x :: st) M Q :=
  WP.pure k (fun _ hl hs => ⟨hl, ok_c (VOk.int _ _) (ok_t hs)⟩) (fun p l e R s mid args below meth c D cA A Qg hc φ H locs cells slots lsA hiv hlv hls hst kk => lv_i2c hc.1 hc.2.1 hd rfl (kk lsA hlv))
theorem R.i2f {x : Int32} (hd : decode m.2.1 pc = .ok (.i2f, 1))  (k : WP m d (pc + 1) ls (.float (FP.i2f x) :: st) M Q) : WP m d pc ls (.int x :: st) M Q :=
  WP.pure k (fun _ hl hs => ⟨hl, ok_c (VOk.float _ _) (ok_t hs)⟩) (fun p l e R s mid args below meth c D cA A Qg hc φ H locs cells slots lsA hiv hlv hls hst kk => lv_i2f hc.1 hc.2.1 hd  (kk lsA hlv))
theorem R.i2d {x : Int32} (hd : decode m.2.1 pc = .ok (.i2d, 1))  (k : WP m d (pc + 1) ls (.double (FP.i2d x) :: st) M Q) : WP m d pc ls (.int x :: st) M Q :=
  WP.pure k (fun _ hl hs => ⟨hl, ok_c (VOk.double _ _) (ok_t hs)⟩) (fun p l e R s mid args below meth c D cA A Qg hc φ H locs cells slots lsA hiv hlv hls hst kk => lv_i2d hc.1 hc.2.1 hd  (kk lsA hlv))
theorem R.l2d {x : Int64} (hd : decode m.2.1 pc = .ok (.l2d, 1))  (k : WP m d (pc + 1) ls (.double (FP.l2d x) :: st) M Q) : WP m d pc ls (.long x :: st) M Q :=
  WP.pure k (fun _ hl hs => ⟨hl, ok_c (VOk.double _ _) (ok_t hs)⟩) (fun p l e R s mid args below meth c D cA A Qg hc φ H locs cells slots lsA hiv hlv hls hst kk => lv_l2d hc.1 hc.2.1 hd  (kk lsA hlv))
theorem R.f2d {x : UInt32} (hd : decode m.2.1 pc = .ok (.f2d, 1)) (hne : vf_n64 (FP.f2d x)) (k : WP m d (pc + 1) ls (.double (FP.f2d x) :: st) M Q) : WP m d pc ls (.float x :: st) M Q :=
  WP.pure k (fun _ hl hs => ⟨hl, ok_c (VOk.double _ _) (ok_t hs)⟩) (fun p l e R s mid args below meth c D cA A Qg hc φ H locs cells slots lsA hiv hlv hls hst kk => lv_f2d hc.1 hc.2.1 hd hne (kk lsA hlv))
theorem R.ddiv {x y : UInt64} (hd : decode m.2.1 pc = .ok (.ddiv, 1)) (hne : vf_n64 (FP.ddiv x y)) (k : WP m d (pc + 1) ls (.double (FP.ddiv x y) :: st) M Q) : WP m d pc ls (.double y :: .double x :: st) M Q :=
  WP.pure k (fun _ hl hs => ⟨hl, ok_c (VOk.double _ _) (ok_t (ok_t hs))⟩) (fun p l e R s mid args below meth c D cA A Qg hc φ H locs cells slots lsA hiv hlv hls hst kk => lv_ddiv hc.1 hc.2.1 hd hne (kk lsA hlv))
theorem R.fdiv {x y : UInt32} (hd : decode m.2.1 pc = .ok (.fdiv, 1)) (hne : vf_n32 (FP.fdiv x y)) (k : WP m d (pc + 1) ls (.float (FP.fdiv x y) :: st) M Q) : WP m d pc ls (.float y :: .float x :: st) M Q :=
  WP.pure k (fun _ hl hs => ⟨hl, ok_c (VOk.float _ _) (ok_t (ok_t hs))⟩) (fun p l e R s mid args below meth c D cA A Qg hc φ H locs cells slots lsA hiv hlv hls hst kk => lv_fdiv hc.1 hc.2.1 hd hne (kk lsA hlv))
theorem R.dcmp {x y : UInt64} {op : CmpOp} (hd : decode m.2.1 pc = .ok (.dcmp op, 1))  (k : WP m d (pc + 1) ls (.int (Op.cmpValue (FP.dcmp x y) op) :: st) M Q) : WP m d pc ls (.double y :: .double x :: st) M Q :=
  WP.pure k (fun _ hl hs => ⟨hl, ok_c (VOk.int _ _) (ok_t (ok_t hs))⟩) (fun p l e R s mid args below meth c D cA A Qg hc φ H locs cells slots lsA hiv hlv hls hst kk => lv_dcmp hc.1 hc.2.1 hd  (kk lsA hlv))
theorem R.ladd {x y : Int64} (hd : decode m.2.1 pc = .ok (.ladd, 1))  (k : WP m d (pc + 1) ls (.long (x + y) :: st) M Q) : WP m d pc ls (.long y :: .long x :: st) M Q :=
  WP.pure k (fun _ hl hs => ⟨hl, ok_c (VOk.long _ _) (ok_t (ok_t hs))⟩) (fun p l e R s mid args below meth c D cA A Qg hc φ H locs cells slots lsA hiv hlv hls hst kk => lv_ladd hc.1 hc.2.1 hd  (kk lsA hlv))
theorem R.lsub {x y : Int64} (hd : decode m.2.1 pc = .ok (.lsub, 1))  (k : WP m d (pc + 1) ls (.long (x - y) :: st) M Q) : WP m d pc ls (.long y :: .long x :: st) M Q :=
  WP.pure k (fun _ hl hs => ⟨hl, ok_c (VOk.long _ _) (ok_t (ok_t hs))⟩) (fun p l e R s mid args below meth c D cA A Qg hc φ H locs cells slots lsA hiv hlv hls hst kk => lv_lsub hc.1 hc.2.1 hd  (kk lsA hlv))
theorem R.lmul {x y : Int64} (hd : decode m.2.1 pc = .ok (.lmul, 1))  (k : WP m d (pc + 1) ls (.long (x * y) :: st) M Q) : WP m d pc ls (.long y :: .long x :: st) M Q :=
  WP.pure k (fun _ hl hs => ⟨hl, ok_c (VOk.long _ _) (ok_t (ok_t hs))⟩) (fun p l e R s mid args below meth c D cA A Qg hc φ H locs cells slots lsA hiv hlv hls hst kk => lv_lmul hc.1 hc.2.1 hd  (kk lsA hlv))
theorem R.lxor {x y : Int64} (hd : decode m.2.1 pc = .ok (.lxor, 1))  (k : WP m d (pc + 1) ls (.long (x ^^^ y) :: st) M Q) : WP m d pc ls (.long y :: .long x :: st) M Q :=
  WP.pure k (fun _ hl hs => ⟨hl, ok_c (VOk.long _ _) (ok_t (ok_t hs))⟩) (fun p l e R s mid args below meth c D cA A Qg hc φ H locs cells slots lsA hiv hlv hls hst kk => lv_lxor hc.1 hc.2.1 hd  (kk lsA hlv))
theorem R.ldiv {x y : Int64} (hd : decode m.2.1 pc = .ok (.ldiv, 1)) (hne : ¬ y = 0) (k : WP m d (pc + 1) ls (.long (x / y) :: st) M Q) : WP m d pc ls (.long y :: .long x :: st) M Q :=
  WP.pure k (fun _ hl hs => ⟨hl, ok_c (VOk.long _ _) (ok_t (ok_t hs))⟩) (fun p l e R s mid args below meth c D cA A Qg hc φ H locs cells slots lsA hiv hlv hls hst kk => lv_ldiv hc.1 hc.2.1 hd hne (kk lsA hlv))
theorem R.lcmp {x y : Int64} (hd : decode m.2.1 pc = .ok (.lcmp, 1))  (k : WP m d (pc + 1) ls (.int (lg_cmp x y) :: st) M Q) : WP m d pc ls (.long y :: .long x :: st) M Q :=
  WP.pure k (fun _ hl hs => ⟨hl, ok_c (VOk.int _ _) (ok_t (ok_t hs))⟩) (fun p l e R s mid args below meth c D cA A Qg hc φ H locs cells slots lsA hiv hlv hls hst kk => W.lcmp hc.1 hc.2.1 hd  (kk lsA hlv))
theorem R.iconst {n : Int} {v : Int32} (hd : decode m.2.1 pc = .ok (.iconst n, 1)) (hv : Int32.ofInt n = v) (k : WP m d (pc + 1) ls (.int v :: st) M Q) : WP m d pc ls (st) M Q :=
  WP.pure k (fun _ hl hs => ⟨hl, ok_c (VOk.int _ _) (hs)⟩) (fun p l e R s mid args below meth c D cA A Qg hc φ H locs cells slots lsA hiv hlv hls hst kk => lv_iconst hc.1 hc.2.1 hd hv (kk lsA hlv))
theorem R.bipush {n : Int} {v : Int32} (hd : decode m.2.1 pc = .ok (.bipush n, 2)) (hv : (Int8.ofInt n).toInt32 = v) (k : WP m d (pc + 2) ls (.int v :: st) M Q) : WP m d pc ls (st) M Q :=
  WP.pure k (fun _ hl hs => ⟨hl, ok_c (VOk.int _ _) (hs)⟩) (fun p l e R s mid args below meth c D cA A Qg hc φ H locs cells slots lsA hiv hlv hls hst kk => lv_bipush hc.1 hc.2.1 hd hv (kk lsA hlv))
theorem R.sipush {n : Int} {v : Int32} (hd : decode m.2.1 pc = .ok (.sipush n, 3)) (hv : (Int16.ofInt n).toInt32 = v) (k : WP m d (pc + 3) ls (.int v :: st) M Q) : WP m d pc ls (st) M Q :=
  WP.pure k (fun _ hl hs => ⟨hl, ok_c (VOk.int _ _) (hs)⟩) (fun p l e R s mid args below meth c D cA A Qg hc φ H locs cells slots lsA hiv hlv hls hst kk => lv_sipush hc.1 hc.2.1 hd hv (kk lsA hlv))
theorem R.lconst {n : Fin 2} {v : Int64} (hd : decode m.2.1 pc = .ok (.lconst n, 1)) (hv : Int64.ofNat (n : Nat) = v) (k : WP m d (pc + 1) ls (.long v :: st) M Q) : WP m d pc ls (st) M Q :=
  WP.pure k (fun _ hl hs => ⟨hl, ok_c (VOk.long _ _) (hs)⟩) (fun p l e R s mid args below meth c D cA A Qg hc φ H locs cells slots lsA hiv hlv hls hst kk => lv_lconst hc.1 hc.2.1 hd hv (kk lsA hlv))
theorem R.fconst0  (hd : decode m.2.1 pc = .ok (.fconst 0, 1))  (k : WP m d (pc + 1) ls (.float (0) :: st) M Q) : WP m d pc ls (st) M Q :=
  WP.pure k (fun _ hl hs => ⟨hl, ok_c (VOk.float _ _) (hs)⟩) (fun p l e R s mid args below meth c D cA A Qg hc φ H locs cells slots lsA hiv hlv hls hst kk => lv_fconst0 hc.1 hc.2.1 hd  (kk lsA hlv))
theorem R.dconst0  (hd : decode m.2.1 pc = .ok (.dconst 0, 1))  (k : WP m d (pc + 1) ls (.double (0) :: st) M Q) : WP m d pc ls (st) M Q :=
  WP.pure k (fun _ hl hs => ⟨hl, ok_c (VOk.double _ _) (hs)⟩) (fun p l e R s mid args below meth c D cA A Qg hc φ H locs cells slots lsA hiv hlv hls hst kk => lv_dconst0 hc.1 hc.2.1 hd  (kk lsA hlv))
theorem R.ldc {idx : Nat} {v : Int32} (hd : decode m.2.1 pc = .ok (.ldc idx, 2)) (hw : Cond.constant m.1.cls idx v ∈ gtbl) (k : WP m d (pc + 2) ls (.int v :: st) M Q) : WP m d pc ls st M Q :=
  WP.pure k (fun _ hl hs => ⟨hl, ok_c (VOk.int _ _) hs⟩) (fun p l e R s mid args below meth c D cA A Qg hc φ H locs cells slots lsA hiv hlv hls hst kk => lv_ldc hc.1 hc.2.1 hc.2.2.2.2.1 (hc.2.2.2.2.2.1 _ hw) hd (kk lsA hlv))
theorem R.ldcw {idx : Nat} {v : Int32} (hd : decode m.2.1 pc = .ok (.ldc_w idx, 3)) (hw : Cond.constant m.1.cls idx v ∈ gtbl) (k : WP m d (pc + 3) ls (.int v :: st) M Q) : WP m d pc ls st M Q :=
  WP.pure k (fun _ hl hs => ⟨hl, ok_c (VOk.int _ _) hs⟩) (fun p l e R s mid args below meth c D cA A Qg hc φ H locs cells slots lsA hiv hlv hls hst kk => lv_ldcw hc.1 hc.2.1 hc.2.2.2.2.1 (hc.2.2.2.2.2.1 _ hw) hd (kk lsA hlv))
theorem R.ldc2 {idx : Nat} {v : Int64} (hd : decode m.2.1 pc = .ok (.ldc2_w idx, 3)) (hw : Cond.constantLong m.1.cls idx v ∈ gtbl) (k : WP m d (pc + 3) ls (.long v :: st) M Q) : WP m d pc ls st M Q :=
  WP.pure k (fun _ hl hs => ⟨hl, ok_c (VOk.long _ _) hs⟩) (fun p l e R s mid args below meth c D cA A Qg hc φ H locs cells slots lsA hiv hlv hls hst kk => lv_ldc2 hc.1 hc.2.1 hc.2.2.2.2.1 (hc.2.2.2.2.2.1 _ hw) hd (kk lsA hlv))
theorem R.ldc2d {idx : Nat} {v : UInt64} (hd : decode m.2.1 pc = .ok (.ldc2_w idx, 3)) (hw : Cond.constantDouble m.1.cls idx v ∈ gtbl) (k : WP m d (pc + 3) ls (.double v :: st) M Q) : WP m d pc ls st M Q :=
  WP.pure k (fun _ hl hs => ⟨hl, ok_c (VOk.double _ _) hs⟩) (fun p l e R s mid args below meth c D cA A Qg hc φ H locs cells slots lsA hiv hlv hls hst kk => lv_ldc2d hc.1 hc.2.1 hc.2.2.2.2.1 (hc.2.2.2.2.2.1 _ hw) hd (kk lsA hlv))
theorem R.null (hd : decode m.2.1 pc = .ok (.aconst_null, 1)) (k : WP m d (pc + 1) ls (.null :: st) M Q) : WP m d pc ls st M Q :=
  WP.pure k (fun _ hl hs => ⟨hl, ok_c (VOk.null _) hs⟩) (fun p l e R s mid args below meth c D cA A Qg hc φ H locs cells slots lsA hiv hlv hls hst kk => lv_null hc.1 hc.2.1 hd (kk lsA hlv))
theorem R.pop {v : Value} (hd : decode m.2.1 pc = .ok (.pop, 1)) (hv : v.category = 1) (k : WP m d (pc + 1) ls st M Q) : WP m d pc ls (v :: st) M Q :=
  WP.pure k (fun _ hl hs => ⟨hl, ok_t hs⟩) (fun p l e R s mid args below meth c D cA A Qg hc φ H locs cells slots lsA hiv hlv hls hst kk => lv_pop hc.1 hc.2.1 hd ((cv_cat φ v).trans hv) (kk lsA hlv))
theorem R.dup {v : Value} (hd : decode m.2.1 pc = .ok (.dup, 1)) (hv : v.category = 1) (k : WP m d (pc + 1) ls (v :: v :: st) M Q) : WP m d pc ls (v :: st) M Q :=
  WP.pure k (fun _ hl hs => ⟨hl, ok_c (ok_h hs) hs⟩) (fun p l e R s mid args below meth c D cA A Qg hc φ H locs cells slots lsA hiv hlv hls hst kk => lv_dup hc.1 hc.2.1 hd ((cv_cat φ v).trans hv) (kk lsA hlv))
theorem R.dup2 {v w : Value} (hd : decode m.2.1 pc = .ok (.dup2, 1)) (hv : v.category = 1) (hw : w.category = 1) (k : WP m d (pc + 1) ls (v :: w :: v :: w :: st) M Q) : WP m d pc ls (v :: w :: st) M Q :=
  WP.pure k (fun _ hl hs => ⟨hl, ok_c (ok_h hs) (ok_c (ok_h (ok_t hs)) hs)⟩) (fun p l e R s mid args below meth c D cA A Qg hc φ H locs cells slots lsA hiv hlv hls hst kk => lv_dup2_11 hc.1 hc.2.1 hd ((cv_cat φ v).trans hv) ((cv_cat φ w).trans hw) (kk lsA hlv))
theorem R.dup_x1 {v w : Value} (hd : decode m.2.1 pc = .ok (.dup_x1, 1)) (hv : v.category = 1) (hw : w.category = 1) (k : WP m d (pc + 1) ls (v :: w :: v :: st) M Q) : WP m d pc ls (v :: w :: st) M Q :=
  WP.pure k (fun _ hl hs => ⟨hl, ok_c (ok_h hs) (ok_c (ok_h (ok_t hs)) (ok_c (ok_h hs) (ok_t (ok_t hs))))⟩) (fun p l e R s mid args below meth c D cA A Qg hc φ H locs cells slots lsA hiv hlv hls hst kk => lv_dup_x1 hc.1 hc.2.1 hd ((cv_cat φ v).trans hv) ((cv_cat φ w).trans hw) (kk lsA hlv))
theorem R.iload_n {k : Fin 4} {x : Int32} (hd : decode m.2.1 pc = .ok (.iload_n k, 1)) (hl : ls[(k : Nat)]? = some (.int x)) (kn9 : WP m d (pc + 1) ls (.int x :: st) M Q) : WP m d pc ls st M Q :=
  WP.pure kn9 (fun _ hl hs => ⟨hl, ok_c (VOk.int _ _) hs⟩) (fun p l e R s mid args below meth c D cA A Qg hc φ H locs cells slots lsA hiv hlv hls hst kk => lv_iload_n hc.1 hc.2.1 hd rfl (lp_get hlv hl rfl) (kk lsA hlv))
theorem R.iload {i : Nat} {x : Int32} (hd : decode m.2.1 pc = .ok (.iload i, 2)) (hl : ls[i]? = some (.int x)) (kn9 : WP m d (pc + 2) ls (.int x :: st) M Q) : WP m d pc ls st M Q :=
  WP.pure kn9 (fun _ hl hs => ⟨hl, ok_c (VOk.int _ _) hs⟩) (fun p l e R s mid args below meth c D cA A Qg hc φ H locs cells slots lsA hiv hlv hls hst kk => lv_iload hc.1 hc.2.1 hd (lp_get hlv hl rfl) (kk lsA hlv))
theorem R.lload_n {k : Fin 4} {x : Int64} (hd : decode m.2.1 pc = .ok (.lload_n k, 1)) (hl : ls[(k : Nat)]? = some (.long x)) (kn9 : WP m d (pc + 1) ls (.long x :: st) M Q) : WP m d pc ls st M Q :=
  WP.pure kn9 (fun _ hl hs => ⟨hl, ok_c (VOk.long _ _) hs⟩) (fun p l e R s mid args below meth c D cA A Qg hc φ H locs cells slots lsA hiv hlv hls hst kk => lv_lload_n hc.1 hc.2.1 hd rfl (lp_get hlv hl rfl) (kk lsA hlv))
theorem R.lload {i : Nat} {x : Int64} (hd : decode m.2.1 pc = .ok (.lload i, 2)) (hl : ls[i]? = some (.long x)) (kn9 : WP m d (pc + 2) ls (.long x :: st) M Q) : WP m d pc ls st M Q :=
  WP.pure kn9 (fun _ hl hs => ⟨hl, ok_c (VOk.long _ _) hs⟩) (fun p l e R s mid args below meth c D cA A Qg hc φ H locs cells slots lsA hiv hlv hls hst kk => lv_lload hc.1 hc.2.1 hd (lp_get hlv hl rfl) (kk lsA hlv))
theorem R.dload {i : Nat} {x : UInt64} (hd : decode m.2.1 pc = .ok (.dload i, 2)) (hl : ls[i]? = some (.double x)) (kn9 : WP m d (pc + 2) ls (.double x :: st) M Q) : WP m d pc ls st M Q :=
  WP.pure kn9 (fun _ hl hs => ⟨hl, ok_c (VOk.double _ _) hs⟩) (fun p l e R s mid args below meth c D cA A Qg hc φ H locs cells slots lsA hiv hlv hls hst kk => lv_dload hc.1 hc.2.1 hd (lp_get hlv hl rfl) (kk lsA hlv))
theorem R.aload_n {k : Fin 4} {v : Value} (hd : decode m.2.1 pc = .ok (.aload_n k, 1)) (hl : ls[(k : Nat)]? = some v) (hv : rfv v = true) (kn9 : WP m d (pc + 1) ls (v :: st) M Q) : WP m d pc ls st M Q :=
  WP.pure kn9 (fun _ h9 hs => ⟨h9, ok_c (ok_g h9 hl) hs⟩) (fun p l e R s mid args below meth c D cA A Qg hc φ H locs cells slots lsA hiv hlv hls hst kk => by
    have h1 := lp_get hlv hl (kn_rfv hv)
    have k1 := kk lsA hlv
    rw [List.map_cons] at k1
    rcases cv_nr (φ := φ) hv with h2 | ⟨b, h2⟩ <;> rw [h2] at h1 k1
    · exact lv_aload_nN hc.1 hc.2.1 hd rfl h1 k1
    · exact lv_aload_n hc.1 hc.2.1 hd rfl h1 k1)
theorem R.aload {i : Nat} {v : Value} (hd : decode m.2.1 pc = .ok (.aload i, 2)) (hl : ls[i]? = some v) (hv : rfv v = true) (kn9 : WP m d (pc + 2) ls (v :: st) M Q) : WP m d pc ls st M Q :=
  WP.pure kn9 (fun _ h9 hs => ⟨h9, ok_c (ok_g h9 hl) hs⟩) (fun p l e R s mid args below meth c D cA A Qg hc φ H locs cells slots lsA hiv hlv hls hst kk => by
    have h1 := lp_get hlv hl (kn_rfv hv)
    have k1 := kk lsA hlv
    rw [List.map_cons] at k1
    rcases cv_nr (φ := φ) hv with h2 | ⟨b, h2⟩ <;> rw [h2] at h1 k1
    · exact lv_aloadN hc.1 hc.2.1 hd h1 k1
    · exact lv_aload hc.1 hc.2.1 hd h1 k1)
/-- storing at a place whose left neighbour is no long -/
def lft (ls : List Value) : Nat → Bool
  | 0 => true
  | j + 1 => match ls[j]? with | some w => w.category == 1 | none => true
theorem st_sub1 {φ : Nat → Nat} {ls : List Value} {i : Nat} {v : Value} (hi : i < ls.length) (hp : lft ls i = true) : ∀ q ∈ lp φ 0 (ls.set i v), q ∈ (i, cv φ v) :: (lp φ 0 ls).filter (fun q => !(q.1 == i) && !(q.1 + 1 == i && q.2.category == 2)) := by
  intro q hq
  obtain ⟨k, w, h1, h2, h3⟩ := lp_mem.mp hq
  by_cases hk : k = i
  · subst hk
    rw [List.getElem?_set_self hi] at h1
    cases h1
    rw [h3, Nat.zero_add]
    exact List.mem_cons_self
  · rw [List.getElem?_set_ne (Ne.symm hk)] at h1
    refine List.mem_cons_of_mem _ (List.mem_filter.mpr ⟨lp_mem.mpr ⟨k, w, h1, h2, h3⟩, ?_⟩)
    have e1 : q.1 = k := by rw [h3]; simp
    have e2 : q.2.category = w.category := by rw [h3]; exact cv_cat φ w
    rw [e1, e2]
    by_cases hk2 : k + 1 = i
    · subst hk2
      simp only [lft, h1] at hp
      have : w.category = 1 := by simpa using hp
      rw [this]
      simp
    · simp [hk, hk2]
theorem st_sub2 {φ : Nat → Nat} {ls : List Value} {i : Nat} {v : Value} (hi : i < ls.length) (hp : lft ls i = true) : ∀ q ∈ lp φ 0 ((ls.set i v).set (i + 1) UN), q ∈ (i, cv φ v) :: (lp φ 0 ls).filter (fun q => !(q.1 == i) && (!(q.1 == i + 1) && !(q.1 + 1 == i && q.2.category == 2))) := by
  intro q hq
  obtain ⟨k, w, h1, h2, h3⟩ := lp_mem.mp hq
  by_cases hk1 : k = i + 1
  · subst hk1
    have : w = UN := by
      by_cases hlt : i + 1 < (ls.set i v).length
      · rw [List.getElem?_set_self hlt] at h1
        exact (Option.some.inj h1).symm
      · rw [List.getElem?_eq_none (by simp at hlt ⊢; omega)] at h1
        cases h1
    rw [this] at h2
    cases h2
  · rw [List.getElem?_set_ne (Ne.symm hk1)] at h1
    by_cases hk : k = i
    · subst hk
      rw [List.getElem?_set_self hi] at h1
      cases h1
      rw [h3, Nat.zero_add]
      exact List.mem_cons_self
    · rw [List.getElem?_set_ne (Ne.symm hk)] at h1
      refine List.mem_cons_of_mem _ (List.mem_filter.mpr ⟨lp_mem.mpr ⟨k, w, h1, h2, h3⟩, ?_⟩)
      have e1 : q.1 = k := by rw [h3]; simp
      have e2 : q.2.category = w.category := by rw [h3]; exact cv_cat φ w
      rw [e1, e2]
      by_cases hk2 : k + 1 = i
      · subst hk2
        simp only [lft, h1] at hp
        have : w.category = 1 := by simpa using hp
        rw [this]
        simp
        omega
      · simp [hk, hk2, hk1]
theorem R.istore_n {k : Fin 4} {x : Int32} {ls' : List Value} (hd : decode m.2.1 pc = .ok (.istore_n k, 1)) (hi : (k : Nat) < ls.length) (hn : (k : Nat) < m.2.2.1) (hp : lft ls k = true) (he : ls.set k (.int x) = ls') (kn9 : WP m d (pc + 1) ls' st M Q) : WP m d pc ls (.int x :: st) M Q := by
  subst he
  exact WP.pure kn9 (fun _ hl hs => ⟨ok_set hl (VOk.int _ _), ok_t hs⟩) (fun p l e R s mid args below meth c D cA A Qg hc φ H locs cells slots lsA hiv hlv hls hst kk => lv_istore_n hc.1 hc.2.1 hd rfl hlv hn rfl fun lsB hB => kk lsB (has_sub hB (st_sub1 hi hp)))
theorem R.istore {i : Nat} {x : Int32} {ls' : List Value} (hd : decode m.2.1 pc = .ok (.istore i, 2)) (hi : i < ls.length) (hn : i < m.2.2.1) (hp : lft ls i = true) (he : ls.set i (.int x) = ls') (kn9 : WP m d (pc + 2) ls' st M Q) : WP m d pc ls (.int x :: st) M Q := by
  subst he
  exact WP.pure kn9 (fun _ hl hs => ⟨ok_set hl (VOk.int _ _), ok_t hs⟩) (fun p l e R s mid args below meth c D cA A Qg hc φ H locs cells slots lsA hiv hlv hls hst kk => lv_istore hc.1 hc.2.1 hd hlv hn rfl fun lsB hB => kk lsB (has_sub hB (st_sub1 hi hp)))
theorem R.iinc {i : Nat} {n : Int} {x v : Int32} {ls' : List Value} (hd : decode m.2.1 pc = .ok (.iinc i n, 3)) (hi : i < ls.length) (hn : i < m.2.2.1) (hp : lft ls i = true) (hx : ls[i]? = some (.int x)) (hv : x + Int32.ofInt n = v) (he : ls.set i (.int v) = ls') (kn9 : WP m d (pc + 3) ls' st M Q) : WP m d pc ls st M Q := by
  subst he
  exact WP.pure kn9 (fun _ hl hs => ⟨ok_set hl (VOk.int _ _), hs⟩) (fun p l e R s mid args below meth c D cA A Qg hc φ H locs cells slots lsA hiv hlv hls hst kk => by
    obtain ⟨k, hk⟩ := List.getElem?_of_mem (lp_mem.mpr ⟨i, .int x, hx, rfl, rfl⟩ : ((0 + i, cv φ (.int x)) : Nat × Value) ∈ lp φ 0 ls)
    rw [Nat.zero_add] at hk
    exact lv_iinc (k := k) (x := x) (v := v) hc.1 hc.2.1 hd hlv hk hv hn rfl fun lsB hB => kk lsB (has_sub hB (st_sub1 hi hp)))
theorem R.astore_n {k : Fin 4} {v : Value} {ls' : List Value} (hd : decode m.2.1 pc = .ok (.astore_n k, 1)) (hv : rfv v = true) (hi : (k : Nat) < ls.length) (hn : (k : Nat) < m.2.2.1) (hp : lft ls k = true) (he : ls.set k v = ls') (kn9 : WP m d (pc + 1) ls' st M Q) : WP m d pc ls (v :: st) M Q := by
  subst he
  exact WP.pure kn9 (fun _ hl hs => ⟨ok_set hl (ok_h hs), ok_t hs⟩) (fun p l e R s mid args below meth c D cA A Qg hc φ H locs cells slots lsA hiv hlv hls hst kk => by
    have hsub := st_sub1 (φ := φ) (v := v) hi hp
    rw [List.map_cons]
    rcases cv_nr (φ := φ) hv with h2 | ⟨b, h2⟩ <;> rw [h2] at hsub ⊢
    · exact lv_astore_nN hc.1 hc.2.1 hd rfl hlv hn rfl fun lsB hB => kk lsB (has_sub hB hsub)
    · exact lv_astore_n hc.1 hc.2.1 hd rfl hlv hn rfl fun lsB hB => kk lsB (has_sub hB hsub))
theorem R.astore {i : Nat} {v : Value} {ls' : List Value} (hd : decode m.2.1 pc = .ok (.astore i, 2)) (hv : rfv v = true) (hi : i < ls.length) (hn : i < m.2.2.1) (hp : lft ls i = true) (he : ls.set i v = ls') (kn9 : WP m d (pc + 2) ls' st M Q) : WP m d pc ls (v :: st) M Q := by
  subst he
  exact WP.pure kn9 (fun _ hl hs => ⟨ok_set hl (ok_h hs), ok_t hs⟩) (fun p l e R s mid args below meth c D cA A Qg hc φ H locs cells slots lsA hiv hlv hls hst kk => by
    have hsub := st_sub1 (φ := φ) (v := v) hi hp
    rw [List.map_cons]
    rcases cv_nr (φ := φ) hv with h2 | ⟨b, h2⟩ <;> rw [h2] at hsub ⊢
    · exact lv_astoreN hc.1 hc.2.1 hd hlv hn rfl fun lsB hB => kk lsB (has_sub hB hsub)
    · exact lv_astore hc.1 hc.2.1 hd hlv hn rfl fun lsB hB => kk lsB (has_sub hB hsub))
theorem R.lstore_n {k : Fin 4} {x : Int64} {ls' : List Value} (hd : decode m.2.1 pc = .ok (.lstore_n k, 1)) (hi : (k : Nat) < ls.length) (hn : (k : Nat) + 1 < m.2.2.1) (hp : lft ls k = true) (he : (ls.set k (.long x)).set (k + 1) UN = ls') (kn9 : WP m d (pc + 1) ls' st M Q) : WP m d pc ls (.long x :: st) M Q := by
  subst he
  exact WP.pure kn9 (fun _ hl hs => ⟨ok_set (ok_set hl (VOk.long _ _)) (fun _ h => nomatch h), ok_t hs⟩) (fun p l e R s mid args below meth c D cA A Qg hc φ H locs cells slots lsA hiv hlv hls hst kk => lv_lstore_n hc.1 hc.2.1 hd rfl hlv hn rfl fun lsB hB => kk lsB (has_sub hB (st_sub2 hi hp)))
theorem R.lstore {i : Nat} {x : Int64} {ls' : List Value} (hd : decode m.2.1 pc = .ok (.lstore i, 2)) (hi : i < ls.length) (hn : i + 1 < m.2.2.1) (hp : lft ls i = true) (he : (ls.set i (.long x)).set (i + 1) UN = ls') (kn9 : WP m d (pc + 2) ls' st M Q) : WP m d pc ls (.long x :: st) M Q := by
  subst he
  exact WP.pure kn9 (fun _ hl hs => ⟨ok_set (ok_set hl (VOk.long _ _)) (fun _ h => nomatch h), ok_t hs⟩) (fun p l e R s mid args below meth c D cA A Qg hc φ H locs cells slots lsA hiv hlv hls hst kk => lv_lstore hc.1 hc.2.1 hd hlv hn rfl fun lsB hB => kk lsB (has_sub hB (st_sub2 hi hp)))
theorem R.dstore {i : Nat} {x : UInt64} {ls' : List Value} (hd : decode m.2.1 pc = .ok (.dstore i, 2)) (hi : i < ls.length) (hn : i + 1 < m.2.2.1) (hp : lft ls i = true) (he : (ls.set i (.double x)).set (i + 1) UN = ls') (kn9 : WP m d (pc + 2) ls' st M Q) : WP m d pc ls (.double x :: st) M Q := by
  subst he
  exact WP.pure kn9 (fun _ hl hs => ⟨ok_set (ok_set hl (VOk.double _ _)) (fun _ h => nomatch h), ok_t hs⟩) (fun p l e R s mid args below meth c D cA A Qg hc φ H locs cells slots lsA hiv hlv hls hst kk => lv_dstore hc.1 hc.2.1 hd hlv hn rfl fun lsB hB => kk lsB (has_sub hB (st_sub2 hi hp)))
theorem R.if_eq {x : Int32} {off : Int} {tgt : Nat} (hd : decode m.2.1 pc = .ok (.ifCond .eq off, 3)) (ht : (pc : Int) + off = (tgt : Int)) (kt : x = 0 → WP m d tgt ls st M Q) (kf : ¬ x = 0 → WP m d (pc + 3) ls st M Q) : WP m d pc ls (.int x :: st) M Q := by
  by_cases h : x = 0
  · exact WP.pure (kt h) (fun _ hl hs => ⟨hl, ok_t hs⟩) (fun p l e R s mid args below meth c D cA A Qg hc φ H locs cells slots lsA hiv hlv hls hst kk => lv_if_eq hc.1 hc.2.1 hd ht (fun _ => kk lsA hlv) (fun hn => absurd h hn))
  · exact WP.pure (kf h) (fun _ hl hs => ⟨hl, ok_t hs⟩) (fun p l e R s mid args below meth c D cA A Qg hc φ H locs cells slots lsA hiv hlv hls hst kk => lv_if_eq hc.1 hc.2.1 hd ht (fun hn => absurd hn h) (fun _ => kk lsA hlv))
theorem R.if_ne {x : Int32} {off : Int} {tgt : Nat} (hd : decode m.2.1 pc = .ok (.ifCond .ne off, 3)) (ht : (pc : Int) + off = (tgt : Int)) (kt : ¬ x = 0 → WP m d tgt ls st M Q) (kf : x = 0 → WP m d (pc + 3) ls st M Q) : WP m d pc ls (.int x :: st) M Q := by
  by_cases h : x = 0
  · exact WP.pure (kf h) (fun _ hl hs => ⟨hl, ok_t hs⟩) (fun p l e R s mid args below meth c D cA A Qg hc φ H locs cells slots lsA hiv hlv hls hst kk => lv_if_ne hc.1 hc.2.1 hd ht (fun hn => absurd h hn) (fun _ => kk lsA hlv))
  · exact WP.pure (kt h) (fun _ hl hs => ⟨hl, ok_t hs⟩) (fun p l e R s mid args below meth c D cA A Qg hc φ H locs cells slots lsA hiv hlv hls hst kk => lv_if_ne hc.1 hc.2.1 hd ht (fun _ => kk lsA hlv) (fun hn => absurd hn h))
theorem R.if_lt {x : Int32} {off : Int} {tgt : Nat} (hd : decode m.2.1 pc = .ok (.ifCond .lt off, 3)) (ht : (pc : Int) + off = (tgt : Int)) (kt : x < 0 → WP m d tgt ls st M Q) (kf : ¬ x < 0 → WP m d (pc + 3) ls st M Q) : WP m d pc ls (.int x :: st) M Q := by
  by_cases h : x < 0
  · exact WP.pure (kt h) (fun _ hl hs => ⟨hl, ok_t hs⟩) (fun p l e R s mid args below meth c D cA A Qg hc φ H locs cells slots lsA hiv hlv hls hst kk => lv_if_lt hc.1 hc.2.1 hd ht (fun _ => kk lsA hlv) (fun hn => absurd h hn))
  · exact WP.pure (kf h) (fun _ hl hs => ⟨hl, ok_t hs⟩) (fun p l e R s mid args below meth c D cA A Qg hc φ H locs cells slots lsA hiv hlv hls hst kk => lv_if_lt hc.1 hc.2.1 hd ht (fun hn => absurd hn h) (fun _ => kk lsA hlv))
theorem R.if_ge {x : Int32} {off : Int} {tgt : Nat} (hd : decode m.2.1 pc = .ok (.ifCond .ge off, 3)) (ht : (pc : Int) + off = (tgt : Int)) (kt : 0 ≤ x → WP m d tgt ls st M Q) (kf : ¬ 0 ≤ x → WP m d (pc + 3) ls st M Q) : WP m d pc ls (.int x :: st) M Q := by
  by_cases h : 0 ≤ x
  · exact WP.pure (kt h) (fun _ hl hs => ⟨hl, ok_t hs⟩) (fun p l e R s mid args below meth c D cA A Qg hc φ H locs cells slots lsA hiv hlv hls hst kk => lv_if_ge hc.1 hc.2.1 hd ht (fun _ => kk lsA hlv) (fun hn => absurd h hn))
  · exact WP.pure (kf h) (fun _ hl hs => ⟨hl, ok_t hs⟩) (fun p l e R s mid args below meth c D cA A Qg hc φ H locs cells slots lsA hiv hlv hls hst kk => lv_if_ge hc.1 hc.2.1 hd ht (fun hn => absurd hn h) (fun _ => kk lsA hlv))
theorem R.if_gt {x : Int32} {off : Int} {tgt : Nat} (hd : decode m.2.1 pc = .ok (.ifCond .gt off, 3)) (ht : (pc : Int) + off = (tgt : Int)) (kt : 0 < x → WP m d tgt ls st M Q) (kf : ¬ 0 < x → WP m d (pc + 3) ls st M Q) : WP m d pc ls (.int x :: st) M Q := by
  by_cases h : 0 < x
  · exact WP.pure (kt h) (fun _ hl hs => ⟨hl, ok_t hs⟩) (fun p l e R s mid args below meth c D cA A Qg hc φ H locs cells slots lsA hiv hlv hls hst kk => lv_if_gt hc.1 hc.2.1 hd ht (fun _ => kk lsA hlv) (fun hn => absurd h hn))
  · exact WP.pure (kf h) (fun _ hl hs => ⟨hl, ok_t hs⟩) (fun p l e R s mid args below meth c D cA A Qg hc φ H locs cells slots lsA hiv hlv hls hst kk => lv_if_gt hc.1 hc.2.1 hd ht (fun hn => absurd hn h) (fun _ => kk lsA hlv))
theorem R.if_le {x : Int32} {off : Int} {tgt : Nat} (hd : decode m.2.1 pc = .ok (.ifCond .le off, 3)) (ht : (pc : Int) + off = (tgt : Int)) (kt : x ≤ 0 → WP m d tgt ls st M Q) (kf : ¬ x ≤ 0 → WP m d (pc + 3) ls st M Q) : WP m d pc ls (.int x :: st) M Q := by
  by_cases h : x ≤ 0
  · exact WP.pure (kt h) (fun _ hl hs => ⟨hl, ok_t hs⟩) (fun p l e R s mid args below meth c D cA A Qg hc φ H locs cells slots lsA hiv hlv hls hst kk => lv_if_le hc.1 hc.2.1 hd ht (fun _ => kk lsA hlv) (fun hn => absurd h hn))
  · exact WP.pure (kf h) (fun _ hl hs => ⟨hl, ok_t hs⟩) (fun p l e R s mid args below meth c D cA A Qg hc φ H locs cells slots lsA hiv hlv hls hst kk => lv_if_le hc.1 hc.2.1 hd ht (fun hn => absurd hn h) (fun _ => kk lsA hlv))
theorem R.icmp_eq {x y : Int32} {off : Int} {tgt : Nat} (hd : decode m.2.1 pc = .ok (.if_icmp .eq off, 3)) (ht : (pc : Int) + off = (tgt : Int)) (kt : x = y → WP m d tgt ls st M Q) (kf : ¬ x = y → WP m d (pc + 3) ls st M Q) : WP m d pc ls (.int y :: .int x :: st) M Q := by
  by_cases h : x = y
  · exact WP.pure (kt h) (fun _ hl hs => ⟨hl, ok_t (ok_t hs)⟩) (fun p l e R s mid args below meth c D cA A Qg hc φ H locs cells slots lsA hiv hlv hls hst kk => lv_icmp_eq hc.1 hc.2.1 hd ht (fun _ => kk lsA hlv) (fun hn => absurd h hn))
  · exact WP.pure (kf h) (fun _ hl hs => ⟨hl, ok_t (ok_t hs)⟩) (fun p l e R s mid args below meth c D cA A Qg hc φ H locs cells slots lsA hiv hlv hls hst kk => lv_icmp_eq hc.1 hc.2.1 hd ht (fun hn => absurd hn h) (fun _ => kk lsA hlv))
theorem R.icmp_ne {x y : Int32} {off : Int} {tgt : Nat} (hd : decode m.2.1 pc = .ok (.if_icmp .ne off, 3)) (ht : (pc : Int) + off = (tgt : Int)) (kt : ¬ x = y → WP m d tgt ls st M Q) (kf : x = y → WP m d (pc + 3) ls st M Q) : WP m d pc ls (.int y :: .int x :: st) M Q := by
  by_cases h : x = y
  · exact WP.pure (kf h) (fun _ hl hs => ⟨hl, ok_t (ok_t hs)⟩) (fun p l e R s mid args below meth c D cA A Qg hc φ H locs cells slots lsA hiv hlv hls hst kk => lv_icmp_ne hc.1 hc.2.1 hd ht (fun hn => absurd h hn) (fun _ => kk lsA hlv))
  · exact WP.pure (kt h) (fun _ hl hs => ⟨hl, ok_t (ok_t hs)⟩) (fun p l e R s mid args below meth c D cA A Qg hc φ H locs cells slots lsA hiv hlv hls hst kk => lv_icmp_ne hc.1 hc.2.1 hd ht (fun _ => kk lsA hlv) (fun hn => absurd hn h))
theorem R.icmp_lt {x y : Int32} {off : Int} {tgt : Nat} (hd : decode m.2.1 pc = .ok (.if_icmp .lt off, 3)) (ht : (pc : Int) + off = (tgt : Int)) (kt : x < y → WP m d tgt ls st M Q) (kf : ¬ x < y → WP m d (pc + 3) ls st M Q) : WP m d pc ls (.int y :: .int x :: st) M Q := by
  by_cases h : x < y
  · exact WP.pure (kt h) (fun _ hl hs => ⟨hl, ok_t (ok_t hs)⟩) (fun p l e R s mid args below meth c D cA A Qg hc φ H locs cells slots lsA hiv hlv hls hst kk => lv_icmp_lt hc.1 hc.2.1 hd ht (fun _ => kk lsA hlv) (fun hn => absurd h hn))
  · exact WP.pure (kf h) (fun _ hl hs => ⟨hl, ok_t (ok_t hs)⟩) (fun p l e R s mid args below meth c D cA A Qg hc φ H locs cells slots lsA hiv hlv hls hst kk => lv_icmp_lt hc.1 hc.2.1 hd ht (fun hn => absurd hn h) (fun _ => kk lsA hlv))
theorem R.icmp_ge {x y : Int32} {off : Int} {tgt : Nat} (hd : decode m.2.1 pc = .ok (.if_icmp .ge off, 3)) (ht : (pc : Int) + off = (tgt : Int)) (kt : y ≤ x → WP m d tgt ls st M Q) (kf : ¬ y ≤ x → WP m d (pc + 3) ls st M Q) : WP m d pc ls (.int y :: .int x :: st) M Q := by
  by_cases h : y ≤ x
  · exact WP.pure (kt h) (fun _ hl hs => ⟨hl, ok_t (ok_t hs)⟩) (fun p l e R s mid args below meth c D cA A Qg hc φ H locs cells slots lsA hiv hlv hls hst kk => lv_icmp_ge hc.1 hc.2.1 hd ht (fun _ => kk lsA hlv) (fun hn => absurd h hn))
  · exact WP.pure (kf h) (fun _ hl hs => ⟨hl, ok_t (ok_t hs)⟩) (fun p l e R s mid args below meth c D cA A Qg hc φ H locs cells slots lsA hiv hlv hls hst kk => lv_icmp_ge hc.1 hc.2.1 hd ht (fun hn => absurd hn h) (fun _ => kk lsA hlv))
theorem R.icmp_gt {x y : Int32} {off : Int} {tgt : Nat} (hd : decode m.2.1 pc = .ok (.if_icmp .gt off, 3)) (ht : (pc : Int) + off = (tgt : Int)) (kt : y < x → WP m d tgt ls st M Q) (kf : ¬ y < x → WP m d (pc + 3) ls st M Q) : WP m d pc ls (.int y :: .int x :: st) M Q := by
  by_cases h : y < x
  · exact WP.pure (kt h) (fun _ hl hs => ⟨hl, ok_t (ok_t hs)⟩) (fun p l e R s mid args below meth c D cA A Qg hc φ H locs cells slots lsA hiv hlv hls hst kk => lv_icmp_gt hc.1 hc.2.1 hd ht (fun _ => kk lsA hlv) (fun hn => absurd h hn))
  · exact WP.pure (kf h) (fun _ hl hs => ⟨hl, ok_t (ok_t hs)⟩) (fun p l e R s mid args below meth c D cA A Qg hc φ H locs cells slots lsA hiv hlv hls hst kk => lv_icmp_gt hc.1 hc.2.1 hd ht (fun hn => absurd hn h) (fun _ => kk lsA hlv))
theorem R.icmp_le {x y : Int32} {off : Int} {tgt : Nat} (hd : decode m.2.1 pc = .ok (.if_icmp .le off, 3)) (ht : (pc : Int) + off = (tgt : Int)) (kt : x ≤ y → WP m d tgt ls st M Q) (kf : ¬ x ≤ y → WP m d (pc + 3) ls st M Q) : WP m d pc ls (.int y :: .int x :: st) M Q := by
  by_cases h : x ≤ y
  · exact WP.pure (kt h) (fun _ hl hs => ⟨hl, ok_t (ok_t hs)⟩) (fun p l e R s mid args below meth c D cA A Qg hc φ H locs cells slots lsA hiv hlv hls hst kk => lv_icmp_le hc.1 hc.2.1 hd ht (fun _ => kk lsA hlv) (fun hn => absurd h hn))
  · exact WP.pure (kf h) (fun _ hl hs => ⟨hl, ok_t (ok_t hs)⟩) (fun p l e R s mid args below meth c D cA A Qg hc φ H locs cells slots lsA hiv hlv hls hst kk => lv_icmp_le hc.1 hc.2.1 hd ht (fun hn => absurd hn h) (fun _ => kk lsA hlv))
theorem R.goto {off : Int} {tgt : Nat} (hd : decode m.2.1 pc = .ok (.goto off, 3)) (ht : (pc : Int) + off = (tgt : Int)) (k : WP m d tgt ls st M Q) : WP m d pc ls st M Q :=
  WP.pure k (fun _ hl hs => ⟨hl, hs⟩) (fun p l e R s mid args below meth c D cA A Qg hc φ H locs cells slots lsA hiv hlv hls hst kk => lv_goto hc.1 hc.2.1 hd ht (kk lsA hlv))
theorem R.ifnull {o9 : Option Nat} {off : Int} {tgt : Nat} (h29 : ∀ a, o9 = some a → kd a < 29) (hd : decode m.2.1 pc = .ok (.ifnull off, 3)) (ht : (pc : Int) + off = (tgt : Int)) (kt : o9 = none → WP m d tgt ls st M Q) (kf : ∀ a, o9 = some a → WP m d (pc + 3) ls st M Q) : WP m d pc ls (va_rf o9 :: st) M Q := by
  cases o9 with
  | none => exact WP.pure (kt rfl) (fun _ hl hs => ⟨hl, ok_t hs⟩) (fun p l e R s mid args below meth c D cA A Qg hc φ H locs cells slots lsA hiv hlv hls hst kk => lv_ifnullN hc.1 hc.2.1 hd ht (kk lsA hlv))
  | some a => exact WP.pure (kf a rfl) (fun _ hl hs => ⟨hl, ok_t hs⟩) (fun p l e R s mid args below meth c D cA A Qg hc φ H locs cells slots lsA hiv hlv hls hst kk => by
      have e : (va_rf (some a) :: st).map (cv φ) = .ref (φ a) :: st.map (cv φ) := by
        simp only [List.map_cons, va_rf, cv]
        rw [if_neg (by have := h29 a rfl; omega)]
      rw [e]
      exact lv_ifnull hc.1 hc.2.1 hd (kk lsA hlv))
theorem R.ifnonnull {o9 : Option Nat} {off : Int} {tgt : Nat} (h29 : ∀ a, o9 = some a → kd a < 29) (hd : decode m.2.1 pc = .ok (.ifnonnull off, 3)) (ht : (pc : Int) + off = (tgt : Int)) (kt : ∀ a, o9 = some a → WP m d tgt ls st M Q) (kf : o9 = none → WP m d (pc + 3) ls st M Q) : WP m d pc ls (va_rf o9 :: st) M Q := by
  cases o9 with
  | none => exact WP.pure (kf rfl) (fun _ hl hs => ⟨hl, ok_t hs⟩) (fun p l e R s mid args below meth c D cA A Qg hc φ H locs cells slots lsA hiv hlv hls hst kk => lv_ifnonnullN hc.1 hc.2.1 hd (kk lsA hlv))
  | some a => exact WP.pure (kt a rfl) (fun _ hl hs => ⟨hl, ok_t hs⟩) (fun p l e R s mid args below meth c D cA A Qg hc φ H locs cells slots lsA hiv hlv hls hst kk => by
      have e : (va_rf (some a) :: st).map (cv φ) = .ref (φ a) :: st.map (cv φ) := by
        simp only [List.map_cons, va_rf, cv]
        rw [if_neg (by have := h29 a rfl; omega)]
      rw [e]
      exact lv_ifnonnull hc.1 hc.2.1 hd ht (kk lsA hlv))
theorem R.tableIn {dflt lo hi : Int} {offs : Array Int} {len : Nat} {x : Int32} {off : Int} {tgt : Nat} (hd : decode m.2.1 pc = .ok (.tableswitch dflt lo hi offs, len)) (h1 : ¬ x.toInt < lo) (h2 : ¬ hi < x.toInt) (ho : offs[(x.toInt - lo).toNat]? = some off) (ht : (pc : Int) + off = (tgt : Int)) (k : WP m d tgt ls st M Q) : WP m d pc ls (.int x :: st) M Q :=
  WP.pure k (fun _ hl hs => ⟨hl, ok_t hs⟩) (fun p l e R s mid args below meth c D cA A Qg hc φ H locs cells slots lsA hiv hlv hls hst kk => lv_tableIn hc.1 hc.2.1 hd h1 h2 ho ht (kk lsA hlv))
theorem R.tableOut {dflt lo hi : Int} {offs : Array Int} {len : Nat} {x : Int32} {tgt : Nat} (hd : decode m.2.1 pc = .ok (.tableswitch dflt lo hi offs, len)) (h : x.toInt < lo ∨ hi < x.toInt) (ht : (pc : Int) + dflt = (tgt : Int)) (k : WP m d tgt ls st M Q) : WP m d pc ls (.int x :: st) M Q :=
  WP.pure k (fun _ hl hs => ⟨hl, ok_t hs⟩) (fun p l e R s mid args below meth c D cA A Qg hc φ H locs cells slots lsA hiv hlv hls hst kk => lv_tableOut hc.1 hc.2.1 hd h ht (kk lsA hlv))
end RW
