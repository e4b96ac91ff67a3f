/-! more rows: references compared, references read that are known -/
section MR
variable {m : MRec} {d pc : Nat} {ls st : List Value} {M : Mem} {Q : Out → Mem → Prop}
theorem map_rf {φ : Nat → Nat} {o : Option Nat} (h : ∀ a, o = some a → KO (kd a)) : cv φ (va_rf o) = va_rf (o.map φ) := by
  cases o with
  | none => rfl
  | some a =>
    simp only [va_rf, cv, Option.map]
    rw [if_neg (by have := h a rfl; omega)]
theorem inj_rf {s : State} {D : va_G} {cA : Nat → ClassId} {A : Nat → Prop} {φ : Nat → Nat} {H : Heap} {locs : List Loc} {o1 o2 : Option Nat} (hiv : Iv s D cA A φ M H locs) (h1 : ∀ a, o1 = some a → KO (kd a)) (h2 : ∀ a, o2 = some a → KO (kd a)) (v1 : VOk M (va_rf o1)) (v2 : VOk M (va_rf o2)) (e : o1.map φ = o2.map φ) : o1 = o2 := by
  cases o1 with
  | none => cases o2 with
    | none => rfl
    | some b => cases e
  | some a => cases o2 with
    | none => cases e
    | some b =>
      have k1 := h1 a rfl
      have k2 := h2 b rfl
      have w1 := v1 a rfl k1
      have w2 := v2 b rfl k2
      have e2 : φ a = φ b := by simpa using e
      have e3 : φ (rf (kd a) (ix a)) = φ (rf (kd b) (ix b)) := by rw [rf_kx, rf_kx]; exact e2
      have := hiv.1.2.2.1 _ _ _ _ k1 w1 k2 w2 e3
      rw [← rf_kx a, ← rf_kx b, this.1, this.2]
theorem R.acmp_neK {o1 o2 : Option Nat} {off : Int} {tgt : Nat} (h1 : ∀ a, o1 = some a → KO (kd a)) (h2 : ∀ a, o2 = some a → KO (kd a)) (hd : decode m.2.1 pc = .ok (.if_acmp .ne off, 3)) (ht : (pc : Int) + off = (tgt : Int)) (kt : ¬ o1 = o2 → WP m d tgt ls st M Q) (kf : o1 = o2 → WP m d (pc + 3) ls st M Q) : WP m d pc ls (va_rf o2 :: va_rf o1 :: st) M Q := by
  by_cases h : o1 = o2
  · exact WP.pure (kf h) (fun _ hl hs => ⟨hl, ok_t (ok_t hs)⟩) (fun p l e R s mid args below meth c D cA A Qg hc φ H locs cells slots lsA hiv hlv hls hst kk => by
      rw [List.map_cons, List.map_cons, map_rf h1, map_rf h2]
      exact lv_acmp_ne hc.1 hc.2.1 hd ht (fun q => absurd (by rw [h]) q) (fun _ => kk lsA hlv))
  · exact WP.pure (kt h) (fun _ hl hs => ⟨hl, ok_t (ok_t hs)⟩) (fun p l e R s mid args below meth c D cA A Qg hc φ H locs cells slots lsA hiv hlv hls hst kk => by
      rw [List.map_cons, List.map_cons, map_rf h1, map_rf h2]
      exact lv_acmp_ne hc.1 hc.2.1 hd ht (fun _ => kk lsA hlv) (fun q => absurd (inj_rf hiv h1 h2 (hst _ (List.mem_cons_of_mem _ List.mem_cons_self)) (hst _ List.mem_cons_self) q) h))
theorem R.acmp_ne {o1 o2 : Option Nat} {off : Int} {tgt : Nat} (h1 : ∀ a, o1 = some a → kd a < 21) (h2 : ∀ a, o2 = some a → kd a < 21) (hd : decode m.2.1 pc = .ok (.if_acmp .ne off, 3)) (ht : (pc : Int) + off = (tgt : Int)) (kt : ¬ o1 = o2 → WP m d tgt ls st M Q) (kf : o1 = o2 → WP m d (pc + 3) ls st M Q) : WP m d pc ls (va_rf o2 :: va_rf o1 :: st) M Q :=
  R.acmp_neK (fun a h => Or.inl (h1 a h)) (fun a h => Or.inl (h2 a h)) hd ht kt kf
/-- a reference read that is known -/
theorem R.getS {k i f idx a : Nat} (hx : mR M k i f = some a) (hd : decode m.2.1 pc = .ok (.getfield idx, 3)) (hf : FL m.1.cls idx k f) (hk : KO k) (ht : isRf (tyk k f) = true) (kn9 : WP m d (pc + 3) ls (.ref a :: st) M Q) : WP m d pc ls (.ref (rf k i) :: st) M Q :=
  R.getR hd hf hk ht (by rw [hx]; exact kn9)
theorem R.getN {k i f idx : Nat} (hx : mR M k i f = none) (hd : decode m.2.1 pc = .ok (.getfield idx, 3)) (hf : FL m.1.cls idx k f) (hk : KO k) (ht : isRf (tyk k f) = true) (kn9 : WP m d (pc + 3) ls (.null :: st) M Q) : WP m d pc ls (.ref (rf k i) :: st) M Q :=
  R.getR hd hf hk ht (by rw [hx]; exact kn9)
theorem R.aalS {k i a : Nat} {x : Int32} (hx : mR M k i x.toNatClampNeg = some a) (hk1 : 16 ≤ k) (hk2 : k < 21) (hd : decode m.2.1 pc = .ok (.aaload, 1)) (h0 : ¬ x < 0) (h1 : x.toNatClampNeg < mN M k i) (kn9 : WP m d (pc + 1) ls (.ref a :: st) M Q) : WP m d pc ls (.int x :: .ref (rf k i) :: st) M Q :=
  R.aald hk1 hk2 hd h0 h1 (by rw [hx]; exact kn9)
theorem R.ifnullN {off : Int} {tgt : Nat} (hd : decode m.2.1 pc = .ok (.ifnull off, 3)) (ht : (pc : Int) + off = (tgt : Int)) (kn9 : WP m d tgt ls st M Q) : WP m d pc ls (.null :: st) M Q :=
  R.ifnull (o9 := none) (fun _ h => nomatch h) hd ht (fun _ => kn9) (fun _ h => nomatch h)
theorem R.ifnullS {off : Int} {tgt a : Nat} (h29 : kd a < 29) (hd : decode m.2.1 pc = .ok (.ifnull off, 3)) (ht : (pc : Int) + off = (tgt : Int)) (kn9 : WP m d (pc + 3) ls st M Q) : WP m d pc ls (.ref a :: st) M Q :=
  R.ifnull (o9 := some a) (fun _ h => by cases h; exact h29) hd ht (fun h => nomatch h) (fun _ _ => kn9)
theorem R.ifnonnullN {off : Int} {tgt : Nat} (hd : decode m.2.1 pc = .ok (.ifnonnull off, 3)) (ht : (pc : Int) + off = (tgt : Int)) (kn9 : WP m d (pc + 3) ls st M Q) : WP m d pc ls (.null :: st) M Q :=
  R.ifnonnull (o9 := none) (fun _ h => nomatch h) hd ht (fun _ h => nomatch h) (fun _ => kn9)
theorem R.ifnonnullS {off : Int} {tgt a : Nat} (h29 : kd a < 29) (hd : decode m.2.1 pc = .ok (.ifnonnull off, 3)) (ht : (pc : Int) + off = (tgt : Int)) (kn9 : WP m d tgt ls st M Q) : WP m d pc ls (.ref a :: st) M Q :=
  R.ifnonnull (o9 := some a) (fun _ h => by cases h; exact h29) hd ht (fun _ _ => kn9) (fun h => nomatch h)
theorem R.acmpRR {k i j : Nat} {off : Int} {tgt : Nat} (hk : k < 21) (hd : decode m.2.1 pc = .ok (.if_acmp .ne off, 3)) (ht : (pc : Int) + off = (tgt : Int)) (kt : ¬ i = j → WP m d tgt ls st M Q) (kf : i = j → WP m d (pc + 3) ls st M Q) : WP m d pc ls (.ref (rf k j) :: .ref (rf k i) :: st) M Q :=
  R.acmp_ne (o1 := some (rf k i)) (o2 := some (rf k j)) (fun _ h => by cases h; rw [kd_rf _ _ (by omega)]; exact hk) (fun _ h => by cases h; rw [kd_rf _ _ (by omega)]; exact hk) hd ht (fun h => kt (fun e => h (by rw [e]))) (fun h => kf (rf_inj (by omega) (by omega) (Option.some.inj h)).2)
theorem R.acmpNR {k j : Nat} {off : Int} {tgt : Nat} (hk : k < 21) (hd : decode m.2.1 pc = .ok (.if_acmp .ne off, 3)) (ht : (pc : Int) + off = (tgt : Int)) (kt : WP m d tgt ls st M Q) : WP m d pc ls (.ref (rf k j) :: .null :: st) M Q :=
  R.acmp_ne (o1 := none) (o2 := some (rf k j)) (fun _ h => nomatch h) (fun _ h => by cases h; rw [kd_rf _ _ (by omega)]; exact hk) hd ht (fun _ => kt) (fun h => nomatch h)
end MR
