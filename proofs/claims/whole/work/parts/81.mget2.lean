/-! the model's plain getters, by its state -/
theorem n_tareOf {d T : Nat} {S : KS} {M : Mem} {Q : Out → Mem → Prop} {x : Int32} (h : MSt M S T) (hT : T ≤ 57000) (hq : QMa Q M S T cdA (aC S x fun i => .inl (yC (kY S) i 2))) : WPc (d + 20) mX13_tareOf [.ref (rf 11 0), .int x] M Q := by
  obtain ⟨m, b, hR, hV⟩ := h.y
  exact atW rfl (g_tareOf h.l hR hV.f4  (QMC.of h hq))
theorem n_goodsOf {d T : Nat} {S : KS} {M : Mem} {Q : Out → Mem → Prop} {x : Int32} (h : MSt M S T) (hT : T ≤ 57000) (hq : QMa Q M S T cdA (aC S x fun i => .inl (yC (kY S) i 3))) : WPc (d + 20) mX13_goodsOf [.ref (rf 11 0), .int x] M Q := by
  obtain ⟨m, b, hR, hV⟩ := h.y
  exact atW rfl (g_goodsOf h.l hR hV.f4  (QMC.of h hq))
theorem n_parentOf {d T : Nat} {S : KS} {M : Mem} {Q : Out → Mem → Prop} {x : Int32} (h : MSt M S T) (hT : T ≤ 57000) (hq : QMa Q M S T cdA (aC S x fun i => .inl (pIx (kY S) i))) : WPc (d + 20) mX13_parentOf [.ref (rf 11 0), .int x] M Q := by
  obtain ⟨m, b, hR, hV⟩ := h.y
  exact atW rfl (g_parentOf h.l hR hV.f4  (QMC.of h hq))
theorem n_readingCount {d T : Nat} {S : KS} {M : Mem} {Q : Out → Mem → Prop} {x : Int32} (h : MSt M S T) (hT : T ≤ 57000) (hq : QMa Q M S T cdA (aC S x fun i => .inl (yC (kY S) i 8))) : WPc (d + 20) mX13_readingCount [.ref (rf 11 0), .int x] M Q := by
  obtain ⟨m, b, hR, hV⟩ := h.y
  exact atW rfl (g_readingCount h.l hR hV.f4  (QMC.of h hq))
theorem n_grossOf {d T : Nat} {S : KS} {M : Mem} {Q : Out → Mem → Prop} {x : Int32} (h : MSt M S T) (hT : T ≤ 57000) (hq : QMa Q M S T cdA (aC S x fun i => .inl (yC (kY S) i 4))) : WPc (d + 20) mX13_grossOf [.ref (rf 11 0), .int x] M Q := by
  obtain ⟨m, b, hR, hV⟩ := h.y
  exact atW rfl (g_grossOf h.l hR hV.f4 hV.l hV.acy (QMC.of h hq))
theorem n_depthOf {d T : Nat} {S : KS} {M : Mem} {Q : Out → Mem → Prop} {x : Int32} (h : MSt M S T) (hT : T ≤ 57000) (hq : QMa Q M S T cdA (aC S x fun i => .inl (nI (dp (kY S) i)))) : WPc (d + 20) mX13_depthOf [.ref (rf 11 0), .int x] M Q := by
  obtain ⟨m, b, hR, hV⟩ := h.y
  exact atW rfl (g_depthOf h.l hR hV.f4 hV.acy (QMC.of h hq))
theorem n_childOf {d T : Nat} {S : KS} {M : Mem} {Q : Out → Mem → Prop} {x z : Int32} (h : MSt M S T) (hT : T ≤ 57000) (hq : QMa Q M S T cdA (aC S x fun i => .inl (coF (kY S) 17 (fCh (kY S) i) 0 z))) : WPc (d + 20) mX13_childOf [.ref (rf 11 0), .int x, .int z] M Q := by
  obtain ⟨m, b, hR, hV⟩ := h.y
  exact atW rfl (g_childOf h.l hR hV.f4 (hV.sb (by omega)) (QMC.of h hq))
theorem n_childCount {d T : Nat} {S : KS} {M : Mem} {Q : Out → Mem → Prop} {x : Int32} (h : MSt M S T) (hT : T ≤ 57000) (hq : QMa Q M S T cdA (aC S x fun i => .inl (nI (ccF (kY S) 17 (fCh (kY S) i) 0)))) : WPc (d + 20) mX13_childCount [.ref (rf 11 0), .int x] M Q := by
  obtain ⟨m, b, hR, hV⟩ := h.y
  refine atW rfl (g_childCount h.l hR hV.f4 (QMC.of h ?_))
  have e : (fun i => (Sum.inl (nI (ccF (kY S) 17 (fCh (kY S) i) 0)) : An)) = fun i => .inl (nI (sm (fun c => if yP (kY S) c = some i then 1 else 0) 16)) := by
    funext i
    have hD := hV.sb (by omega)
    have := ccF_e hD (o := i) 17 0 0 (Nat.lt_succ_of_le (nG_le _ i 0))
    rw [show fCh (kY S) i = caF (kY S) i 0 16 0 none from rfl, this, Nat.zero_add, nG_0 hD]
  rw [e] at hq
  exact hq
theorem n_moneyOf {d T : Nat} {S : KS} {M : Mem} {Q : Out → Mem → Prop} {x : Int32} (h : MSt M S T) (hT : T ≤ 57000) (hq : QMa Q M S T cdA (aU S x fun i => .inl (yB (kY S) i 2))) : WPc (d + 20) mX13_moneyOf [.ref (rf 11 0), .int x] M Q := by
  obtain ⟨m, b, hR, hV⟩ := h.y
  exact atW rfl (g_moneyOf h.l hR hV.f5 (QMC.ofU h hq))
theorem n_toleranceOf {d T : Nat} {S : KS} {M : Mem} {Q : Out → Mem → Prop} {x : Int32} (h : MSt M S T) (hT : T ≤ 57000) (hq : QMa Q M S T cdA (aU S x fun i => .inl (yB (kY S) i 3))) : WPc (d + 20) mX13_toleranceOf [.ref (rf 11 0), .int x] M Q := by
  obtain ⟨m, b, hR, hV⟩ := h.y
  exact atW rfl (g_toleranceOf h.l hR hV.f5 (QMC.ofU h hq))
theorem n_trustOf {d T : Nat} {S : KS} {M : Mem} {Q : Out → Mem → Prop} {x : Int32} (h : MSt M S T) (hT : T ≤ 57000) (hq : QMa Q M S T cdA (aU S x fun i => .inl (yB (kY S) i 4))) : WPc (d + 20) mX13_trustOf [.ref (rf 11 0), .int x] M Q := by
  obtain ⟨m, b, hR, hV⟩ := h.y
  exact atW rfl (g_trustOf h.l hR hV.f5 (QMC.ofU h hq))
theorem n_purchasesOf {d T : Nat} {S : KS} {M : Mem} {Q : Out → Mem → Prop} {x : Int32} (h : MSt M S T) (hT : T ≤ 57000) (hq : QMa Q M S T cdA (aU S x fun i => .inl (yB (kY S) i 5))) : WPc (d + 20) mX13_purchasesOf [.ref (rf 11 0), .int x] M Q := by
  obtain ⟨m, b, hR, hV⟩ := h.y
  exact atW rfl (g_purchasesOf h.l hR hV.f5 (QMC.ofU h hq))
theorem n_springAge {d T : Nat} {S : KS} {M : Mem} {Q : Out → Mem → Prop} (h : MSt M S T) (hT : T ≤ 57000) (hq : QMa Q M S T cdA (.inl (yS (kY S) 3))) : WPc (d + 20) mX13_springAge [.ref (rf 11 0)] M Q := by
  obtain ⟨m, b, hR, hV⟩ := h.y
  exact atW rfl (g_springAge h.l hR (QMA.of h hq))
theorem n_amplitude {d T : Nat} {S : KS} {M : Mem} {Q : Out → Mem → Prop} (h : MSt M S T) (hT : T ≤ 57000) (hq : QMa Q M S T cdA (.inl (yS (kY S) 1))) : WPc (d + 20) mX13_amplitude [.ref (rf 11 0)] M Q := by
  obtain ⟨m, b, hR, hV⟩ := h.y
  exact atW rfl (g_amplitude h.l hR (QMA.of h hq))
theorem n_aging {d T : Nat} {S : KS} {M : Mem} {Q : Out → Mem → Prop} (h : MSt M S T) (hT : T ≤ 57000) (hq : QMa Q M S T cdA (.inl (yS (kY S) 2))) : WPc (d + 20) mX13_aging [.ref (rf 11 0)] M Q := by
  obtain ⟨m, b, hR, hV⟩ := h.y
  exact atW rfl (g_aging h.l hR (QMA.of h hq))
theorem n_requiredReadings {d T : Nat} {S : KS} {M : Mem} {Q : Out → Mem → Prop} (h : MSt M S T) (hT : T ≤ 57000) (hq : QMa Q M S T cdA (.inl (yF (kY S) 6))) : WPc (d + 20) mX13_requiredReadings [.ref (rf 11 0)] M Q := by
  obtain ⟨m, b, hR, hV⟩ := h.y
  exact atW rfl (g_requiredReadings h.l hR (QMA.of h hq))
theorem n_requiredTrust {d T : Nat} {S : KS} {M : Mem} {Q : Out → Mem → Prop} (h : MSt M S T) (hT : T ≤ 57000) (hq : QMa Q M S T cdA (.inl (yF (kY S) 7))) : WPc (d + 20) mX13_requiredTrust [.ref (rf 11 0)] M Q := by
  obtain ⟨m, b, hR, hV⟩ := h.y
  exact atW rfl (g_requiredTrust h.l hR (QMA.of h hq))
theorem n_totalReadings {d T : Nat} {S : KS} {M : Mem} {Q : Out → Mem → Prop} (h : MSt M S T) (hT : T ≤ 57000) (hq : QMa Q M S T cdA (.inl (yT (kY S) 0))) : WPc (d + 20) mX13_totalReadings [.ref (rf 11 0)] M Q := by
  obtain ⟨m, b, hR, hV⟩ := h.y
  exact atW rfl (g_totalReadings h.l hR (QMA.of h hq))
theorem n_totalDiscarded {d T : Nat} {S : KS} {M : Mem} {Q : Out → Mem → Prop} (h : MSt M S T) (hT : T ≤ 57000) (hq : QMa Q M S T cdA (.inl (yT (kY S) 1))) : WPc (d + 20) mX13_totalDiscarded [.ref (rf 11 0)] M Q := by
  obtain ⟨m, b, hR, hV⟩ := h.y
  exact atW rfl (g_totalDiscarded h.l hR (QMA.of h hq))
theorem n_springsReplaced {d T : Nat} {S : KS} {M : Mem} {Q : Out → Mem → Prop} (h : MSt M S T) (hT : T ≤ 57000) (hq : QMa Q M S T cdA (.inl (yT (kY S) 2))) : WPc (d + 20) mX13_springsReplaced [.ref (rf 11 0)] M Q := by
  obtain ⟨m, b, hR, hV⟩ := h.y
  exact atW rfl (g_springsReplaced h.l hR (QMA.of h hq))
theorem n_salesCount {d T : Nat} {S : KS} {M : Mem} {Q : Out → Mem → Prop} (h : MSt M S T) (hT : T ≤ 57000) (hq : QMa Q M S T cdA (.inl (yT (kY S) 3))) : WPc (d + 20) mX13_salesCount [.ref (rf 11 0)] M Q := by
  obtain ⟨m, b, hR, hV⟩ := h.y
  exact atW rfl (g_salesCount h.l hR (QMA.of h hq))
theorem n_totalPrices {d T : Nat} {S : KS} {M : Mem} {Q : Out → Mem → Prop} (h : MSt M S T) (hT : T ≤ 57000) (hq : QMa Q M S T cdA (.inl (yT (kY S) 4))) : WPc (d + 20) mX13_totalPrices [.ref (rf 11 0)] M Q := by
  obtain ⟨m, b, hR, hV⟩ := h.y
  exact atW rfl (g_totalPrices h.l hR (QMA.of h hq))
theorem n_totalRefunds {d T : Nat} {S : KS} {M : Mem} {Q : Out → Mem → Prop} (h : MSt M S T) (hT : T ≤ 57000) (hq : QMa Q M S T cdA (.inl (yT (kY S) 5))) : WPc (d + 20) mX13_totalRefunds [.ref (rf 11 0)] M Q := by
  obtain ⟨m, b, hR, hV⟩ := h.y
  exact atW rfl (g_totalRefunds h.l hR (QMA.of h hq))
theorem n_buyerCount {d T : Nat} {S : KS} {M : Mem} {Q : Out → Mem → Prop} (h : MSt M S T) (hT : T ≤ 57000) (hq : QMa Q M S T cdA (.inl (yF (kY S) 5))) : WPc (d + 20) mX13_buyerCount [.ref (rf 11 0)] M Q := by
  obtain ⟨m, b, hR, hV⟩ := h.y
  exact atW rfl (g_buyerCount h.l hR (QMA.of h hq))
theorem n_crateCount {d T : Nat} {S : KS} {M : Mem} {Q : Out → Mem → Prop} (h : MSt M S T) (hT : T ≤ 57000) (hq : QMa Q M S T cdA (.inl (yF (kY S) 4))) : WPc (d + 20) mX13_crateCount [.ref (rf 11 0)] M Q := by
  obtain ⟨m, b, hR, hV⟩ := h.y
  rw [hV.f4] at hq
  exact atW rfl (g_crateCount h.l hR (QMA.of h hq))
