/-! one statement of a script -/
theorem qC_no {b : Nat → Int32} {n e : Nat} {Y : Yd} {K : Nat → Nat → QR} (w : ¬ ncC b n e Y = 0) : qC b n e Y K = .inl (ncC b n e Y, tS b n e) := by
  unfold ncC at w ⊢
  unfold qC
  by_cases z : nnC b n e = 0
  · rw [if_pos z] at w ⊢
    rw [if_pos z]
    cases hc : cnF Y (nmF b (tS b n e) (tE b n e)) 16 0 with
    | none => rfl
    | some j => rw [hc] at w; exact absurd rfl w
  · rw [if_neg z, if_neg z]
theorem qC_ok {b : Nat → Int32} {n e j : Nat} {Y : Yd} {K : Nat → Nat → QR} (w : ncC b n e Y = 0) (hc : cnF Y (nmF b (tS b n e) (tE b n e)) 16 0 = some j) : qC b n e Y K = K j (tE b n e) := by
  unfold ncC at w
  unfold qC
  by_cases z : nnC b n e = 0
  · rw [if_pos z, hc]
  · rw [if_neg z] at w; exact absurd w z
theorem qB_no {b : Nat → Int32} {n e : Nat} {Y : Yd} {K : Nat → Nat → QR} (w : ¬ nyC b n e Y = 0) : qB b n e Y K = .inl (nyC b n e Y, tS b n e) := by
  unfold nyC at w ⊢
  unfold qB
  by_cases z : nnC b n e = 0
  · rw [if_pos z] at w ⊢
    rw [if_pos z]
    cases hc : bnF Y (nmF b (tS b n e) (tE b n e)) 6 0 with
    | none => rfl
    | some j => rw [hc] at w; exact absurd rfl w
  · rw [if_neg z, if_neg z]
theorem qB_ok {b : Nat → Int32} {n e j : Nat} {Y : Yd} {K : Nat → Nat → QR} (w : nyC b n e Y = 0) (hc : bnF Y (nmF b (tS b n e) (tE b n e)) 6 0 = some j) : qB b n e Y K = K j (tE b n e) := by
  unfold nyC at w
  unfold qB
  by_cases z : nnC b n e = 0
  · rw [if_pos z, hc]
  · rw [if_neg z] at w; exact absurd w z
theorem Tx.frR {b : Nat → Int32} {n j : Nat} {v : Option Nat} {a : Ta} {M : Mem} (h : Tx M b n a) : Tx (sR M 6 j 0 v) b n a :=
  h.fr (S := fun k i => k = 6 ∧ i = j) (Fr.sR (Fr.rf _ _) ⟨rfl, rfl⟩) (fun z => absurd z.1 (by decide)) (fun z => absurd z.1 (by decide))
theorem Yv.frR {y j : Nat} {v : Option Nat} {Y : Yd} {M : Mem} (h : Yv M y Y) : Yv (sR M 6 j 0 v) y Y :=
  h.fr (S := fun k i => k = 6 ∧ i = j) (Fr.sR (Fr.rf _ _) ⟨rfl, rfl⟩) (fun k i h z => by unfold inY at h; omega)
set_option maxHeartbeats 1000000 in
set_option maxRecDepth 4000 in
theorem stq_0 {d : Nat} {b : Nat → Int32} {n s e j : Nat} {k : Int32} {y : Nat} {Y : Yd} {M M1 : Mem} {Q : Out → Mem → Prop} (h1 : Tx M1 b n (s, e, k, 0, -1)) (g1 : Yv M1 y Y) (G1 : Fr (inJ j) M M1) (hV : mR M1 6 j 0 = some (rf 22 0)) (hq : ∀ M', PoS b n j (sqP b n e 0 Y) M M' → Q (.inl (some (.int (okQ (sqP b n e 0 Y))))) M') : WP mX7_parse (d + 6) 64 [.ref (rf 6 j), .ref (rf 22 0), .ref (rf 7 0), .ref (rf 9 y)] [] M1 Q := by
  have hr : sqP b n e 0 Y = qC b n e Y (fun c e => qN b n e 1 50 (fun x => (0, c, 0, x))) := rfl
  rw [hr] at hq
  refine R.aload_n dX7_parse_64 rfl (by first | rfl | exact rfv_rf _) ?_
  refine R.aload_n dX7_parse_65 rfl (by first | rfl | exact rfv_rf _) ?_
  refine R.aload_n dX7_parse_66 rfl (by first | rfl | exact rfv_rf _) ?_
  refine cl_X7_40 rfl rfl (by first | exact Nat.le_of_ble_eq_true rfl | simp [rf_cat, Value.category]) dX7_parse_67 ?_
  refine s_stCr h1 g1 (fun M67 h67 F67 S67 E67 => ?_)
  have g67 := g1.fr F67 nJY
  have G67 := G1.tr F67
  refine R.if_eq (tgt := 88) dX7_parse_70 (by decide) (fun c70 => ?_) (fun c70 => ?_)
  · refine R.iconst (v := 0) dX7_parse_88 rfl ?_
    refine WP.ret (ov := some (.int _)) dX7_parse_89 ⟨rfl, _, rfl, by first | rfl | assumption | exact nar_b01 (by assumption)⟩ ?_
    have w67 := er_1 c70
    rw [qC_no w67] at hq
    exact hq _ (PoS.no G67 (h67.no w67))
  · have z67 := er_0 c70
    obtain ⟨c67_, hc67, hE67⟩ := E67 z67
    rw [qC_ok z67 hc67] at hq
    refine R.aload_n dX7_parse_73 rfl (by first | rfl | exact rfv_rf _) ?_
    refine R.aload_n dX7_parse_74 rfl (by first | rfl | exact rfv_rf _) ?_
    refine R.iconst (v := 1) dX7_parse_75 rfl ?_
    refine R.bipush (v := 50) dX7_parse_76 (by decide) ?_
    refine cl_X7_44 rfl rfl (by first | exact Nat.le_of_ble_eq_true rfl | simp [rf_cat, Value.category]) dX7_parse_78 ?_
    refine s_stNum (h67.ok z67) (fun M78 h78 F78 S78 E78 => ?_)
    have G78 := G67.tr F78
    refine R.if_eq (tgt := 88) dX7_parse_81 (by decide) (fun c81 => ?_) (fun c81 => ?_)
    · refine R.iconst (v := 0) dX7_parse_88 rfl ?_
      refine WP.ret (ov := some (.int _)) dX7_parse_89 ⟨rfl, _, rfl, by first | rfl | assumption | exact nar_b01 (by assumption)⟩ ?_
      have w78 := er_1 c81
      rw [qN, if_neg w78] at hq
      exact hq _ (PoS.no G78 (h78.no w78))
    · refine R.iconst (v := 1) dX7_parse_84 rfl ?_
      refine R.goto (tgt := 89) dX7_parse_85 (by decide) ?_
      refine WP.ret (ov := some (.int _)) dX7_parse_89 ⟨rfl, _, rfl, by first | rfl | assumption | exact nar_b01 (by assumption)⟩ ?_
      have z78 := er_0 c81
      have hE78 := E78 z78
      rw [qN, if_pos z78] at hq
      exact hq _ (PoS.yes G78 (h78.ok z78) ⟨by
          show mR _ 6 j 0 = some (rf 22 0)
          rw [S78.2, S67.2]
          exact hV, by show 0 < 9; decide, fun _ => by
          show mI _ 6 j 1 = _
          rw [S78.1 1 (by decide)]
          exact hE67, fun z => absurd (show (0 : Nat) = 3 from z) (by decide), fun z => absurd (show (0 : Nat) = 6 from z) (by decide), fun _ => by
          show mI _ 6 j 4 = _
          exact hE78⟩)
set_option maxHeartbeats 1000000 in
set_option maxRecDepth 4000 in
theorem stq_1 {d : Nat} {b : Nat → Int32} {n s e j : Nat} {k : Int32} {y : Nat} {Y : Yd} {M M1 : Mem} {Q : Out → Mem → Prop} (h1 : Tx M1 b n (s, e, k, 0, -1)) (g1 : Yv M1 y Y) (G1 : Fr (inJ j) M M1) (hV : mR M1 6 j 0 = some (rf 22 1)) (hq : ∀ M', PoS b n j (sqP b n e 1 Y) M M' → Q (.inl (some (.int (okQ (sqP b n e 1 Y))))) M') : WP mX7_parse (d + 6) 90 [.ref (rf 6 j), .ref (rf 22 1), .ref (rf 7 0), .ref (rf 9 y)] [] M1 Q := by
  have hr : sqP b n e 1 Y = qC b n e Y (fun c e => qN b n e 1 500 (fun x => (1, c, 0, x))) := rfl
  rw [hr] at hq
  refine R.aload_n dX7_parse_90 rfl (by first | rfl | exact rfv_rf _) ?_
  refine R.aload_n dX7_parse_91 rfl (by first | rfl | exact rfv_rf _) ?_
  refine R.aload_n dX7_parse_92 rfl (by first | rfl | exact rfv_rf _) ?_
  refine cl_X7_40 rfl rfl (by first | exact Nat.le_of_ble_eq_true rfl | simp [rf_cat, Value.category]) dX7_parse_93 ?_
  refine s_stCr h1 g1 (fun M93 h93 F93 S93 E93 => ?_)
  have g93 := g1.fr F93 nJY
  have G93 := G1.tr F93
  refine R.if_eq (tgt := 115) dX7_parse_96 (by decide) (fun c96 => ?_) (fun c96 => ?_)
  · refine R.iconst (v := 0) dX7_parse_115 rfl ?_
    refine WP.ret (ov := some (.int _)) dX7_parse_116 ⟨rfl, _, rfl, by first | rfl | assumption | exact nar_b01 (by assumption)⟩ ?_
    have w93 := er_1 c96
    rw [qC_no w93] at hq
    exact hq _ (PoS.no G93 (h93.no w93))
  · have z93 := er_0 c96
    obtain ⟨c93_, hc93, hE93⟩ := E93 z93
    rw [qC_ok z93 hc93] at hq
    refine R.aload_n dX7_parse_99 rfl (by first | rfl | exact rfv_rf _) ?_
    refine R.aload_n dX7_parse_100 rfl (by first | rfl | exact rfv_rf _) ?_
    refine R.iconst (v := 1) dX7_parse_101 rfl ?_
    refine R.sipush (v := 500) dX7_parse_102 (by decide) ?_
    refine cl_X7_44 rfl rfl (by first | exact Nat.le_of_ble_eq_true rfl | simp [rf_cat, Value.category]) dX7_parse_105 ?_
    refine s_stNum (h93.ok z93) (fun M105 h105 F105 S105 E105 => ?_)
    have G105 := G93.tr F105
    refine R.if_eq (tgt := 115) dX7_parse_108 (by decide) (fun c108 => ?_) (fun c108 => ?_)
    · refine R.iconst (v := 0) dX7_parse_115 rfl ?_
      refine WP.ret (ov := some (.int _)) dX7_parse_116 ⟨rfl, _, rfl, by first | rfl | assumption | exact nar_b01 (by assumption)⟩ ?_
      have w105 := er_1 c108
      rw [qN, if_neg w105] at hq
      exact hq _ (PoS.no G105 (h105.no w105))
    · refine R.iconst (v := 1) dX7_parse_111 rfl ?_
      refine R.goto (tgt := 116) dX7_parse_112 (by decide) ?_
      refine WP.ret (ov := some (.int _)) dX7_parse_116 ⟨rfl, _, rfl, by first | rfl | assumption | exact nar_b01 (by assumption)⟩ ?_
      have z105 := er_0 c108
      have hE105 := E105 z105
      rw [qN, if_pos z105] at hq
      exact hq _ (PoS.yes G105 (h105.ok z105) ⟨by
          show mR _ 6 j 0 = some (rf 22 1)
          rw [S105.2, S93.2]
          exact hV, by show 1 < 9; decide, fun _ => by
          show mI _ 6 j 1 = _
          rw [S105.1 1 (by decide)]
          exact hE93, fun z => absurd (show (1 : Nat) = 3 from z) (by decide), fun z => absurd (show (1 : Nat) = 6 from z) (by decide), fun _ => by
          show mI _ 6 j 4 = _
          exact hE105⟩)
set_option maxHeartbeats 1000000 in
set_option maxRecDepth 4000 in
theorem stq_2 {d : Nat} {b : Nat → Int32} {n s e j : Nat} {k : Int32} {y : Nat} {Y : Yd} {M M1 : Mem} {Q : Out → Mem → Prop} (h1 : Tx M1 b n (s, e, k, 0, -1)) (g1 : Yv M1 y Y) (G1 : Fr (inJ j) M M1) (hV : mR M1 6 j 0 = some (rf 22 2)) (hq : ∀ M', PoS b n j (sqP b n e 2 Y) M M' → Q (.inl (some (.int (okQ (sqP b n e 2 Y))))) M') : WP mX7_parse (d + 6) 90 [.ref (rf 6 j), .ref (rf 22 2), .ref (rf 7 0), .ref (rf 9 y)] [] M1 Q := by
  have hr : sqP b n e 2 Y = qC b n e Y (fun c e => qN b n e 1 500 (fun x => (2, c, 0, x))) := rfl
  rw [hr] at hq
  refine R.aload_n dX7_parse_90 rfl (by first | rfl | exact rfv_rf _) ?_
  refine R.aload_n dX7_parse_91 rfl (by first | rfl | exact rfv_rf _) ?_
  refine R.aload_n dX7_parse_92 rfl (by first | rfl | exact rfv_rf _) ?_
  refine cl_X7_40 rfl rfl (by first | exact Nat.le_of_ble_eq_true rfl | simp [rf_cat, Value.category]) dX7_parse_93 ?_
  refine s_stCr h1 g1 (fun M93 h93 F93 S93 E93 => ?_)
  have g93 := g1.fr F93 nJY
  have G93 := G1.tr F93
  refine R.if_eq (tgt := 115) dX7_parse_96 (by decide) (fun c96 => ?_) (fun c96 => ?_)
  · refine R.iconst (v := 0) dX7_parse_115 rfl ?_
    refine WP.ret (ov := some (.int _)) dX7_parse_116 ⟨rfl, _, rfl, by first | rfl | assumption | exact nar_b01 (by assumption)⟩ ?_
    have w93 := er_1 c96
    rw [qC_no w93] at hq
    exact hq _ (PoS.no G93 (h93.no w93))
  · have z93 := er_0 c96
    obtain ⟨c93_, hc93, hE93⟩ := E93 z93
    rw [qC_ok z93 hc93] at hq
    refine R.aload_n dX7_parse_99 rfl (by first | rfl | exact rfv_rf _) ?_
    refine R.aload_n dX7_parse_100 rfl (by first | rfl | exact rfv_rf _) ?_
    refine R.iconst (v := 1) dX7_parse_101 rfl ?_
    refine R.sipush (v := 500) dX7_parse_102 (by decide) ?_
    refine cl_X7_44 rfl rfl (by first | exact Nat.le_of_ble_eq_true rfl | simp [rf_cat, Value.category]) dX7_parse_105 ?_
    refine s_stNum (h93.ok z93) (fun M105 h105 F105 S105 E105 => ?_)
    have G105 := G93.tr F105
    refine R.if_eq (tgt := 115) dX7_parse_108 (by decide) (fun c108 => ?_) (fun c108 => ?_)
    · refine R.iconst (v := 0) dX7_parse_115 rfl ?_
      refine WP.ret (ov := some (.int _)) dX7_parse_116 ⟨rfl, _, rfl, by first | rfl | assumption | exact nar_b01 (by assumption)⟩ ?_
      have w105 := er_1 c108
      rw [qN, if_neg w105] at hq
      exact hq _ (PoS.no G105 (h105.no w105))
    · refine R.iconst (v := 1) dX7_parse_111 rfl ?_
      refine R.goto (tgt := 116) dX7_parse_112 (by decide) ?_
      refine WP.ret (ov := some (.int _)) dX7_parse_116 ⟨rfl, _, rfl, by first | rfl | assumption | exact nar_b01 (by assumption)⟩ ?_
      have z105 := er_0 c108
      have hE105 := E105 z105
      rw [qN, if_pos z105] at hq
      exact hq _ (PoS.yes G105 (h105.ok z105) ⟨by
          show mR _ 6 j 0 = some (rf 22 2)
          rw [S105.2, S93.2]
          exact hV, by show 2 < 9; decide, fun _ => by
          show mI _ 6 j 1 = _
          rw [S105.1 1 (by decide)]
          exact hE93, fun z => absurd (show (2 : Nat) = 3 from z) (by decide), fun z => absurd (show (2 : Nat) = 6 from z) (by decide), fun _ => by
          show mI _ 6 j 4 = _
          exact hE105⟩)
set_option maxHeartbeats 1000000 in
set_option maxRecDepth 4000 in
theorem stq_3 {d : Nat} {b : Nat → Int32} {n s e j : Nat} {k : Int32} {y : Nat} {Y : Yd} {M M1 : Mem} {Q : Out → Mem → Prop} (h1 : Tx M1 b n (s, e, k, 0, -1)) (g1 : Yv M1 y Y) (G1 : Fr (inJ j) M M1) (hV : mR M1 6 j 0 = some (rf 22 3)) (hq : ∀ M', PoS b n j (sqP b n e 3 Y) M M' → Q (.inl (some (.int (okQ (sqP b n e 3 Y))))) M') : WP mX7_parse (d + 6) 117 [.ref (rf 6 j), .ref (rf 22 3), .ref (rf 7 0), .ref (rf 9 y)] [] M1 Q := by
  have hr : sqP b n e 3 Y = qC b n e Y (fun c e => qW b n e 19 (fun e => qC b n e Y (fun t e => .inr (e, (3, c, t, 0))))) := rfl
  rw [hr] at hq
  refine R.aload_n dX7_parse_117 rfl (by first | rfl | exact rfv_rf _) ?_
  refine R.aload_n dX7_parse_118 rfl (by first | rfl | exact rfv_rf _) ?_
  refine R.aload_n dX7_parse_119 rfl (by first | rfl | exact rfv_rf _) ?_
  refine cl_X7_40 rfl rfl (by first | exact Nat.le_of_ble_eq_true rfl | simp [rf_cat, Value.category]) dX7_parse_120 ?_
  refine s_stCr h1 g1 (fun M120 h120 F120 S120 E120 => ?_)
  have g120 := g1.fr F120 nJY
  have G120 := G1.tr F120
  refine R.if_eq (tgt := 148) dX7_parse_123 (by decide) (fun c123 => ?_) (fun c123 => ?_)
  · refine R.iconst (v := 0) dX7_parse_148 rfl ?_
    refine WP.ret (ov := some (.int _)) dX7_parse_149 ⟨rfl, _, rfl, by first | rfl | assumption | exact nar_b01 (by assumption)⟩ ?_
    have w120 := er_1 c123
    rw [qC_no w120] at hq
    exact hq _ (PoS.no G120 (h120.no w120))
  · have z120 := er_0 c123
    obtain ⟨c120_, hc120, hE120⟩ := E120 z120
    rw [qC_ok z120 hc120] at hq
    refine R.aload_n dX7_parse_126 rfl (by first | rfl | exact rfv_rf _) ?_
    refine R.ldcS (i := 19) rfl dX7_parse_127 ?_
    refine cl_X7_50 rfl rfl (by first | exact Nat.le_of_ble_eq_true rfl | simp [rf_cat, Value.category]) dX7_parse_129 ?_
    refine s_tWord (h120.ok z120) (by decide) (fun M129 h129 F129 => ?_)
    have g129 := g120.fr F129 nTY
    have G129 := G120.tr (F129.mo J_T)
    have S129 := Sf.T (j := j) (f := 0) F129
    refine R.if_eq (tgt := 148) dX7_parse_132 (by decide) (fun c132 => ?_) (fun c132 => ?_)
    · refine R.iconst (v := 0) dX7_parse_148 rfl ?_
      refine WP.ret (ov := some (.int _)) dX7_parse_149 ⟨rfl, _, rfl, by first | rfl | assumption | exact nar_b01 (by assumption)⟩ ?_
      have w129 := er_1 c132
      rw [qW, if_neg w129] at hq
      exact hq _ (PoS.no G129 (h129.no w129))
    · have z129 := er_0 c132
      rw [qW, if_pos z129] at hq
      refine R.aload_n dX7_parse_135 rfl (by first | rfl | exact rfv_rf _) ?_
      refine R.aload_n dX7_parse_136 rfl (by first | rfl | exact rfv_rf _) ?_
      refine R.aload_n dX7_parse_137 rfl (by first | rfl | exact rfv_rf _) ?_
      refine cl_X7_56 rfl rfl (by first | exact Nat.le_of_ble_eq_true rfl | simp [rf_cat, Value.category]) dX7_parse_138 ?_
      refine s_stOu (h129.ok z129) g129 (fun M138 h138 F138 S138 E138 => ?_)
      have g138 := g129.fr F138 nJY
      have G138 := G129.tr F138
      refine R.if_eq (tgt := 148) dX7_parse_141 (by decide) (fun c141 => ?_) (fun c141 => ?_)
      · refine R.iconst (v := 0) dX7_parse_148 rfl ?_
        refine WP.ret (ov := some (.int _)) dX7_parse_149 ⟨rfl, _, rfl, by first | rfl | assumption | exact nar_b01 (by assumption)⟩ ?_
        have w138 := er_1 c141
        rw [qC_no w138] at hq
        exact hq _ (PoS.no G138 (h138.no w138))
      · refine R.iconst (v := 1) dX7_parse_144 rfl ?_
        refine R.goto (tgt := 149) dX7_parse_145 (by decide) ?_
        refine WP.ret (ov := some (.int _)) dX7_parse_149 ⟨rfl, _, rfl, by first | rfl | assumption | exact nar_b01 (by assumption)⟩ ?_
        have z138 := er_0 c141
        obtain ⟨c138_, hc138, hE138⟩ := E138 z138
        rw [qC_ok z138 hc138] at hq
        exact hq _ (PoS.yes G138 (h138.ok z138) ⟨by
            show mR _ 6 j 0 = some (rf 22 3)
            rw [S138.2, S129.2, S120.2]
            exact hV, by show 3 < 9; decide, fun _ => by
            show mI _ 6 j 1 = _
            rw [S138.1 1 (by decide)]
            rw [S129.1 1 (by decide)]
            exact hE120, fun _ => by
            show mI _ 6 j 2 = _
            exact hE138, fun z => absurd (show (3 : Nat) = 6 from z) (by decide), fun z => absurd (show nXr 3 = true from z) (by decide)⟩)
set_option maxHeartbeats 1000000 in
set_option maxRecDepth 4000 in
theorem stq_4 {d : Nat} {b : Nat → Int32} {n s e j : Nat} {k : Int32} {y : Nat} {Y : Yd} {M M1 : Mem} {Q : Out → Mem → Prop} (h1 : Tx M1 b n (s, e, k, 0, -1)) (g1 : Yv M1 y Y) (G1 : Fr (inJ j) M M1) (hV : mR M1 6 j 0 = some (rf 22 4)) (hq : ∀ M', PoS b n j (sqP b n e 4 Y) M M' → Q (.inl (some (.int (okQ (sqP b n e 4 Y))))) M') : WP mX7_parse (d + 6) 150 [.ref (rf 6 j), .ref (rf 22 4), .ref (rf 7 0), .ref (rf 9 y)] [] M1 Q := by
  have hr : sqP b n e 4 Y = qC b n e Y (fun c e => .inr (e, (4, c, 0, 0))) := rfl
  rw [hr] at hq
  refine R.aload_n dX7_parse_150 rfl (by first | rfl | exact rfv_rf _) ?_
  refine R.aload_n dX7_parse_151 rfl (by first | rfl | exact rfv_rf _) ?_
  refine R.aload_n dX7_parse_152 rfl (by first | rfl | exact rfv_rf _) ?_
  refine cl_X7_40 rfl rfl (by first | exact Nat.le_of_ble_eq_true rfl | simp [rf_cat, Value.category]) dX7_parse_153 ?_
  refine s_stCr h1 g1 (fun M153 h153 F153 S153 E153 => ?_)
  have g153 := g1.fr F153 nJY
  have G153 := G1.tr F153
  refine WP.ret (ov := some (.int _)) dX7_parse_156 ⟨rfl, _, rfl, nar_b01 (erR_b _)⟩ ?_
  by_cases z153 : ncC b n e Y = 0
  · rw [show erR (ncC b n e Y) = 1 from if_pos z153]
    obtain ⟨c153_, hc153, hE153⟩ := E153 z153
    rw [qC_ok z153 hc153] at hq
    exact hq _ (PoS.yes G153 (h153.ok z153) ⟨by
        show mR _ 6 j 0 = some (rf 22 4)
        rw [S153.2]
        exact hV, by show 4 < 9; decide, fun _ => by
        show mI _ 6 j 1 = _
        exact hE153, fun z => absurd (show (4 : Nat) = 3 from z) (by decide), fun z => absurd (show (4 : Nat) = 6 from z) (by decide), fun z => absurd (show nXr 4 = true from z) (by decide)⟩)
  · have w153 := z153
    rw [show erR (ncC b n e Y) = 0 from if_neg w153]
    rw [qC_no w153] at hq
    exact hq _ (PoS.no G153 (h153.no w153))
set_option maxHeartbeats 1000000 in
set_option maxRecDepth 4000 in
theorem stq_5 {d : Nat} {b : Nat → Int32} {n s e j : Nat} {k : Int32} {y : Nat} {Y : Yd} {M M1 : Mem} {Q : Out → Mem → Prop} (h1 : Tx M1 b n (s, e, k, 0, -1)) (g1 : Yv M1 y Y) (G1 : Fr (inJ j) M M1) (hV : mR M1 6 j 0 = some (rf 22 5)) (hq : ∀ M', PoS b n j (sqP b n e 5 Y) M M' → Q (.inl (some (.int (okQ (sqP b n e 5 Y))))) M') : WP mX7_parse (d + 6) 208 [.ref (rf 6 j), .ref (rf 22 5), .ref (rf 7 0), .ref (rf 9 y)] [] M1 Q := by
  have hr : sqP b n e 5 Y = .inr (e, (5, 0, 0, 0)) := rfl
  rw [hr] at hq
  refine R.iconst (v := 1) dX7_parse_208 rfl ?_
  refine WP.ret (ov := some (.int _)) dX7_parse_209 ⟨rfl, _, rfl, by first | rfl | assumption | exact nar_b01 (by assumption)⟩ ?_
  exact hq _ (PoS.yes G1 h1 ⟨hV, by show 5 < 9; decide, fun z => absurd (show nCr 5 = true from z) (by decide), fun z => absurd (show (5 : Nat) = 3 from z) (by decide), fun z => absurd (show (5 : Nat) = 6 from z) (by decide), fun z => absurd (show nXr 5 = true from z) (by decide)⟩)
set_option maxHeartbeats 1000000 in
set_option maxRecDepth 4000 in
theorem stq_6 {d : Nat} {b : Nat → Int32} {n s e j : Nat} {k : Int32} {y : Nat} {Y : Yd} {M M1 : Mem} {Q : Out → Mem → Prop} (h1 : Tx M1 b n (s, e, k, 0, -1)) (g1 : Yv M1 y Y) (G1 : Fr (inJ j) M M1) (hV : mR M1 6 j 0 = some (rf 22 6)) (hq : ∀ M', PoS b n j (sqP b n e 6 Y) M M' → Q (.inl (some (.int (okQ (sqP b n e 6 Y))))) M') : WP mX7_parse (d + 6) 157 [.ref (rf 6 j), .ref (rf 22 6), .ref (rf 7 0), .ref (rf 9 y)] [] M1 Q := by
  have hr : sqP b n e 6 Y = qC b n e Y (fun c e => qW b n e 20 (fun e => qB b n e Y (fun t e => .inr (e, (6, c, t, 0))))) := rfl
  rw [hr] at hq
  refine R.aload_n dX7_parse_157 rfl (by first | rfl | exact rfv_rf _) ?_
  refine R.aload_n dX7_parse_158 rfl (by first | rfl | exact rfv_rf _) ?_
  refine R.aload_n dX7_parse_159 rfl (by first | rfl | exact rfv_rf _) ?_
  refine cl_X7_40 rfl rfl (by first | exact Nat.le_of_ble_eq_true rfl | simp [rf_cat, Value.category]) dX7_parse_160 ?_
  refine s_stCr h1 g1 (fun M160 h160 F160 S160 E160 => ?_)
  have g160 := g1.fr F160 nJY
  have G160 := G1.tr F160
  refine R.if_eq (tgt := 188) dX7_parse_163 (by decide) (fun c163 => ?_) (fun c163 => ?_)
  · refine R.iconst (v := 0) dX7_parse_188 rfl ?_
    refine WP.ret (ov := some (.int _)) dX7_parse_189 ⟨rfl, _, rfl, by first | rfl | assumption | exact nar_b01 (by assumption)⟩ ?_
    have w160 := er_1 c163
    rw [qC_no w160] at hq
    exact hq _ (PoS.no G160 (h160.no w160))
  · have z160 := er_0 c163
    obtain ⟨c160_, hc160, hE160⟩ := E160 z160
    rw [qC_ok z160 hc160] at hq
    refine R.aload_n dX7_parse_166 rfl (by first | rfl | exact rfv_rf _) ?_
    refine R.ldcS (i := 20) rfl dX7_parse_167 ?_
    refine cl_X7_50 rfl rfl (by first | exact Nat.le_of_ble_eq_true rfl | simp [rf_cat, Value.category]) dX7_parse_169 ?_
    refine s_tWord (h160.ok z160) (by decide) (fun M169 h169 F169 => ?_)
    have g169 := g160.fr F169 nTY
    have G169 := G160.tr (F169.mo J_T)
    have S169 := Sf.T (j := j) (f := 0) F169
    refine R.if_eq (tgt := 188) dX7_parse_172 (by decide) (fun c172 => ?_) (fun c172 => ?_)
    · refine R.iconst (v := 0) dX7_parse_188 rfl ?_
      refine WP.ret (ov := some (.int _)) dX7_parse_189 ⟨rfl, _, rfl, by first | rfl | assumption | exact nar_b01 (by assumption)⟩ ?_
      have w169 := er_1 c172
      rw [qW, if_neg w169] at hq
      exact hq _ (PoS.no G169 (h169.no w169))
    · have z169 := er_0 c172
      rw [qW, if_pos z169] at hq
      refine R.aload_n dX7_parse_175 rfl (by first | rfl | exact rfv_rf _) ?_
      refine R.aload_n dX7_parse_176 rfl (by first | rfl | exact rfv_rf _) ?_
      refine R.aload_n dX7_parse_177 rfl (by first | rfl | exact rfv_rf _) ?_
      refine cl_X7_61 rfl rfl (by first | exact Nat.le_of_ble_eq_true rfl | simp [rf_cat, Value.category]) dX7_parse_178 ?_
      refine s_stBu (h169.ok z169) g169 (fun M178 h178 F178 S178 E178 => ?_)
      have g178 := g169.fr F178 nJY
      have G178 := G169.tr F178
      refine R.if_eq (tgt := 188) dX7_parse_181 (by decide) (fun c181 => ?_) (fun c181 => ?_)
      · refine R.iconst (v := 0) dX7_parse_188 rfl ?_
        refine WP.ret (ov := some (.int _)) dX7_parse_189 ⟨rfl, _, rfl, by first | rfl | assumption | exact nar_b01 (by assumption)⟩ ?_
        have w178 := er_1 c181
        rw [qB_no w178] at hq
        exact hq _ (PoS.no G178 (h178.no w178))
      · refine R.iconst (v := 1) dX7_parse_184 rfl ?_
        refine R.goto (tgt := 189) dX7_parse_185 (by decide) ?_
        refine WP.ret (ov := some (.int _)) dX7_parse_189 ⟨rfl, _, rfl, by first | rfl | assumption | exact nar_b01 (by assumption)⟩ ?_
        have z178 := er_0 c181
        obtain ⟨c178_, hc178, hE178⟩ := E178 z178
        rw [qB_ok z178 hc178] at hq
        exact hq _ (PoS.yes G178 (h178.ok z178) ⟨by
            show mR _ 6 j 0 = some (rf 22 6)
            rw [S178.2, S169.2, S160.2]
            exact hV, by show 6 < 9; decide, fun _ => by
            show mI _ 6 j 1 = _
            rw [S178.1 1 (by decide)]
            rw [S169.1 1 (by decide)]
            exact hE160, fun z => absurd (show (6 : Nat) = 3 from z) (by decide), fun _ => by
            show mI _ 6 j 3 = _
            exact hE178, fun z => absurd (show nXr 6 = true from z) (by decide)⟩)
set_option maxHeartbeats 1000000 in
set_option maxRecDepth 4000 in
theorem stq_7 {d : Nat} {b : Nat → Int32} {n s e j : Nat} {k : Int32} {y : Nat} {Y : Yd} {M M1 : Mem} {Q : Out → Mem → Prop} (h1 : Tx M1 b n (s, e, k, 0, -1)) (g1 : Yv M1 y Y) (G1 : Fr (inJ j) M M1) (hV : mR M1 6 j 0 = some (rf 22 7)) (hq : ∀ M', PoS b n j (sqP b n e 7 Y) M M' → Q (.inl (some (.int (okQ (sqP b n e 7 Y))))) M') : WP mX7_parse (d + 6) 190 [.ref (rf 6 j), .ref (rf 22 7), .ref (rf 7 0), .ref (rf 9 y)] [] M1 Q := by
  have hr : sqP b n e 7 Y = qN b n e 0 50 (fun x => (7, 0, 0, x)) := rfl
  rw [hr] at hq
  refine R.aload_n dX7_parse_190 rfl (by first | rfl | exact rfv_rf _) ?_
  refine R.aload_n dX7_parse_191 rfl (by first | rfl | exact rfv_rf _) ?_
  refine R.iconst (v := 0) dX7_parse_192 rfl ?_
  refine R.bipush (v := 50) dX7_parse_193 (by decide) ?_
  refine cl_X7_44 rfl rfl (by first | exact Nat.le_of_ble_eq_true rfl | simp [rf_cat, Value.category]) dX7_parse_195 ?_
  refine s_stNum h1 (fun M195 h195 F195 S195 E195 => ?_)
  have G195 := G1.tr F195
  refine WP.ret (ov := some (.int _)) dX7_parse_198 ⟨rfl, _, rfl, nar_b01 (erR_b _)⟩ ?_
  by_cases z195 : nbC b n e 0 50 = 0
  · rw [show erR (nbC b n e 0 50) = 1 from if_pos z195]
    have hE195 := E195 z195
    rw [qN, if_pos z195] at hq
    exact hq _ (PoS.yes G195 (h195.ok z195) ⟨by
        show mR _ 6 j 0 = some (rf 22 7)
        rw [S195.2]
        exact hV, by show 7 < 9; decide, fun z => absurd (show nCr 7 = true from z) (by decide), fun z => absurd (show (7 : Nat) = 3 from z) (by decide), fun z => absurd (show (7 : Nat) = 6 from z) (by decide), fun _ => by
        show mI _ 6 j 4 = _
        exact hE195⟩)
  · have w195 := z195
    rw [show erR (nbC b n e 0 50) = 0 from if_neg w195]
    rw [qN, if_neg w195] at hq
    exact hq _ (PoS.no G195 (h195.no w195))
set_option maxHeartbeats 1000000 in
set_option maxRecDepth 4000 in
theorem stq_8 {d : Nat} {b : Nat → Int32} {n s e j : Nat} {k : Int32} {y : Nat} {Y : Yd} {M M1 : Mem} {Q : Out → Mem → Prop} (h1 : Tx M1 b n (s, e, k, 0, -1)) (g1 : Yv M1 y Y) (G1 : Fr (inJ j) M M1) (hV : mR M1 6 j 0 = some (rf 22 8)) (hq : ∀ M', PoS b n j (sqP b n e 8 Y) M M' → Q (.inl (some (.int (okQ (sqP b n e 8 Y))))) M') : WP mX7_parse (d + 6) 199 [.ref (rf 6 j), .ref (rf 22 8), .ref (rf 7 0), .ref (rf 9 y)] [] M1 Q := by
  have hr : sqP b n e 8 Y = qN b n e 1 100 (fun x => (8, 0, 0, x)) := rfl
  rw [hr] at hq
  refine R.aload_n dX7_parse_199 rfl (by first | rfl | exact rfv_rf _) ?_
  refine R.aload_n dX7_parse_200 rfl (by first | rfl | exact rfv_rf _) ?_
  refine R.iconst (v := 1) dX7_parse_201 rfl ?_
  refine R.bipush (v := 100) dX7_parse_202 (by decide) ?_
  refine cl_X7_44 rfl rfl (by first | exact Nat.le_of_ble_eq_true rfl | simp [rf_cat, Value.category]) dX7_parse_204 ?_
  refine s_stNum h1 (fun M204 h204 F204 S204 E204 => ?_)
  have G204 := G1.tr F204
  refine WP.ret (ov := some (.int _)) dX7_parse_207 ⟨rfl, _, rfl, nar_b01 (erR_b _)⟩ ?_
  by_cases z204 : nbC b n e 1 100 = 0
  · rw [show erR (nbC b n e 1 100) = 1 from if_pos z204]
    have hE204 := E204 z204
    rw [qN, if_pos z204] at hq
    exact hq _ (PoS.yes G204 (h204.ok z204) ⟨by
        show mR _ 6 j 0 = some (rf 22 8)
        rw [S204.2]
        exact hV, by show 8 < 9; decide, fun z => absurd (show nCr 8 = true from z) (by decide), fun z => absurd (show (8 : Nat) = 3 from z) (by decide), fun z => absurd (show (8 : Nat) = 6 from z) (by decide), fun _ => by
        show mI _ 6 j 4 = _
        exact hE204⟩)
  · have w204 := z204
    rw [show erR (nbC b n e 1 100) = 0 from if_neg w204]
    rw [qN, if_neg w204] at hq
    exact hq _ (PoS.no G204 (h204.no w204))
set_option maxHeartbeats 1000000 in
set_option maxRecDepth 4000 in
theorem s_stPar {d : Nat} {b : Nat → Int32} {n s e j : Nat} {k : Int32} {y v : Nat} {Y : Yd} {M : Mem} {Q : Out → Mem → Prop} (h : Tx M b n (s, e, k, 0, -1)) (g : Yv M y Y) (hv : v < 9) (hq : ∀ M', PoS b n j (sqP b n e v Y) M M' → Q (.inl (some (.int (okQ (sqP b n e v Y))))) M') : WPc (d + 6) mX7_parse [.ref (rf 6 j), .ref (rf 22 v), .ref (rf 7 0), .ref (rf 9 y)] M Q := by
  refine WPc.of (by decide +kernel) (Nat.le_of_ble_eq_true rfl) rfl ?_
  have h1 : Tx (sR M 6 j 0 (some (rf 22 v))) b n (s, e, k, 0, -1) := h.frR
  have g1 : Yv (sR M 6 j 0 (some (rf 22 v))) y Y := g.frR
  have G1 : Fr (inJ j) M (sR M 6 j 0 (some (rf 22 v))) := Fr.sR (Fr.rf _ _) (Or.inr ⟨rfl, rfl⟩)
  have hV : mR (sR M 6 j 0 (some (rf 22 v))) 6 j 0 = some (rf 22 v) := by rw [mR_sR, if_pos ⟨rfl, rfl, rfl⟩]
  refine R.aload_n dX7_parse_0 rfl (by first | rfl | exact rfv_rf _) ?_
  refine R.aload_n dX7_parse_1 rfl (by first | rfl | exact rfv_rf _) ?_
  refine R.putR (x := some (rf 22 v)) dX7_parse_2 fl_X7_15 (fun q hq => by cases hq; exact Or.inl rfl) rfl ?_
  refine R.gsSwitch (gt_i 722 (by decide +kernel) rfl) dX7_parse_5 ?_
  refine R.aload_n dX7_parse_8 rfl (by first | rfl | exact rfv_rf _) ?_
  refine R.getS (hV) dX7_parse_9 fl_X7_15 (by decide) rfl ?_
  refine cl_X7_36 hv rfl rfl (by first | exact Nat.le_of_ble_eq_true rfl | simp [rf_cat, Value.category]) dX7_parse_12 ?_
  refine s_ord hv ?_
  refine R.swIald dX7_parse_15 (nI_pos (by omega)) (by rw [nI_clamp (by omega)]; exact hv) ?_
  rcases (show v = 0 ∨ v = 1 ∨ v = 2 ∨ v = 3 ∨ v = 4 ∨ v = 5 ∨ v = 6 ∨ v = 7 ∨ v = 8 by omega) with rfl | rfl | rfl | rfl | rfl | rfl | rfl | rfl | rfl
  · rw [show swM (nI 0).toNatClampNeg = 1 by decide +kernel]
    refine R.tableIn (tgt := 64) dX7_parse_16 (by decide) (by decide) rfl (by decide) ?_
    exact stq_0 h1 g1 G1 hV hq
  · rw [show swM (nI 1).toNatClampNeg = 2 by decide +kernel]
    refine R.tableIn (tgt := 90) dX7_parse_16 (by decide) (by decide) rfl (by decide) ?_
    exact stq_1 h1 g1 G1 hV hq
  · rw [show swM (nI 2).toNatClampNeg = 3 by decide +kernel]
    refine R.tableIn (tgt := 90) dX7_parse_16 (by decide) (by decide) rfl (by decide) ?_
    exact stq_2 h1 g1 G1 hV hq
  · rw [show swM (nI 3).toNatClampNeg = 4 by decide +kernel]
    refine R.tableIn (tgt := 117) dX7_parse_16 (by decide) (by decide) rfl (by decide) ?_
    exact stq_3 h1 g1 G1 hV hq
  · rw [show swM (nI 4).toNatClampNeg = 5 by decide +kernel]
    refine R.tableIn (tgt := 150) dX7_parse_16 (by decide) (by decide) rfl (by decide) ?_
    exact stq_4 h1 g1 G1 hV hq
  · rw [show swM (nI 5).toNatClampNeg = 9 by decide +kernel]
    refine R.tableOut (tgt := 208) dX7_parse_16 (by decide) (by decide) ?_
    exact stq_5 h1 g1 G1 hV hq
  · rw [show swM (nI 6).toNatClampNeg = 6 by decide +kernel]
    refine R.tableIn (tgt := 157) dX7_parse_16 (by decide) (by decide) rfl (by decide) ?_
    exact stq_6 h1 g1 G1 hV hq
  · rw [show swM (nI 7).toNatClampNeg = 7 by decide +kernel]
    refine R.tableIn (tgt := 190) dX7_parse_16 (by decide) (by decide) rfl (by decide) ?_
    exact stq_7 h1 g1 G1 hV hq
  · rw [show swM (nI 8).toNatClampNeg = 8 by decide +kernel]
    refine R.tableIn (tgt := 199) dX7_parse_16 (by decide) (by decide) rfl (by decide) ?_
    exact stq_8 h1 g1 G1 hV hq
