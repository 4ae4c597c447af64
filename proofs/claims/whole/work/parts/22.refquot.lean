theorem rr_qm_skip {c : Bool} {l h d : Int64} {z : Int64 × Int64} (hc : c = false) : rr_qm c l h d z = z := by rw [hc]; rfl
theorem rr_qm_take {c : Bool} {l h d : Int64} {z : Int64 × Int64} (hc : c = true) : rr_qm c l h d z = (rr_mn z.1 (rr_mn (l / d) (h / d)), rr_mx z.2 (rr_mx (l / d) (h / d))) := by rw [hc]; rfl
theorem rr_qc_0 {m n d : Int64} (h : d = 0) : rr_qc m n d = false := decide_eq_false (fun z => z.1 h)
theorem rr_qc_t {m n d : Int64} (h0 : ¬ d = 0) (h1 : m ≤ d) (h2 : d ≤ n) : rr_qc m n d = true := decide_eq_true ⟨h0, h1, h2⟩
set_option maxHeartbeats 1000000 in
set_option maxRecDepth 100000 in
/-- one divisor of quotient: taken, or passed over -/
theorem rr_qstep {p : Program} {l : Launch} {e : Env} {s : State} {m : MethodId} {args : Array Value} {below : List Frame} {meth : Method} {c : Code} {H : Heap} {locs : List Loc} {Q : State → Prop} (hx : p.tables.exec = Jvm.exec) (hb : c.code = cX2_quotient) (hml : c.maxLocals = 12) (hown : s.vm.findClass RX2 = some m.cls) (hts : ∀ w ∈ wsX2_quotient, w.before args s = true) {h0 : Nat} {x1 x2 x3 x4 k : Int32} {d : Int64} {z : Int64 × Int64} {ls : Array Slot} (hl : lv_has ls 12 [(10, .long d), (9, .int k), (7, .long z.2), (5, .long z.1), (0, .ref h0), (1, .int x1), (2, .int x2), (3, .int x3), (4, .int x4)]) (next : ∀ ls : Array Slot, lv_has ls 12 [(9, .int k), (7, .long ((rr_qm (rr_qc x3.toInt64 x4.toInt64 d) x1.toInt64 x2.toInt64 d z).2)), (5, .long ((rr_qm (rr_qc x3.toInt64 x4.toInt64 d) x1.toInt64 x2.toInt64 d z).1)), (0, .ref h0), (1, .int x1), (2, .int x2), (3, .int x3), (4, .int x4)] → W p l e (headSpec wsX2_quotient ({ frames := 3, cells := 0, slots := 0, locals := 68 })).room s m args below meth c H locs 0 0 Q (F0 m 118 ls [])) : W p l e (headSpec wsX2_quotient ({ frames := 3, cells := 0, slots := 0, locals := 68 })).room s m args below meth c H locs 0 0 Q (F0 m 51 ls []) := by
  refine lv_lload hx hb dX2_quotient_51 (lv_at hl 0 rfl) ?_
  refine lv_lconst (v := 0) hx hb dX2_quotient_53 (by decide) ?_
  refine W.lcmp hx hb dX2_quotient_54 ?_
  refine lv_if_eq (tgt := 118) hx hb dX2_quotient_55 (by decide) (fun c55 => ?_) (fun c55 => ?_)
  · skip
    have ee : (rr_qm (rr_qc x3.toInt64 x4.toInt64 d) x1.toInt64 x2.toInt64 d z) = z := rr_qm_skip (rr_qc_0 ((lg_cmp_eq _ _).mp c55))
    refine next ls ?_
    rw [ee]
    exact lv_sub hl [1, 2, 3, 4, 5, 6, 7, 8] rfl
  · skip
    refine lv_lload hx hb dX2_quotient_58 (lv_at hl 0 rfl) ?_
    refine lv_iload_n hx hb dX2_quotient_60 rfl (lv_at hl 7 rfl) ?_
    refine lv_i2l (v := x3.toInt64) hx hb dX2_quotient_61 rfl ?_
    refine W.lcmp hx hb dX2_quotient_62 ?_
    refine lv_if_lt (tgt := 118) hx hb dX2_quotient_63 (by decide) (fun c63 => ?_) (fun c63 => ?_)
    · skip
      have ee : (rr_qm (rr_qc x3.toInt64 x4.toInt64 d) x1.toInt64 x2.toInt64 d z) = z := rr_qm_skip (rr_qc_lo ((lg_cmp_lt _ _).mp c63))
      refine next ls ?_
      rw [ee]
      exact lv_sub hl [1, 2, 3, 4, 5, 6, 7, 8] rfl
    · skip
      refine lv_lload hx hb dX2_quotient_66 (lv_at hl 0 rfl) ?_
      refine lv_iload hx hb dX2_quotient_68 (lv_at hl 8 rfl) ?_
      refine lv_i2l (v := x4.toInt64) hx hb dX2_quotient_70 rfl ?_
      refine W.lcmp hx hb dX2_quotient_71 ?_
      refine lv_if_le (tgt := 78) hx hb dX2_quotient_72 (by decide) (fun c72 => ?_) (fun c72 => ?_)
      · skip
        refine lv_lload hx hb dX2_quotient_78 (lv_at hl 3 rfl) ?_
        refine lv_iload_n hx hb dX2_quotient_80 rfl (lv_at hl 5 rfl) ?_
        refine lv_i2l (v := x1.toInt64) hx hb dX2_quotient_81 rfl ?_
        refine lv_lload hx hb dX2_quotient_82 (lv_at hl 0 rfl) ?_
        refine lv_ldiv hx hb dX2_quotient_84 (fun z => c55 ((lg_cmp_eq _ _).mpr z)) ?_
        refine lv_iload_n hx hb dX2_quotient_85 rfl (lv_at hl 6 rfl) ?_
        refine lv_i2l (v := x2.toInt64) hx hb dX2_quotient_86 rfl ?_
        refine lv_lload hx hb dX2_quotient_87 (lv_at hl 0 rfl) ?_
        refine lv_ldiv hx hb dX2_quotient_89 (fun z => c55 ((lg_cmp_eq _ _).mpr z)) ?_
        refine va_mmin_long hx hb (hml.trans hl.1.symm) hown (hts (.methodLink RX2 63 Lib.MathLoose.min_long.x) (by decide +kernel)) (hts (.static Lib.MathLoose.min_long.x) (by decide +kernel)) (hts (.initialized "java/lang/Math") (by decide +kernel)) (hts (.code Lib.MathLoose.min_long.x Lib.MathLoose.min_long.code 4 (some .long)) (by decide +kernel)) (Nat.le_of_ble_eq_true rfl) (Nat.le_of_ble_eq_true rfl) (Nat.le_of_ble_eq_true rfl) (Nat.le_of_ble_eq_true rfl) dX2_quotient_90 ?_
        refine W.eq (g2 := F0 m 93 ls [.long (rr_mn (x1.toInt64 / d) (x2.toInt64 / d)), .long z.1]) rfl ?_
        refine va_mmin_long hx hb (hml.trans hl.1.symm) hown (hts (.methodLink RX2 63 Lib.MathLoose.min_long.x) (by decide +kernel)) (hts (.static Lib.MathLoose.min_long.x) (by decide +kernel)) (hts (.initialized "java/lang/Math") (by decide +kernel)) (hts (.code Lib.MathLoose.min_long.x Lib.MathLoose.min_long.code 4 (some .long)) (by decide +kernel)) (Nat.le_of_ble_eq_true rfl) (Nat.le_of_ble_eq_true rfl) (Nat.le_of_ble_eq_true rfl) (Nat.le_of_ble_eq_true rfl) dX2_quotient_93 ?_
        refine W.eq (g2 := F0 m 96 ls [.long (rr_mn z.1 (rr_mn (x1.toInt64 / d) (x2.toInt64 / d)))]) rfl ?_
        refine lv_lstore (lv' := [(5, .long (rr_mn z.1 (rr_mn (x1.toInt64 / d) (x2.toInt64 / d)))), (10, .long d), (9, .int k), (7, .long z.2), (0, .ref h0), (1, .int x1), (2, .int x2), (3, .int x3), (4, .int x4)]) hx hb dX2_quotient_96 hl (by decide) rfl (fun ls hl => ?_)
        refine lv_lload hx hb dX2_quotient_98 (lv_at hl 3 rfl) ?_
        refine lv_iload_n hx hb dX2_quotient_100 rfl (lv_at hl 5 rfl) ?_
        refine lv_i2l (v := x1.toInt64) hx hb dX2_quotient_101 rfl ?_
        refine lv_lload hx hb dX2_quotient_102 (lv_at hl 1 rfl) ?_
        refine lv_ldiv hx hb dX2_quotient_104 (fun z => c55 ((lg_cmp_eq _ _).mpr z)) ?_
        refine lv_iload_n hx hb dX2_quotient_105 rfl (lv_at hl 6 rfl) ?_
        refine lv_i2l (v := x2.toInt64) hx hb dX2_quotient_106 rfl ?_
        refine lv_lload hx hb dX2_quotient_107 (lv_at hl 1 rfl) ?_
        refine lv_ldiv hx hb dX2_quotient_109 (fun z => c55 ((lg_cmp_eq _ _).mpr z)) ?_
        refine va_mmax_long hx hb (hml.trans hl.1.symm) hown (hts (.methodLink RX2 66 Lib.MathLoose.max_long.x) (by decide +kernel)) (hts (.static Lib.MathLoose.max_long.x) (by decide +kernel)) (hts (.initialized "java/lang/Math") (by decide +kernel)) (hts (.code Lib.MathLoose.max_long.x Lib.MathLoose.max_long.code 4 (some .long)) (by decide +kernel)) (Nat.le_of_ble_eq_true rfl) (Nat.le_of_ble_eq_true rfl) (Nat.le_of_ble_eq_true rfl) (Nat.le_of_ble_eq_true rfl) dX2_quotient_110 ?_
        refine W.eq (g2 := F0 m 113 ls [.long (rr_mx (x1.toInt64 / d) (x2.toInt64 / d)), .long z.2]) rfl ?_
        refine va_mmax_long hx hb (hml.trans hl.1.symm) hown (hts (.methodLink RX2 66 Lib.MathLoose.max_long.x) (by decide +kernel)) (hts (.static Lib.MathLoose.max_long.x) (by decide +kernel)) (hts (.initialized "java/lang/Math") (by decide +kernel)) (hts (.code Lib.MathLoose.max_long.x Lib.MathLoose.max_long.code 4 (some .long)) (by decide +kernel)) (Nat.le_of_ble_eq_true rfl) (Nat.le_of_ble_eq_true rfl) (Nat.le_of_ble_eq_true rfl) (Nat.le_of_ble_eq_true rfl) dX2_quotient_113 ?_
        refine W.eq (g2 := F0 m 116 ls [.long (rr_mx z.2 (rr_mx (x1.toInt64 / d) (x2.toInt64 / d)))]) rfl ?_
        refine lv_lstore (lv' := [(7, .long (rr_mx z.2 (rr_mx (x1.toInt64 / d) (x2.toInt64 / d)))), (5, .long (rr_mn z.1 (rr_mn (x1.toInt64 / d) (x2.toInt64 / d)))), (10, .long d), (9, .int k), (0, .ref h0), (1, .int x1), (2, .int x2), (3, .int x3), (4, .int x4)]) hx hb dX2_quotient_116 hl (by decide) rfl (fun ls hl => ?_)
        have ee : (rr_qm (rr_qc x3.toInt64 x4.toInt64 d) x1.toInt64 x2.toInt64 d z) = (rr_mn z.1 (rr_mn (x1.toInt64 / d) (x2.toInt64 / d)), rr_mx z.2 (rr_mx (x1.toInt64 / d) (x2.toInt64 / d))) := rr_qm_take (rr_qc_t (fun z => c55 ((lg_cmp_eq _ _).mpr z)) (Int64.not_lt.mp (fun z => c63 ((lg_cmp_lt _ _).mpr z))) ((lg_cmp_le _ _).mp c72))
        refine next ls ?_
        rw [ee]
        exact lv_sub hl [3, 0, 1, 4, 5, 6, 7, 8] rfl
      · skip
        refine lv_goto (tgt := 118) hx hb dX2_quotient_75 (by decide) ?_
        have ee : (rr_qm (rr_qc x3.toInt64 x4.toInt64 d) x1.toInt64 x2.toInt64 d z) = z := rr_qm_skip (rr_qc_hi (Int64.not_le.mp (fun z => c72 ((lg_cmp_le _ _).mpr z))))
        refine next ls ?_
        rw [ee]
        exact lv_sub hl [1, 2, 3, 4, 5, 6, 7, 8] rfl
set_option maxHeartbeats 1000000 in
set_option maxRecDepth 100000 in
/-- quotient -/
theorem c_X2_quotient (l : Launch) (D : va_G) (h0 qT sz : Nat) (cA : ClassId) (f : Nat → Int32) (n t : Nat) (lo hi : Int32) (x1 x2 x3 x4 : Int32) (hn : n ≤ 187) (hmn : x3 ≤ x4) : Met l yX2_quotient wsX2_quotient ({ frames := 3, cells := 0, slots := 0, locals := 68 }) (rr_pW D (rr_wm h0 qT cA f n t lo hi) [(cA, .int)] [.ref h0, .int x1, .int x2, .int x3, .int x4] sz) (va_Qi (fun r (_ : Unit) => r = (if x3 = 0 ∧ x4 = 0 then ((0 : Int32), lo, hi) else ((1 : Int32), rr_tl f n (rr_qs x1.toInt64 x2.toInt64 x3.toInt64 x4.toInt64).1 (rr_qs x1.toInt64 x2.toInt64 x3.toInt64 x4.toInt64).2)).1) (fun _ tt => va_P D vwCl (rr_wm h0 qT cA f n t (if x3 = 0 ∧ x4 = 0 then ((0 : Int32), lo, hi) else ((1 : Int32), rr_tl f n (rr_qs x1.toInt64 x2.toInt64 x3.toInt64 x4.toInt64).1 (rr_qs x1.toInt64 x2.toInt64 x3.toInt64 x4.toInt64).2)).2.1 (if x3 = 0 ∧ x4 = 0 then ((0 : Int32), lo, hi) else ((1 : Int32), rr_tl f n (rr_qs x1.toInt64 x2.toInt64 x3.toInt64 x4.toInt64).1 (rr_qs x1.toInt64 x2.toInt64 x3.toInt64 x4.toInt64).2)).2.2) tt.heap) (va_A (rr_wm h0 qT cA f n t lo hi) sz)) 0 0 (va_A (rr_wm h0 qT cA f n t lo hi) sz) := by
  refine Met.ofW (cc := cX2_quotient) (maxL := 12) (ret := (some .int)) (by decide) rfl ?_
  intro p e s m args below meth c s₁ B hml hv
  obtain ⟨rfl, hsz, hP, hK, hD0⟩ := hv
  have hx := B.exec
  have hb := B.bytes
  have hr := B.returns
  have hts := atoms_spec (ws := wsX2_quotient) B.pre
  have hown : s.vm.findClass RX2 = some m.cls := findClass_of_methodNamed B.named
  have hlocks := B.notSynchronized
  subst hsz
  have hD := hD0.self (sz := s.heap.size)
  generalize hAe : va_A [(h0, .inr (2, [.ref qT, .int (nI n), .int (nI t), .int lo, .int hi])), (qT, .inl (cA, 187, .inl f))] s.heap.size = A at hD ⊢
  have hA : ∀ q : Nat, s.heap.size ≤ q → A q := fun q h => by rw [← hAe]; exact Or.inr h
  have hS : va_S A s.heap s.heap [] := va_S.rf
  have hP : va_P D vwCl [(h0, .inr (2, [.ref qT, .int (nI n), .int (nI t), .int lo, .int hi])), (qT, .inl (cA, 187, .inl f))] s.heap := hP
  have hiX2 : ∀ w ∈ wsX20, w ∈ wsX2_quotient := by decide +kernel
  have hl := lv_entry ([.ref h0, .int x1, .int x2, .int x3, .int x4]) (n := 12) (Nat.le_of_ble_eq_true rfl)
  rw [lg_entry_eq]
  generalize (lg_sl ([.ref h0, .int x1, .int x2, .int x3, .int x4]) ++ List.replicate (12 - (lg_sl ([.ref h0, .int x1, .int x2, .int x3, .int x4])).length) Slot.unset).toArray = ls at hl ⊢
  have hl : lv_has ls 12 [(0, .ref h0), (1, .int x1), (2, .int x2), (3, .int x3), (4, .int x4)] := hl
  refine lv_ldc2 (v := 9223372036854775807) hx hb hown (hts (.constantLong RX2 96 9223372036854775807) (by decide +kernel)) dX2_quotient_0 ?_
  refine lv_lstore (lv' := [(5, .long 9223372036854775807), (0, .ref h0), (1, .int x1), (2, .int x2), (3, .int x3), (4, .int x4)]) hx hb dX2_quotient_3 hl (by decide) rfl (fun ls hl => ?_)
  refine lv_ldc2 (v := (-9223372036854775808)) hx hb hown (hts (.constantLong RX2 98 (-9223372036854775808)) (by decide +kernel)) dX2_quotient_5 ?_
  refine lv_lstore (lv' := [(7, .long ((-9223372036854775808))), (5, .long 9223372036854775807), (0, .ref h0), (1, .int x1), (2, .int x2), (3, .int x3), (4, .int x4)]) hx hb dX2_quotient_8 hl (by decide) rfl (fun ls hl => ?_)
  refine lv_iconst (v := 0) hx hb dX2_quotient_10 (by decide) ?_
  refine lv_istore (lv' := [(9, .int 0), (7, .long ((-9223372036854775808))), (5, .long 9223372036854775807), (0, .ref h0), (1, .int x1), (2, .int x2), (3, .int x3), (4, .int x4)]) hx hb dX2_quotient_11 hl (by decide) rfl (fun ls hl => ?_)
  refine lv_iload hx hb dX2_quotient_13 (lv_at hl 0 rfl) ?_
  refine lv_iconst (v := 4) hx hb dX2_quotient_15 (by decide) ?_
  refine lv_icmp_ge (tgt := 124) hx hb dX2_quotient_16 (by decide) (fun c16 => ?_) (fun c16 => ?_)
  · skip
    exact absurd c16 (by decide)
  · skip
    refine lv_iload hx hb dX2_quotient_19 (lv_at hl 0 rfl) ?_
    refine lv_iconst (v := 2) hx hb dX2_quotient_21 (by decide) ?_
    refine lv_icmp_ge (tgt := 35) hx hb dX2_quotient_22 (by decide) (fun c22 => ?_) (fun c22 => ?_)
    · skip
      exact absurd c22 (by decide)
    · skip
      refine lv_iconst (v := 2) hx hb dX2_quotient_25 (by decide) ?_
      refine lv_iload hx hb dX2_quotient_26 (lv_at hl 0 rfl) ?_
      refine lv_imul hx hb dX2_quotient_28 ?_
      refine lv_iconst (v := 1) hx hb dX2_quotient_29 (by decide) ?_
      refine lv_isub hx hb dX2_quotient_30 ?_
      refine W.eq (congrArg (fun z => F0 m 31 ls (.int z :: [])) (show (2 : Int32) * 0 - 1 = (-1) by decide)) ?_
      refine lv_i2l (v := (((-1) : Int32).toInt64)) hx hb dX2_quotient_31 rfl ?_
      refine lv_goto (tgt := 49) hx hb dX2_quotient_32 (by decide) ?_
      refine W.eq (congrArg (fun z => F0 m 49 ls (.long z :: [])) (show (((-1) : Int32).toInt64) = (-1) by decide)) ?_
      refine lv_lstore (lv' := [(10, .long ((-1))), (9, .int 0), (7, .long ((-9223372036854775808))), (5, .long 9223372036854775807), (0, .ref h0), (1, .int x1), (2, .int x2), (3, .int x3), (4, .int x4)]) hx hb dX2_quotient_49 hl (by decide) rfl (fun ls hl => ?_)
      refine rr_qstep (z := rr_q0) (d := (-1)) hx hb hml hown hts (lv_sub hl [0, 1, 2, 3, 4, 5, 6, 7, 8] rfl) (fun ls hl => ?_)
      obtain ⟨z1, g1⟩ : ∃ z, z = rr_qm (rr_qc x3.toInt64 x4.toInt64 (-1)) x1.toInt64 x2.toInt64 (-1) rr_q0 := ⟨_, rfl⟩
      rw [← g1] at hl
      have hl : lv_has ls 12 [(9, .int 0), (7, .long z1.2), (5, .long z1.1), (0, .ref h0), (1, .int x1), (2, .int x2), (3, .int x3), (4, .int x4)] := hl
      refine lv_iinc (v := 1) (lv' := [(9, .int 1), (7, .long z1.2), (5, .long z1.1), (0, .ref h0), (1, .int x1), (2, .int x2), (3, .int x3), (4, .int x4)]) hx hb dX2_quotient_118 hl (k := 0) rfl (by decide) (by decide) rfl (fun ls hl => ?_)
      refine lv_goto (tgt := 13) hx hb dX2_quotient_121 (by decide) ?_
      refine lv_iload hx hb dX2_quotient_13 (lv_at hl 0 rfl) ?_
      refine lv_iconst (v := 4) hx hb dX2_quotient_15 (by decide) ?_
      refine lv_icmp_ge (tgt := 124) hx hb dX2_quotient_16 (by decide) (fun c16 => ?_) (fun c16 => ?_)
      · skip
        exact absurd c16 (by decide)
      · skip
        refine lv_iload hx hb dX2_quotient_19 (lv_at hl 0 rfl) ?_
        refine lv_iconst (v := 2) hx hb dX2_quotient_21 (by decide) ?_
        refine lv_icmp_ge (tgt := 35) hx hb dX2_quotient_22 (by decide) (fun c22 => ?_) (fun c22 => ?_)
        · skip
          exact absurd c22 (by decide)
        · skip
          refine lv_iconst (v := 2) hx hb dX2_quotient_25 (by decide) ?_
          refine lv_iload hx hb dX2_quotient_26 (lv_at hl 0 rfl) ?_
          refine lv_imul hx hb dX2_quotient_28 ?_
          refine lv_iconst (v := 1) hx hb dX2_quotient_29 (by decide) ?_
          refine lv_isub hx hb dX2_quotient_30 ?_
          refine W.eq (congrArg (fun z => F0 m 31 ls (.int z :: [])) (show (2 : Int32) * 1 - 1 = 1 by decide)) ?_
          refine lv_i2l (v := ((1 : Int32).toInt64)) hx hb dX2_quotient_31 rfl ?_
          refine lv_goto (tgt := 49) hx hb dX2_quotient_32 (by decide) ?_
          refine W.eq (congrArg (fun z => F0 m 49 ls (.long z :: [])) (show ((1 : Int32).toInt64) = 1 by decide)) ?_
          refine lv_lstore (lv' := [(10, .long 1), (9, .int 1), (7, .long z1.2), (5, .long z1.1), (0, .ref h0), (1, .int x1), (2, .int x2), (3, .int x3), (4, .int x4)]) hx hb dX2_quotient_49 hl (by decide) rfl (fun ls hl => ?_)
          refine rr_qstep (z := z1) (d := 1) hx hb hml hown hts (lv_sub hl [0, 1, 2, 3, 4, 5, 6, 7, 8] rfl) (fun ls hl => ?_)
          obtain ⟨z2, g2⟩ : ∃ z, z = rr_qm (rr_qc x3.toInt64 x4.toInt64 1) x1.toInt64 x2.toInt64 1 z1 := ⟨_, rfl⟩
          rw [← g2] at hl
          have hl : lv_has ls 12 [(9, .int 1), (7, .long z2.2), (5, .long z2.1), (0, .ref h0), (1, .int x1), (2, .int x2), (3, .int x3), (4, .int x4)] := hl
          refine lv_iinc (v := 2) (lv' := [(9, .int 2), (7, .long z2.2), (5, .long z2.1), (0, .ref h0), (1, .int x1), (2, .int x2), (3, .int x3), (4, .int x4)]) hx hb dX2_quotient_118 hl (k := 0) rfl (by decide) (by decide) rfl (fun ls hl => ?_)
          refine lv_goto (tgt := 13) hx hb dX2_quotient_121 (by decide) ?_
          refine lv_iload hx hb dX2_quotient_13 (lv_at hl 0 rfl) ?_
          refine lv_iconst (v := 4) hx hb dX2_quotient_15 (by decide) ?_
          refine lv_icmp_ge (tgt := 124) hx hb dX2_quotient_16 (by decide) (fun c16 => ?_) (fun c16 => ?_)
          · skip
            exact absurd c16 (by decide)
          · skip
            refine lv_iload hx hb dX2_quotient_19 (lv_at hl 0 rfl) ?_
            refine lv_iconst (v := 2) hx hb dX2_quotient_21 (by decide) ?_
            refine lv_icmp_ge (tgt := 35) hx hb dX2_quotient_22 (by decide) (fun c22 => ?_) (fun c22 => ?_)
            · skip
              refine lv_iload hx hb dX2_quotient_35 (lv_at hl 0 rfl) ?_
              refine lv_iconst (v := 2) hx hb dX2_quotient_37 (by decide) ?_
              refine lv_icmp_ne (tgt := 46) hx hb dX2_quotient_38 (by decide) (fun c38 => ?_) (fun c38 => ?_)
              · skip
                exact absurd c38 (by decide)
              · skip
                refine lv_iload_n hx hb dX2_quotient_41 rfl (lv_at hl 6 rfl) ?_
                refine lv_i2l (v := x3.toInt64) hx hb dX2_quotient_42 rfl ?_
                refine lv_goto (tgt := 49) hx hb dX2_quotient_43 (by decide) ?_
                refine lv_lstore (lv' := [(10, .long x3.toInt64), (9, .int 2), (7, .long z2.2), (5, .long z2.1), (0, .ref h0), (1, .int x1), (2, .int x2), (3, .int x3), (4, .int x4)]) hx hb dX2_quotient_49 hl (by decide) rfl (fun ls hl => ?_)
                refine rr_qstep (z := z2) (d := x3.toInt64) hx hb hml hown hts (lv_sub hl [0, 1, 2, 3, 4, 5, 6, 7, 8] rfl) (fun ls hl => ?_)
                obtain ⟨z3, g3⟩ : ∃ z, z = rr_qm (rr_qc x3.toInt64 x4.toInt64 x3.toInt64) x1.toInt64 x2.toInt64 x3.toInt64 z2 := ⟨_, rfl⟩
                rw [← g3] at hl
                have hl : lv_has ls 12 [(9, .int 2), (7, .long z3.2), (5, .long z3.1), (0, .ref h0), (1, .int x1), (2, .int x2), (3, .int x3), (4, .int x4)] := hl
                refine lv_iinc (v := 3) (lv' := [(9, .int 3), (7, .long z3.2), (5, .long z3.1), (0, .ref h0), (1, .int x1), (2, .int x2), (3, .int x3), (4, .int x4)]) hx hb dX2_quotient_118 hl (k := 0) rfl (by decide) (by decide) rfl (fun ls hl => ?_)
                refine lv_goto (tgt := 13) hx hb dX2_quotient_121 (by decide) ?_
                refine lv_iload hx hb dX2_quotient_13 (lv_at hl 0 rfl) ?_
                refine lv_iconst (v := 4) hx hb dX2_quotient_15 (by decide) ?_
                refine lv_icmp_ge (tgt := 124) hx hb dX2_quotient_16 (by decide) (fun c16 => ?_) (fun c16 => ?_)
                · skip
                  exact absurd c16 (by decide)
                · skip
                  refine lv_iload hx hb dX2_quotient_19 (lv_at hl 0 rfl) ?_
                  refine lv_iconst (v := 2) hx hb dX2_quotient_21 (by decide) ?_
                  refine lv_icmp_ge (tgt := 35) hx hb dX2_quotient_22 (by decide) (fun c22 => ?_) (fun c22 => ?_)
                  · skip
                    refine lv_iload hx hb dX2_quotient_35 (lv_at hl 0 rfl) ?_
                    refine lv_iconst (v := 2) hx hb dX2_quotient_37 (by decide) ?_
                    refine lv_icmp_ne (tgt := 46) hx hb dX2_quotient_38 (by decide) (fun c38 => ?_) (fun c38 => ?_)
                    · skip
                      refine lv_iload hx hb dX2_quotient_46 (lv_at hl 7 rfl) ?_
                      refine lv_i2l (v := x4.toInt64) hx hb dX2_quotient_48 rfl ?_
                      refine lv_lstore (lv' := [(10, .long x4.toInt64), (9, .int 3), (7, .long z3.2), (5, .long z3.1), (0, .ref h0), (1, .int x1), (2, .int x2), (3, .int x3), (4, .int x4)]) hx hb dX2_quotient_49 hl (by decide) rfl (fun ls hl => ?_)
                      refine rr_qstep (z := z3) (d := x4.toInt64) hx hb hml hown hts (lv_sub hl [0, 1, 2, 3, 4, 5, 6, 7, 8] rfl) (fun ls hl => ?_)
                      obtain ⟨z4, g4⟩ : ∃ z, z = rr_qm (rr_qc x3.toInt64 x4.toInt64 x4.toInt64) x1.toInt64 x2.toInt64 x4.toInt64 z3 := ⟨_, rfl⟩
                      rw [← g4] at hl
                      have hl : lv_has ls 12 [(9, .int 3), (7, .long z4.2), (5, .long z4.1), (0, .ref h0), (1, .int x1), (2, .int x2), (3, .int x3), (4, .int x4)] := hl
                      refine lv_iinc (v := 4) (lv' := [(9, .int 4), (7, .long z4.2), (5, .long z4.1), (0, .ref h0), (1, .int x1), (2, .int x2), (3, .int x3), (4, .int x4)]) hx hb dX2_quotient_118 hl (k := 0) rfl (by decide) (by decide) rfl (fun ls hl => ?_)
                      refine lv_goto (tgt := 13) hx hb dX2_quotient_121 (by decide) ?_
                      refine lv_iload hx hb dX2_quotient_13 (lv_at hl 0 rfl) ?_
                      refine lv_iconst (v := 4) hx hb dX2_quotient_15 (by decide) ?_
                      refine lv_icmp_ge (tgt := 124) hx hb dX2_quotient_16 (by decide) (fun c16 => ?_) (fun c16 => ?_)
                      · skip
                        have eq : (rr_qs x1.toInt64 x2.toInt64 x3.toInt64 x4.toInt64) = z4 := by
                          rw [g4, g3, g2, g1]
                          rfl
                        refine lv_lload hx hb dX2_quotient_124 (lv_at hl 2 rfl) ?_
                        refine lv_lload hx hb dX2_quotient_126 (lv_at hl 1 rfl) ?_
                        refine W.lcmp hx hb dX2_quotient_128 ?_
                        refine lv_if_le (tgt := 136) hx hb dX2_quotient_129 (by decide) (fun c129 => ?_) (fun c129 => ?_)
                        · skip
                          refine lv_aload_n hx hb dX2_quotient_136 rfl (lv_at hl 3 rfl) ?_
                          refine lv_lload hx hb dX2_quotient_137 (lv_at hl 2 rfl) ?_
                          refine lv_lload hx hb dX2_quotient_139 (lv_at hl 1 rfl) ?_
                          refine rr_wi (wr := []) [0, 1] [] (va_runV (As := [.long z4.1, .long z4.2]) (rest := []) ⟨hx, hb, hml, hown, hts⟩ (c_X2_tell l D h0 qT s.heap.size cA f n t lo hi z4.1 z4.2 hn ((lg_cmp_le _ _).mp c129)) (cwV 2 hts gX2_quotient_X2_tell rfl rfl rfl (by decide +kernel) ⟨Nat.le_of_ble_eq_true rfl, Nat.le_of_ble_eq_true rfl⟩) (rr_vW hK hP hD (va_recv hK hP (ci := 2) (q0 := 0) rfl rfl)) rfl rfl hl.1 rfl (lv_room (Nat.le_of_ble_eq_true rfl)) dX2_quotient_141 ⟨Nat.le_of_ble_eq_true rfl, Nat.le_of_ble_eq_true rfl⟩) hS hA hP hD rfl rfl (by decide) (by decide) (by decide) (fun _ => by simp only [rr_wx, rr_wm, List.map_cons, List.map_nil]) (fun r141 u141 H locs e141 hP hD hS => ?_)
                          have hP : va_P D vwCl [(h0, .inr (2, [.ref qT, .int (nI n), .int (nI t), .int ((rr_tl f n z4.1 z4.2).1), .int ((rr_tl f n z4.1 z4.2).2)])), (qT, .inl (cA, 187, .inl f))] H := hP
                          have hD : va_D A [(h0, .inr (2, [.ref qT, .int (nI n), .int (nI t), .int ((rr_tl f n z4.1 z4.2).1), .int ((rr_tl f n z4.1 z4.2).2)])), (qT, .inl (cA, 187, .inl f))] := hD
                          subst e141
                          have hz : ¬ (x3 = 0 ∧ x4 = 0) := fun h => absurd ((lg_cmp_le _ _).mp c129) (by rw [← eq, h.1, h.2]; show ¬ (rr_qs _ _ 0 0).1 ≤ (rr_qs _ _ 0 0).2; rw [rr_qs_0]; decide)
                          have ee : (if x3 = 0 ∧ x4 = 0 then ((0 : Int32), lo, hi) else ((1 : Int32), rr_tl f n (rr_qs x1.toInt64 x2.toInt64 x3.toInt64 x4.toInt64).1 (rr_qs x1.toInt64 x2.toInt64 x3.toInt64 x4.toInt64).2)) = ((1 : Int32), rr_tl f n (rr_qs x1.toInt64 x2.toInt64 x3.toInt64 x4.toInt64).1 (rr_qs x1.toInt64 x2.toInt64 x3.toInt64 x4.toInt64).2) := if_neg hz
                          rw [← eq] at hP
                          exact W.iret (v := 1) hx hb hr (fun tt ht hW => ⟨⟨_, (), rfl, by rw [ee], by dsimp only; rw [ht, ee]; exact hP⟩, hS.F ht⟩) hS.2.2 dX2_quotient_144
                        · skip
                          refine lv_iconst (v := 0) hx hb dX2_quotient_132 (by decide) ?_
                          refine lv_goto (tgt := 144) hx hb dX2_quotient_133 (by decide) ?_
                          have hz : x3 = 0 ∧ x4 = 0 := Classical.byContradiction (fun h => c129 ((lg_cmp_le _ _).mpr (by rw [← eq]; exact rr_qs_le (rr_64 hmn) (fun y => h ⟨rr_z64.mp y.1, rr_z64.mp y.2⟩))))
                          have ee : (if x3 = 0 ∧ x4 = 0 then ((0 : Int32), lo, hi) else ((1 : Int32), rr_tl f n (rr_qs x1.toInt64 x2.toInt64 x3.toInt64 x4.toInt64).1 (rr_qs x1.toInt64 x2.toInt64 x3.toInt64 x4.toInt64).2)) = ((0 : Int32), lo, hi) := if_pos hz
                          exact W.iret (v := 0) hx hb hr (fun tt ht hW => ⟨⟨_, (), rfl, by rw [ee], by dsimp only; rw [ht, ee]; exact hP⟩, hS.F ht⟩) hS.2.2 dX2_quotient_144
                      · skip
                        exact absurd c16 (by decide)
                    · skip
                      exact absurd c38 (by decide)
                  · skip
                    exact absurd c22 (by decide)
            · skip
              exact absurd c22 (by decide)
