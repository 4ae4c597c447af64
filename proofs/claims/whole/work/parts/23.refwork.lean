set_option maxHeartbeats 1000000 in
set_option maxRecDepth 100000 in
/-- work(op, x1, x2, x3, x4) -/
theorem c_X2_work (l : Launch) (D : va_G) (h0 qT sz : Nat) (cA : ClassId) (f : Nat → Int32) (n t : Nat) (lo hi : Int32) (op x1 x2 x3 x4 : Int32) (hn : n ≤ 187) (hk : rr_ok f n) : Met l yX2_work wsX2_work ({ frames := 4, cells := 0, slots := 0, locals := 99 }) (rr_pW D (rr_wm h0 qT cA f n t lo hi) [(cA, .int)] [.ref h0, .int op, .int x1, .int x2, .int x3, .int x4] sz) (va_Qi (fun r (_ : Unit) => r = (rr_wk f n lo hi op x1 x2 x3 x4).1) (fun _ tt => va_P D vwCl (rr_wm h0 qT cA f n t (rr_wk f n lo hi op x1 x2 x3 x4).2.1 (rr_wk f n lo hi op x1 x2 x3 x4).2.2) tt.heap) (va_A (rr_wm h0 qT cA f n t lo hi) sz)) 0 0 (va_A (rr_wm h0 qT cA f n t lo hi) sz) := by
  refine Met.ofW (cc := cX2_work) (maxL := 8) (ret := (some .int)) (by decide) rfl ?_
  intro p e s m args below meth c s₁ B hml hv
  obtain ⟨rfl, hsz, hP, hK, hD0⟩ := hv
  have hx := B.exec
  have hb := B.bytes
  have hr := B.returns
  have hts := atoms_spec (ws := wsX2_work) B.pre
  have hown : s.vm.findClass RX2 = some m.cls := findClass_of_methodNamed B.named
  have hlocks := B.notSynchronized
  subst hsz
  have hD := hD0.self (sz := s.heap.size)
  generalize hAe : va_A [(h0, .inr (2, [.ref qT, .int (nI n), .int (nI t), .int lo, .int hi])), (qT, .inl (cA, 187, .inl f))] s.heap.size = A at hD ⊢
  have hA : ∀ q : Nat, s.heap.size ≤ q → A q := fun q h => by rw [← hAe]; exact Or.inr h
  have hS : va_S A s.heap s.heap [] := va_S.rf
  have hP : va_P D vwCl [(h0, .inr (2, [.ref qT, .int (nI n), .int (nI t), .int lo, .int hi])), (qT, .inl (cA, 187, .inl f))] s.heap := hP
  have hiX2 : ∀ w ∈ wsX20, w ∈ wsX2_work := by decide +kernel
  have hl := lv_entry ([.ref h0, .int op, .int x1, .int x2, .int x3, .int x4]) (n := 8) (Nat.le_of_ble_eq_true rfl)
  rw [lg_entry_eq]
  generalize (lg_sl ([.ref h0, .int op, .int x1, .int x2, .int x3, .int x4]) ++ List.replicate (8 - (lg_sl ([.ref h0, .int op, .int x1, .int x2, .int x3, .int x4])).length) Slot.unset).toArray = ls at hl ⊢
  have hl : lv_has ls 8 [(0, .ref h0), (1, .int op), (2, .int x1), (3, .int x2), (4, .int x3), (5, .int x4)] := hl
  refine lv_iload_n hx hb dX2_work_0 rfl (lv_at hl 1 rfl) ?_
  refine lv_if_lt (tgt := 30) hx hb dX2_work_1 (by decide) (fun c1 => ?_) (fun c1 => ?_)
  · skip
    refine lv_iconst (v := (-1)) hx hb dX2_work_30 (by decide) ?_
    have ee : (rr_wk f n lo hi op x1 x2 x3 x4) = (-1, lo, hi) := if_neg (fun z => by first | exact z.1.1 c1 | exact z.1.2 c7 | exact b13 z.2.1 | exact b24 z.2.2)
    exact W.iret (v := (-1)) hx hb hr (fun tt ht hW => ⟨⟨_, (), rfl, by rw [ee], by dsimp only; rw [ht, ee]; exact hP⟩, hS.F ht⟩) hS.2.2 dX2_work_31
  · skip
    refine lv_iload_n hx hb dX2_work_4 rfl (lv_at hl 1 rfl) ?_
    refine lv_bipush (v := 9) hx hb dX2_work_5 (by decide) ?_
    refine lv_icmp_gt (tgt := 30) hx hb dX2_work_7 (by decide) (fun c7 => ?_) (fun c7 => ?_)
    · skip
      refine lv_iconst (v := (-1)) hx hb dX2_work_30 (by decide) ?_
      have ee : (rr_wk f n lo hi op x1 x2 x3 x4) = (-1, lo, hi) := if_neg (fun z => by first | exact z.1.1 c1 | exact z.1.2 c7 | exact b13 z.2.1 | exact b24 z.2.2)
      exact W.iret (v := (-1)) hx hb hr (fun tt ht hW => ⟨⟨_, (), rfl, by rw [ee], by dsimp only; rw [ht, ee]; exact hP⟩, hS.F ht⟩) hS.2.2 dX2_work_31
    · skip
      refine lv_aload_n hx hb dX2_work_10 rfl (lv_at hl 0 rfl) ?_
      refine lv_iload_n hx hb dX2_work_11 rfl (lv_at hl 2 rfl) ?_
      refine lv_iload_n hx hb dX2_work_12 rfl (lv_at hl 3 rfl) ?_
      refine rr_ri (va_runV (As := [.int x1, .int x2]) (rest := []) ⟨hx, hb, hml, hown, hts⟩ (c_X2_isRange l D h0 qT s.heap.size cA f n t lo hi x1 x2 hn hk) (cwV 2 hts gX2_work_X2_isRange rfl rfl rfl (by decide +kernel) ⟨Nat.le_of_ble_eq_true rfl, Nat.le_of_ble_eq_true rfl⟩) (rr_vR hK hP (va_recv hK hP (ci := 2) (q0 := 0) rfl rfl)) rfl rfl hl.1 rfl (lv_room (Nat.le_of_ble_eq_true rfl)) dX2_work_13 ⟨Nat.le_of_ble_eq_true rfl, Nat.le_of_ble_eq_true rfl⟩) hS hA hP (fun r13 H locs e13 hP hS => ?_)
      by_cases b13 : rr_rg f n x1 x2 = true
      · rw [if_pos b13] at e13
        subst e13
        refine lv_if_eq (tgt := 30) hx hb dX2_work_16 (by decide) (fun c16 => ?_) (fun c16 => ?_)
        · skip
          exact absurd c16 (by decide)
        · skip
          refine lv_aload_n hx hb dX2_work_19 rfl (lv_at hl 0 rfl) ?_
          refine lv_iload hx hb dX2_work_20 (lv_at hl 4 rfl) ?_
          refine lv_iload hx hb dX2_work_22 (lv_at hl 5 rfl) ?_
          refine rr_ri (va_runV (As := [.int x3, .int x4]) (rest := []) ⟨hx, hb, hml, hown, hts⟩ (c_X2_isRange l D h0 qT H.size cA f n t lo hi x3 x4 hn hk) (cwV 2 hts gX2_work_X2_isRange rfl rfl rfl (by decide +kernel) ⟨Nat.le_of_ble_eq_true rfl, Nat.le_of_ble_eq_true rfl⟩) (rr_vR hK hP (va_recv hK hP (ci := 2) (q0 := 0) rfl rfl)) rfl rfl hl.1 rfl (lv_room (Nat.le_of_ble_eq_true rfl)) dX2_work_24 ⟨Nat.le_of_ble_eq_true rfl, Nat.le_of_ble_eq_true rfl⟩) hS hA hP (fun r24 H locs e24 hP hS => ?_)
          by_cases b24 : rr_rg f n x3 x4 = true
          · rw [if_pos b24] at e24
            subst e24
            refine lv_if_ne (tgt := 32) hx hb dX2_work_27 (by decide) (fun c27 => ?_) (fun c27 => ?_)
            · skip
              rcases rr_ten c1 c7 with rfl | rfl | rfl | rfl | rfl | rfl | rfl | rfl | rfl | rfl
              · skip
                refine lv_iload_n hx hb dX2_work_32 rfl (lv_at hl 1 rfl) ?_
                refine lv_tableIn (off := 51) (tgt := 84) hx hb dX2_work_33 (by decide) (by decide) (by decide +kernel) (by decide) ?_
                refine lv_aload_n hx hb dX2_work_84 rfl (lv_at hl 0 rfl) ?_
                refine lv_iload_n hx hb dX2_work_85 rfl (lv_at hl 2 rfl) ?_
                refine lv_i2l (v := x1.toInt64) hx hb dX2_work_86 rfl ?_
                refine lv_iload hx hb dX2_work_87 (lv_at hl 4 rfl) ?_
                refine lv_i2l (v := x3.toInt64) hx hb dX2_work_89 rfl ?_
                refine lv_ladd hx hb dX2_work_90 ?_
                refine lv_iload_n hx hb dX2_work_91 rfl (lv_at hl 3 rfl) ?_
                refine lv_i2l (v := x2.toInt64) hx hb dX2_work_92 rfl ?_
                refine lv_iload hx hb dX2_work_93 (lv_at hl 5 rfl) ?_
                refine lv_i2l (v := x4.toInt64) hx hb dX2_work_95 rfl ?_
                refine lv_ladd hx hb dX2_work_96 ?_
                refine rr_wi (wr := []) [0, 1] [] (va_runV (As := [.long (x1.toInt64 + x3.toInt64), .long (x2.toInt64 + x4.toInt64)]) (rest := []) ⟨hx, hb, hml, hown, hts⟩ (c_X2_tell l D h0 qT H.size cA f n t lo hi (x1.toInt64 + x3.toInt64) (x2.toInt64 + x4.toInt64) hn (rr_le0 (rr_rg_iff.mp b13).1 (rr_rg_iff.mp b24).1)) (cwV 2 hts gX2_work_X2_tell rfl rfl rfl (by decide +kernel) ⟨Nat.le_of_ble_eq_true rfl, Nat.le_of_ble_eq_true rfl⟩) (rr_vW hK hP hD (va_recv hK hP (ci := 2) (q0 := 0) rfl rfl)) rfl rfl hl.1 rfl (lv_room (Nat.le_of_ble_eq_true rfl)) dX2_work_97 ⟨Nat.le_of_ble_eq_true rfl, Nat.le_of_ble_eq_true rfl⟩) hS hA hP hD rfl rfl (by decide) (by decide) (by decide) (fun _ => by simp only [rr_wx, rr_wm, List.map_cons, List.map_nil]) (fun r97 u97 H locs e97 hP hD hS => ?_)
                have hP : va_P D vwCl [(h0, .inr (2, [.ref qT, .int (nI n), .int (nI t), .int ((rr_tl f n (x1.toInt64 + x3.toInt64) (x2.toInt64 + x4.toInt64)).1), .int ((rr_tl f n (x1.toInt64 + x3.toInt64) (x2.toInt64 + x4.toInt64)).2)])), (qT, .inl (cA, 187, .inl f))] H := hP
                have hD : va_D A [(h0, .inr (2, [.ref qT, .int (nI n), .int (nI t), .int ((rr_tl f n (x1.toInt64 + x3.toInt64) (x2.toInt64 + x4.toInt64)).1), .int ((rr_tl f n (x1.toInt64 + x3.toInt64) (x2.toInt64 + x4.toInt64)).2)])), (qT, .inl (cA, 187, .inl f))] := hD
                subst e97
                have eo : rr_op 0 x1 x2 x3 x4 = (x1.toInt64 + x3.toInt64, x2.toInt64 + x4.toInt64) := by unfold rr_op; rw [if_pos (by decide)]
                have ep : (x1.toInt64 + x3.toInt64, x2.toInt64 + x4.toInt64) = (x1.toInt64 + x3.toInt64, x2.toInt64 + x4.toInt64) := rfl
                have ee : (rr_wk f n lo hi 0 x1 x2 x3 x4) = (1, rr_tl f n (x1.toInt64 + x3.toInt64, x2.toInt64 + x4.toInt64).1 (x1.toInt64 + x3.toInt64, x2.toInt64 + x4.toInt64).2) := ((if_pos ⟨⟨c1, c7⟩, b13, b24⟩).trans (if_neg (fun z => absurd z.1 (by decide)))).trans (congrArg (fun z : Int64 × Int64 => ((1 : Int32), rr_tl f n z.1 z.2)) (eo.trans ep))
                exact W.iret (v := 1) hx hb hr (fun tt ht hW => ⟨⟨_, (), rfl, by rw [ee], by dsimp only; rw [ht, ee]; exact hP⟩, hS.F ht⟩) hS.2.2 dX2_work_100
              · skip
                refine lv_iload_n hx hb dX2_work_32 rfl (lv_at hl 1 rfl) ?_
                refine lv_tableIn (off := 68) (tgt := 101) hx hb dX2_work_33 (by decide) (by decide) (by decide +kernel) (by decide) ?_
                refine lv_aload_n hx hb dX2_work_101 rfl (lv_at hl 0 rfl) ?_
                refine lv_iload_n hx hb dX2_work_102 rfl (lv_at hl 2 rfl) ?_
                refine lv_i2l (v := x1.toInt64) hx hb dX2_work_103 rfl ?_
                refine lv_iload hx hb dX2_work_104 (lv_at hl 5 rfl) ?_
                refine lv_i2l (v := x4.toInt64) hx hb dX2_work_106 rfl ?_
                refine lv_lsub hx hb dX2_work_107 ?_
                refine lv_iload_n hx hb dX2_work_108 rfl (lv_at hl 3 rfl) ?_
                refine lv_i2l (v := x2.toInt64) hx hb dX2_work_109 rfl ?_
                refine lv_iload hx hb dX2_work_110 (lv_at hl 4 rfl) ?_
                refine lv_i2l (v := x3.toInt64) hx hb dX2_work_112 rfl ?_
                refine lv_lsub hx hb dX2_work_113 ?_
                refine rr_wi (wr := []) [0, 1] [] (va_runV (As := [.long (x1.toInt64 - x4.toInt64), .long (x2.toInt64 - x3.toInt64)]) (rest := []) ⟨hx, hb, hml, hown, hts⟩ (c_X2_tell l D h0 qT H.size cA f n t lo hi (x1.toInt64 - x4.toInt64) (x2.toInt64 - x3.toInt64) hn (rr_le1 (rr_rg_iff.mp b13).1 (rr_rg_iff.mp b24).1)) (cwV 2 hts gX2_work_X2_tell rfl rfl rfl (by decide +kernel) ⟨Nat.le_of_ble_eq_true rfl, Nat.le_of_ble_eq_true rfl⟩) (rr_vW hK hP hD (va_recv hK hP (ci := 2) (q0 := 0) rfl rfl)) rfl rfl hl.1 rfl (lv_room (Nat.le_of_ble_eq_true rfl)) dX2_work_114 ⟨Nat.le_of_ble_eq_true rfl, Nat.le_of_ble_eq_true rfl⟩) hS hA hP hD rfl rfl (by decide) (by decide) (by decide) (fun _ => by simp only [rr_wx, rr_wm, List.map_cons, List.map_nil]) (fun r114 u114 H locs e114 hP hD hS => ?_)
                have hP : va_P D vwCl [(h0, .inr (2, [.ref qT, .int (nI n), .int (nI t), .int ((rr_tl f n (x1.toInt64 - x4.toInt64) (x2.toInt64 - x3.toInt64)).1), .int ((rr_tl f n (x1.toInt64 - x4.toInt64) (x2.toInt64 - x3.toInt64)).2)])), (qT, .inl (cA, 187, .inl f))] H := hP
                have hD : va_D A [(h0, .inr (2, [.ref qT, .int (nI n), .int (nI t), .int ((rr_tl f n (x1.toInt64 - x4.toInt64) (x2.toInt64 - x3.toInt64)).1), .int ((rr_tl f n (x1.toInt64 - x4.toInt64) (x2.toInt64 - x3.toInt64)).2)])), (qT, .inl (cA, 187, .inl f))] := hD
                subst e114
                have eo : rr_op 1 x1 x2 x3 x4 = (x1.toInt64 - x4.toInt64, x2.toInt64 - x3.toInt64) := by unfold rr_op; rw [if_neg (by decide), if_pos (by decide)]
                have ep : (x1.toInt64 - x4.toInt64, x2.toInt64 - x3.toInt64) = (x1.toInt64 - x4.toInt64, x2.toInt64 - x3.toInt64) := rfl
                have ee : (rr_wk f n lo hi 1 x1 x2 x3 x4) = (1, rr_tl f n (x1.toInt64 - x4.toInt64, x2.toInt64 - x3.toInt64).1 (x1.toInt64 - x4.toInt64, x2.toInt64 - x3.toInt64).2) := ((if_pos ⟨⟨c1, c7⟩, b13, b24⟩).trans (if_neg (fun z => absurd z.1 (by decide)))).trans (congrArg (fun z : Int64 × Int64 => ((1 : Int32), rr_tl f n z.1 z.2)) (eo.trans ep))
                exact W.iret (v := 1) hx hb hr (fun tt ht hW => ⟨⟨_, (), rfl, by rw [ee], by dsimp only; rw [ht, ee]; exact hP⟩, hS.F ht⟩) hS.2.2 dX2_work_117
              · skip
                refine lv_iload_n hx hb dX2_work_32 rfl (lv_at hl 1 rfl) ?_
                refine lv_tableIn (off := 85) (tgt := 118) hx hb dX2_work_33 (by decide) (by decide) (by decide +kernel) (by decide) ?_
                refine lv_aload_n hx hb dX2_work_118 rfl (lv_at hl 0 rfl) ?_
                refine lv_iload_n hx hb dX2_work_119 rfl (lv_at hl 2 rfl) ?_
                refine lv_i2l (v := x1.toInt64) hx hb dX2_work_120 rfl ?_
                refine lv_iload hx hb dX2_work_121 (lv_at hl 4 rfl) ?_
                refine lv_i2l (v := x3.toInt64) hx hb dX2_work_123 rfl ?_
                refine lv_lmul hx hb dX2_work_124 ?_
                refine lv_iload_n hx hb dX2_work_125 rfl (lv_at hl 2 rfl) ?_
                refine lv_i2l (v := x1.toInt64) hx hb dX2_work_126 rfl ?_
                refine lv_iload hx hb dX2_work_127 (lv_at hl 5 rfl) ?_
                refine lv_i2l (v := x4.toInt64) hx hb dX2_work_129 rfl ?_
                refine lv_lmul hx hb dX2_work_130 ?_
                refine lv_iload_n hx hb dX2_work_131 rfl (lv_at hl 3 rfl) ?_
                refine lv_i2l (v := x2.toInt64) hx hb dX2_work_132 rfl ?_
                refine lv_iload hx hb dX2_work_133 (lv_at hl 4 rfl) ?_
                refine lv_i2l (v := x3.toInt64) hx hb dX2_work_135 rfl ?_
                refine lv_lmul hx hb dX2_work_136 ?_
                refine lv_iload_n hx hb dX2_work_137 rfl (lv_at hl 3 rfl) ?_
                refine lv_i2l (v := x2.toInt64) hx hb dX2_work_138 rfl ?_
                refine lv_iload hx hb dX2_work_139 (lv_at hl 5 rfl) ?_
                refine lv_i2l (v := x4.toInt64) hx hb dX2_work_141 rfl ?_
                refine lv_lmul hx hb dX2_work_142 ?_
                refine rr_wi (wr := []) [0, 1] [] (va_runV (As := [.long (x1.toInt64 * x3.toInt64), .long (x1.toInt64 * x4.toInt64), .long (x2.toInt64 * x3.toInt64), .long (x2.toInt64 * x4.toInt64)]) (rest := []) ⟨hx, hb, hml, hown, hts⟩ (c_X2_tellLeast l D h0 qT H.size cA f n t lo hi (x1.toInt64 * x3.toInt64) (x1.toInt64 * x4.toInt64) (x2.toInt64 * x3.toInt64) (x2.toInt64 * x4.toInt64) hn) (cwV 4 hts gX2_work_X2_tellLeast rfl rfl rfl (by decide +kernel) ⟨Nat.le_of_ble_eq_true rfl, Nat.le_of_ble_eq_true rfl⟩) (rr_vW hK hP hD (va_recv hK hP (ci := 2) (q0 := 0) rfl rfl)) rfl rfl hl.1 rfl (lv_room (Nat.le_of_ble_eq_true rfl)) dX2_work_143 ⟨Nat.le_of_ble_eq_true rfl, Nat.le_of_ble_eq_true rfl⟩) hS hA hP hD rfl rfl (by decide) (by decide) (by decide) (fun _ => by simp only [rr_wx, rr_wm, List.map_cons, List.map_nil]) (fun r143 u143 H locs e143 hP hD hS => ?_)
                have hP : va_P D vwCl [(h0, .inr (2, [.ref qT, .int (nI n), .int (nI t), .int ((rr_tl f n (rr_o2 x1.toInt64 x2.toInt64 x3.toInt64 x4.toInt64).1 (rr_o2 x1.toInt64 x2.toInt64 x3.toInt64 x4.toInt64).2).1), .int ((rr_tl f n (rr_o2 x1.toInt64 x2.toInt64 x3.toInt64 x4.toInt64).1 (rr_o2 x1.toInt64 x2.toInt64 x3.toInt64 x4.toInt64).2).2)])), (qT, .inl (cA, 187, .inl f))] H := hP
                have hD : va_D A [(h0, .inr (2, [.ref qT, .int (nI n), .int (nI t), .int ((rr_tl f n (rr_o2 x1.toInt64 x2.toInt64 x3.toInt64 x4.toInt64).1 (rr_o2 x1.toInt64 x2.toInt64 x3.toInt64 x4.toInt64).2).1), .int ((rr_tl f n (rr_o2 x1.toInt64 x2.toInt64 x3.toInt64 x4.toInt64).1 (rr_o2 x1.toInt64 x2.toInt64 x3.toInt64 x4.toInt64).2).2)])), (qT, .inl (cA, 187, .inl f))] := hD
                subst e143
                have eo : rr_op 2 x1 x2 x3 x4 = (rr_o2 x1.toInt64 x2.toInt64 x3.toInt64 x4.toInt64) := by unfold rr_op; rw [if_neg (by decide), if_neg (by decide), if_pos (by decide)]
                have ep : (rr_o2 x1.toInt64 x2.toInt64 x3.toInt64 x4.toInt64) = ((rr_o2 x1.toInt64 x2.toInt64 x3.toInt64 x4.toInt64).1, (rr_o2 x1.toInt64 x2.toInt64 x3.toInt64 x4.toInt64).2) := rfl
                have ee : (rr_wk f n lo hi 2 x1 x2 x3 x4) = (1, rr_tl f n ((rr_o2 x1.toInt64 x2.toInt64 x3.toInt64 x4.toInt64).1, (rr_o2 x1.toInt64 x2.toInt64 x3.toInt64 x4.toInt64).2).1 ((rr_o2 x1.toInt64 x2.toInt64 x3.toInt64 x4.toInt64).1, (rr_o2 x1.toInt64 x2.toInt64 x3.toInt64 x4.toInt64).2).2) := ((if_pos ⟨⟨c1, c7⟩, b13, b24⟩).trans (if_neg (fun z => absurd z.1 (by decide)))).trans (congrArg (fun z : Int64 × Int64 => ((1 : Int32), rr_tl f n z.1 z.2)) (eo.trans ep))
                exact W.iret (v := 1) hx hb hr (fun tt ht hW => ⟨⟨_, (), rfl, by rw [ee], by dsimp only; rw [ht, ee]; exact hP⟩, hS.F ht⟩) hS.2.2 dX2_work_146
              · skip
                refine lv_iload_n hx hb dX2_work_32 rfl (lv_at hl 1 rfl) ?_
                refine lv_tableIn (off := 114) (tgt := 147) hx hb dX2_work_33 (by decide) (by decide) (by decide +kernel) (by decide) ?_
                refine lv_aload_n hx hb dX2_work_147 rfl (lv_at hl 0 rfl) ?_
                refine lv_iload_n hx hb dX2_work_148 rfl (lv_at hl 2 rfl) ?_
                refine lv_iload_n hx hb dX2_work_149 rfl (lv_at hl 3 rfl) ?_
                refine lv_iload hx hb dX2_work_150 (lv_at hl 4 rfl) ?_
                refine lv_iload hx hb dX2_work_152 (lv_at hl 5 rfl) ?_
                refine rr_wi (wr := []) [0, 1] [] (va_runV (As := [.int x1, .int x2, .int x3, .int x4]) (rest := []) ⟨hx, hb, hml, hown, hts⟩ (c_X2_quotient l D h0 qT H.size cA f n t lo hi x1 x2 x3 x4 hn (rr_rg_iff.mp b24).1) (cwV 4 hts gX2_work_X2_quotient rfl rfl rfl (by decide +kernel) ⟨Nat.le_of_ble_eq_true rfl, Nat.le_of_ble_eq_true rfl⟩) (rr_vW hK hP hD (va_recv hK hP (ci := 2) (q0 := 0) rfl rfl)) rfl rfl hl.1 rfl (lv_room (Nat.le_of_ble_eq_true rfl)) dX2_work_154 ⟨Nat.le_of_ble_eq_true rfl, Nat.le_of_ble_eq_true rfl⟩) hS hA hP hD rfl rfl (by decide) (by decide) (by decide) (fun _ => by simp only [rr_wx, rr_wm, List.map_cons, List.map_nil]) (fun r154 u154 H locs e154 hP hD hS => ?_)
                have hP : va_P D vwCl [(h0, .inr (2, [.ref qT, .int (nI n), .int (nI t), .int ((if x3 = 0 ∧ x4 = 0 then ((0 : Int32), lo, hi) else ((1 : Int32), rr_tl f n (rr_qs x1.toInt64 x2.toInt64 x3.toInt64 x4.toInt64).1 (rr_qs x1.toInt64 x2.toInt64 x3.toInt64 x4.toInt64).2)).2.1), .int ((if x3 = 0 ∧ x4 = 0 then ((0 : Int32), lo, hi) else ((1 : Int32), rr_tl f n (rr_qs x1.toInt64 x2.toInt64 x3.toInt64 x4.toInt64).1 (rr_qs x1.toInt64 x2.toInt64 x3.toInt64 x4.toInt64).2)).2.2)])), (qT, .inl (cA, 187, .inl f))] H := hP
                have hD : va_D A [(h0, .inr (2, [.ref qT, .int (nI n), .int (nI t), .int ((if x3 = 0 ∧ x4 = 0 then ((0 : Int32), lo, hi) else ((1 : Int32), rr_tl f n (rr_qs x1.toInt64 x2.toInt64 x3.toInt64 x4.toInt64).1 (rr_qs x1.toInt64 x2.toInt64 x3.toInt64 x4.toInt64).2)).2.1), .int ((if x3 = 0 ∧ x4 = 0 then ((0 : Int32), lo, hi) else ((1 : Int32), rr_tl f n (rr_qs x1.toInt64 x2.toInt64 x3.toInt64 x4.toInt64).1 (rr_qs x1.toInt64 x2.toInt64 x3.toInt64 x4.toInt64).2)).2.2)])), (qT, .inl (cA, 187, .inl f))] := hD
                subst e154
                have eo : rr_op 3 x1 x2 x3 x4 = (rr_qs x1.toInt64 x2.toInt64 x3.toInt64 x4.toInt64) := by unfold rr_op; rw [if_neg (by decide), if_neg (by decide), if_neg (by decide), if_pos (by decide)]
                have ee : (rr_wk f n lo hi 3 x1 x2 x3 x4) = (if x3 = 0 ∧ x4 = 0 then ((0 : Int32), lo, hi) else ((1 : Int32), rr_tl f n (rr_qs x1.toInt64 x2.toInt64 x3.toInt64 x4.toInt64).1 (rr_qs x1.toInt64 x2.toInt64 x3.toInt64 x4.toInt64).2)) := by
                  unfold rr_wk
                  rw [if_pos ⟨⟨c1, c7⟩, b13, b24⟩, eo]
                  by_cases hz : x3 = 0 ∧ x4 = 0
                  · rw [if_pos ⟨by decide, hz⟩, if_pos hz]
                  · rw [if_neg (fun z => hz z.2), if_neg hz]
                exact W.iret (v := (if x3 = 0 ∧ x4 = 0 then ((0 : Int32), lo, hi) else ((1 : Int32), rr_tl f n (rr_qs x1.toInt64 x2.toInt64 x3.toInt64 x4.toInt64).1 (rr_qs x1.toInt64 x2.toInt64 x3.toInt64 x4.toInt64).2)).1) hx hb hr (fun tt ht hW => ⟨⟨_, (), rfl, by rw [ee], by dsimp only; rw [ht, ee]; exact hP⟩, hS.F ht⟩) hS.2.2 dX2_work_157
              · skip
                refine lv_iload_n hx hb dX2_work_32 rfl (lv_at hl 1 rfl) ?_
                refine lv_tableIn (off := 125) (tgt := 158) hx hb dX2_work_33 (by decide) (by decide) (by decide +kernel) (by decide) ?_
                refine lv_aload_n hx hb dX2_work_158 rfl (lv_at hl 0 rfl) ?_
                refine lv_iload_n hx hb dX2_work_159 rfl (lv_at hl 2 rfl) ?_
                refine lv_iload_n hx hb dX2_work_160 rfl (lv_at hl 3 rfl) ?_
                refine lv_iload hx hb dX2_work_161 (lv_at hl 4 rfl) ?_
                refine lv_i2l (v := x3.toInt64) hx hb dX2_work_163 rfl ?_
                refine lv_iload hx hb dX2_work_164 (lv_at hl 5 rfl) ?_
                refine lv_i2l (v := x4.toInt64) hx hb dX2_work_166 rfl ?_
                refine rr_wi (wr := []) [0, 1] [] (va_runV (As := [.int x1, .int x2, .long x3.toInt64, .long x4.toInt64]) (rest := []) ⟨hx, hb, hml, hown, hts⟩ (c_X2_rest l D h0 qT H.size cA f n t lo hi x1 x2 x3 x4 hn (rr_rg_iff.mp b13).1) (cwV 4 hts gX2_work_X2_rest rfl rfl rfl (by decide +kernel) ⟨Nat.le_of_ble_eq_true rfl, Nat.le_of_ble_eq_true rfl⟩) (rr_vW hK hP hD (va_recv hK hP (ci := 2) (q0 := 0) rfl rfl)) rfl rfl hl.1 rfl (lv_room (Nat.le_of_ble_eq_true rfl)) dX2_work_167 ⟨Nat.le_of_ble_eq_true rfl, Nat.le_of_ble_eq_true rfl⟩) hS hA hP hD rfl rfl (by decide) (by decide) (by decide) (fun _ => by simp only [rr_wx, rr_wm, List.map_cons, List.map_nil]) (fun r167 u167 H locs e167 hP hD hS => ?_)
                have hP : va_P D vwCl [(h0, .inr (2, [.ref qT, .int (nI n), .int (nI t), .int ((if x3 = 0 ∧ x4 = 0 then ((0 : Int32), lo, hi) else ((1 : Int32), rr_tl f n (rr_rs x1.toInt64 x2.toInt64 x3.toInt64 x4.toInt64).1 (rr_rs x1.toInt64 x2.toInt64 x3.toInt64 x4.toInt64).2)).2.1), .int ((if x3 = 0 ∧ x4 = 0 then ((0 : Int32), lo, hi) else ((1 : Int32), rr_tl f n (rr_rs x1.toInt64 x2.toInt64 x3.toInt64 x4.toInt64).1 (rr_rs x1.toInt64 x2.toInt64 x3.toInt64 x4.toInt64).2)).2.2)])), (qT, .inl (cA, 187, .inl f))] H := hP
                have hD : va_D A [(h0, .inr (2, [.ref qT, .int (nI n), .int (nI t), .int ((if x3 = 0 ∧ x4 = 0 then ((0 : Int32), lo, hi) else ((1 : Int32), rr_tl f n (rr_rs x1.toInt64 x2.toInt64 x3.toInt64 x4.toInt64).1 (rr_rs x1.toInt64 x2.toInt64 x3.toInt64 x4.toInt64).2)).2.1), .int ((if x3 = 0 ∧ x4 = 0 then ((0 : Int32), lo, hi) else ((1 : Int32), rr_tl f n (rr_rs x1.toInt64 x2.toInt64 x3.toInt64 x4.toInt64).1 (rr_rs x1.toInt64 x2.toInt64 x3.toInt64 x4.toInt64).2)).2.2)])), (qT, .inl (cA, 187, .inl f))] := hD
                subst e167
                have eo : rr_op 4 x1 x2 x3 x4 = (rr_rs x1.toInt64 x2.toInt64 x3.toInt64 x4.toInt64) := by unfold rr_op; rw [if_neg (by decide), if_neg (by decide), if_neg (by decide), if_neg (by decide), if_pos (by decide)]
                have ee : (rr_wk f n lo hi 4 x1 x2 x3 x4) = (if x3 = 0 ∧ x4 = 0 then ((0 : Int32), lo, hi) else ((1 : Int32), rr_tl f n (rr_rs x1.toInt64 x2.toInt64 x3.toInt64 x4.toInt64).1 (rr_rs x1.toInt64 x2.toInt64 x3.toInt64 x4.toInt64).2)) := by
                  unfold rr_wk
                  rw [if_pos ⟨⟨c1, c7⟩, b13, b24⟩, eo]
                  by_cases hz : x3 = 0 ∧ x4 = 0
                  · rw [if_pos ⟨by decide, hz⟩, if_pos hz]
                  · rw [if_neg (fun z => hz z.2), if_neg hz]
                exact W.iret (v := (if x3 = 0 ∧ x4 = 0 then ((0 : Int32), lo, hi) else ((1 : Int32), rr_tl f n (rr_rs x1.toInt64 x2.toInt64 x3.toInt64 x4.toInt64).1 (rr_rs x1.toInt64 x2.toInt64 x3.toInt64 x4.toInt64).2)).1) hx hb hr (fun tt ht hW => ⟨⟨_, (), rfl, by rw [ee], by dsimp only; rw [ht, ee]; exact hP⟩, hS.F ht⟩) hS.2.2 dX2_work_170
              · skip
                refine lv_iload_n hx hb dX2_work_32 rfl (lv_at hl 1 rfl) ?_
                refine lv_tableIn (off := 138) (tgt := 171) hx hb dX2_work_33 (by decide) (by decide) (by decide +kernel) (by decide) ?_
                refine lv_iload_n hx hb dX2_work_171 rfl (lv_at hl 2 rfl) ?_
                refine lv_if_ge (tgt := 185) hx hb dX2_work_172 (by decide) (fun c172 => ?_) (fun c172 => ?_)
                · skip
                  refine lv_aload_n hx hb dX2_work_185 rfl (lv_at hl 0 rfl) ?_
                  refine lv_lconst (v := 0) hx hb dX2_work_186 (by decide) ?_
                  refine lv_iload_n hx hb dX2_work_187 rfl (lv_at hl 2 rfl) ?_
                  refine lv_if_ge (tgt := 197) hx hb dX2_work_188 (by decide) (fun c188 => ?_) (fun c188 => ?_)
                  · skip
                    refine lv_iload hx hb dX2_work_197 (lv_at hl 4 rfl) ?_
                    refine lv_if_ge (tgt := 207) hx hb dX2_work_199 (by decide) (fun c199 => ?_) (fun c199 => ?_)
                    · skip
                      refine lv_iload_n hx hb dX2_work_207 rfl (lv_at hl 3 rfl) ?_
                      refine lv_iload hx hb dX2_work_208 (lv_at hl 5 rfl) ?_
                      refine va_mmin hx hb (hml.trans hl.1.symm) hown (hts (.methodLink RX2 43 Lib.Math.min.name) (by decide +kernel)) (hts (.static Lib.Math.min.name) (by decide +kernel)) (hts (.initialized "java/lang/Math") (by decide +kernel)) (hts (.code Lib.Math.min.name Lib.Math.min.code 2 (some .int)) (by decide +kernel)) (Nat.le_of_ble_eq_true rfl) (Nat.le_of_ble_eq_true rfl) (Nat.le_of_ble_eq_true rfl) (Nat.le_of_ble_eq_true rfl) dX2_work_210 ?_
                      refine W.eq (g2 := F0 m 213 ls [.int (rr_ni x2 x4), .long 0, .ref h0]) rfl ?_
                      refine lv_i2l (v := (rr_ni x2 x4).toInt64) hx hb dX2_work_213 rfl ?_
                      have er : (rr_o5 x1 x2 x3 x4) = (0, (rr_ni x2 x4).toInt64) := (if_neg (fun z => by first | exact absurd z.1 (Int32.not_lt.mpr c172) | exact absurd z.2 (Int32.not_lt.mpr c177))).trans ((if_neg (Int32.not_lt.mpr c188)).trans (if_neg (Int32.not_lt.mpr c199)))
                      have hz2 := rr_le5 (rr_rg_iff.mp b13).1 (rr_rg_iff.mp b24).1
                      rw [er] at hz2
                      refine rr_wi (wr := []) [0, 1] [] (va_runV (As := [.long 0, .long ((rr_ni x2 x4).toInt64)]) (rest := []) ⟨hx, hb, hml, hown, hts⟩ (c_X2_tell l D h0 qT H.size cA f n t lo hi 0 ((rr_ni x2 x4).toInt64) hn hz2) (cwV 2 hts gX2_work_X2_tell rfl rfl rfl (by decide +kernel) ⟨Nat.le_of_ble_eq_true rfl, Nat.le_of_ble_eq_true rfl⟩) (rr_vW hK hP hD (va_recv hK hP (ci := 2) (q0 := 0) rfl rfl)) rfl rfl hl.1 rfl (lv_room (Nat.le_of_ble_eq_true rfl)) dX2_work_214 ⟨Nat.le_of_ble_eq_true rfl, Nat.le_of_ble_eq_true rfl⟩) hS hA hP hD rfl rfl (by decide) (by decide) (by decide) (fun _ => by simp only [rr_wx, rr_wm, List.map_cons, List.map_nil]) (fun r214 u214 H locs e214 hP hD hS => ?_)
                      have hP : va_P D vwCl [(h0, .inr (2, [.ref qT, .int (nI n), .int (nI t), .int ((rr_tl f n 0 ((rr_ni x2 x4).toInt64)).1), .int ((rr_tl f n 0 ((rr_ni x2 x4).toInt64)).2)])), (qT, .inl (cA, 187, .inl f))] H := hP
                      have hD : va_D A [(h0, .inr (2, [.ref qT, .int (nI n), .int (nI t), .int ((rr_tl f n 0 ((rr_ni x2 x4).toInt64)).1), .int ((rr_tl f n 0 ((rr_ni x2 x4).toInt64)).2)])), (qT, .inl (cA, 187, .inl f))] := hD
                      subst e214
                      have eo : rr_op 5 x1 x2 x3 x4 = (rr_o5 x1 x2 x3 x4) := by unfold rr_op; rw [if_neg (by decide), if_neg (by decide), if_neg (by decide), if_neg (by decide), if_neg (by decide), if_pos (by decide)]
                      have ep : (rr_o5 x1 x2 x3 x4) = (0, (rr_ni x2 x4).toInt64) := (if_neg (fun z => by first | exact absurd z.1 (Int32.not_lt.mpr c172) | exact absurd z.2 (Int32.not_lt.mpr c177))).trans ((if_neg (Int32.not_lt.mpr c188)).trans (if_neg (Int32.not_lt.mpr c199)))
                      have ee : (rr_wk f n lo hi 5 x1 x2 x3 x4) = (1, rr_tl f n (0, (rr_ni x2 x4).toInt64).1 (0, (rr_ni x2 x4).toInt64).2) := ((if_pos ⟨⟨c1, c7⟩, b13, b24⟩).trans (if_neg (fun z => absurd z.1 (by decide)))).trans (congrArg (fun z : Int64 × Int64 => ((1 : Int32), rr_tl f n z.1 z.2)) (eo.trans ep))
                      exact W.iret (v := 1) hx hb hr (fun tt ht hW => ⟨⟨_, (), rfl, by rw [ee], by dsimp only; rw [ht, ee]; exact hP⟩, hS.F ht⟩) hS.2.2 dX2_work_217
                    · skip
                      refine lv_iload_n hx hb dX2_work_202 rfl (lv_at hl 3 rfl) ?_
                      refine lv_i2l (v := x2.toInt64) hx hb dX2_work_203 rfl ?_
                      refine lv_goto (tgt := 214) hx hb dX2_work_204 (by decide) ?_
                      have er : (rr_o5 x1 x2 x3 x4) = (0, x2.toInt64) := (if_neg (fun z => by first | exact absurd z.1 (Int32.not_lt.mpr c172) | exact absurd z.2 (Int32.not_lt.mpr c177))).trans ((if_neg (Int32.not_lt.mpr c188)).trans (if_pos (Int32.not_le.mp c199)))
                      have hz2 := rr_le5 (rr_rg_iff.mp b13).1 (rr_rg_iff.mp b24).1
                      rw [er] at hz2
                      refine rr_wi (wr := []) [0, 1] [] (va_runV (As := [.long 0, .long x2.toInt64]) (rest := []) ⟨hx, hb, hml, hown, hts⟩ (c_X2_tell l D h0 qT H.size cA f n t lo hi 0 x2.toInt64 hn hz2) (cwV 2 hts gX2_work_X2_tell rfl rfl rfl (by decide +kernel) ⟨Nat.le_of_ble_eq_true rfl, Nat.le_of_ble_eq_true rfl⟩) (rr_vW hK hP hD (va_recv hK hP (ci := 2) (q0 := 0) rfl rfl)) rfl rfl hl.1 rfl (lv_room (Nat.le_of_ble_eq_true rfl)) dX2_work_214 ⟨Nat.le_of_ble_eq_true rfl, Nat.le_of_ble_eq_true rfl⟩) hS hA hP hD rfl rfl (by decide) (by decide) (by decide) (fun _ => by simp only [rr_wx, rr_wm, List.map_cons, List.map_nil]) (fun r214 u214 H locs e214 hP hD hS => ?_)
                      have hP : va_P D vwCl [(h0, .inr (2, [.ref qT, .int (nI n), .int (nI t), .int ((rr_tl f n 0 x2.toInt64).1), .int ((rr_tl f n 0 x2.toInt64).2)])), (qT, .inl (cA, 187, .inl f))] H := hP
                      have hD : va_D A [(h0, .inr (2, [.ref qT, .int (nI n), .int (nI t), .int ((rr_tl f n 0 x2.toInt64).1), .int ((rr_tl f n 0 x2.toInt64).2)])), (qT, .inl (cA, 187, .inl f))] := hD
                      subst e214
                      have eo : rr_op 5 x1 x2 x3 x4 = (rr_o5 x1 x2 x3 x4) := by unfold rr_op; rw [if_neg (by decide), if_neg (by decide), if_neg (by decide), if_neg (by decide), if_neg (by decide), if_pos (by decide)]
                      have ep : (rr_o5 x1 x2 x3 x4) = (0, x2.toInt64) := (if_neg (fun z => by first | exact absurd z.1 (Int32.not_lt.mpr c172) | exact absurd z.2 (Int32.not_lt.mpr c177))).trans ((if_neg (Int32.not_lt.mpr c188)).trans (if_pos (Int32.not_le.mp c199)))
                      have ee : (rr_wk f n lo hi 5 x1 x2 x3 x4) = (1, rr_tl f n (0, x2.toInt64).1 (0, x2.toInt64).2) := ((if_pos ⟨⟨c1, c7⟩, b13, b24⟩).trans (if_neg (fun z => absurd z.1 (by decide)))).trans (congrArg (fun z : Int64 × Int64 => ((1 : Int32), rr_tl f n z.1 z.2)) (eo.trans ep))
                      exact W.iret (v := 1) hx hb hr (fun tt ht hW => ⟨⟨_, (), rfl, by rw [ee], by dsimp only; rw [ht, ee]; exact hP⟩, hS.F ht⟩) hS.2.2 dX2_work_217
                  · skip
                    exact absurd c172 c188
                · skip
                  refine lv_iload hx hb dX2_work_175 (lv_at hl 4 rfl) ?_
                  refine lv_if_ge (tgt := 185) hx hb dX2_work_177 (by decide) (fun c177 => ?_) (fun c177 => ?_)
                  · skip
                    refine lv_aload_n hx hb dX2_work_185 rfl (lv_at hl 0 rfl) ?_
                    refine lv_lconst (v := 0) hx hb dX2_work_186 (by decide) ?_
                    refine lv_iload_n hx hb dX2_work_187 rfl (lv_at hl 2 rfl) ?_
                    refine lv_if_ge (tgt := 197) hx hb dX2_work_188 (by decide) (fun c188 => ?_) (fun c188 => ?_)
                    · skip
                      exact absurd c188 c172
                    · skip
                      refine lv_iload hx hb dX2_work_191 (lv_at hl 5 rfl) ?_
                      refine lv_i2l (v := x4.toInt64) hx hb dX2_work_193 rfl ?_
                      refine lv_goto (tgt := 214) hx hb dX2_work_194 (by decide) ?_
                      have er : (rr_o5 x1 x2 x3 x4) = (0, x4.toInt64) := (if_neg (fun z => by first | exact absurd z.1 (Int32.not_lt.mpr c172) | exact absurd z.2 (Int32.not_lt.mpr c177))).trans (if_pos (Int32.not_le.mp c188))
                      have hz2 := rr_le5 (rr_rg_iff.mp b13).1 (rr_rg_iff.mp b24).1
                      rw [er] at hz2
                      refine rr_wi (wr := []) [0, 1] [] (va_runV (As := [.long 0, .long x4.toInt64]) (rest := []) ⟨hx, hb, hml, hown, hts⟩ (c_X2_tell l D h0 qT H.size cA f n t lo hi 0 x4.toInt64 hn hz2) (cwV 2 hts gX2_work_X2_tell rfl rfl rfl (by decide +kernel) ⟨Nat.le_of_ble_eq_true rfl, Nat.le_of_ble_eq_true rfl⟩) (rr_vW hK hP hD (va_recv hK hP (ci := 2) (q0 := 0) rfl rfl)) rfl rfl hl.1 rfl (lv_room (Nat.le_of_ble_eq_true rfl)) dX2_work_214 ⟨Nat.le_of_ble_eq_true rfl, Nat.le_of_ble_eq_true rfl⟩) hS hA hP hD rfl rfl (by decide) (by decide) (by decide) (fun _ => by simp only [rr_wx, rr_wm, List.map_cons, List.map_nil]) (fun r214 u214 H locs e214 hP hD hS => ?_)
                      have hP : va_P D vwCl [(h0, .inr (2, [.ref qT, .int (nI n), .int (nI t), .int ((rr_tl f n 0 x4.toInt64).1), .int ((rr_tl f n 0 x4.toInt64).2)])), (qT, .inl (cA, 187, .inl f))] H := hP
                      have hD : va_D A [(h0, .inr (2, [.ref qT, .int (nI n), .int (nI t), .int ((rr_tl f n 0 x4.toInt64).1), .int ((rr_tl f n 0 x4.toInt64).2)])), (qT, .inl (cA, 187, .inl f))] := hD
                      subst e214
                      have eo : rr_op 5 x1 x2 x3 x4 = (rr_o5 x1 x2 x3 x4) := by unfold rr_op; rw [if_neg (by decide), if_neg (by decide), if_neg (by decide), if_neg (by decide), if_neg (by decide), if_pos (by decide)]
                      have ep : (rr_o5 x1 x2 x3 x4) = (0, x4.toInt64) := (if_neg (fun z => by first | exact absurd z.1 (Int32.not_lt.mpr c172) | exact absurd z.2 (Int32.not_lt.mpr c177))).trans (if_pos (Int32.not_le.mp c188))
                      have ee : (rr_wk f n lo hi 5 x1 x2 x3 x4) = (1, rr_tl f n (0, x4.toInt64).1 (0, x4.toInt64).2) := ((if_pos ⟨⟨c1, c7⟩, b13, b24⟩).trans (if_neg (fun z => absurd z.1 (by decide)))).trans (congrArg (fun z : Int64 × Int64 => ((1 : Int32), rr_tl f n z.1 z.2)) (eo.trans ep))
                      exact W.iret (v := 1) hx hb hr (fun tt ht hW => ⟨⟨_, (), rfl, by rw [ee], by dsimp only; rw [ht, ee]; exact hP⟩, hS.F ht⟩) hS.2.2 dX2_work_217
                  · skip
                    refine lv_aload_n hx hb dX2_work_180 rfl (lv_at hl 0 rfl) ?_
                    refine rr_wi (wr := []) [0, 1] [] (va_runV (As := []) (rest := []) ⟨hx, hb, hml, hown, hts⟩ (c_X2_tellAll l D h0 qT H.size cA f n t lo hi  hn) (cwV 0 hts gX2_work_X2_tellAll rfl rfl rfl (by decide +kernel) ⟨Nat.le_of_ble_eq_true rfl, Nat.le_of_ble_eq_true rfl⟩) (rr_vW hK hP hD (va_recv hK hP (ci := 2) (q0 := 0) rfl rfl)) rfl rfl hl.1 rfl (lv_room (Nat.le_of_ble_eq_true rfl)) dX2_work_181 ⟨Nat.le_of_ble_eq_true rfl, Nat.le_of_ble_eq_true rfl⟩) hS hA hP hD rfl rfl (by decide) (by decide) (by decide) (fun _ => by simp only [rr_wx, rr_wm, List.map_cons, List.map_nil]) (fun r181 u181 H locs e181 hP hD hS => ?_)
                    have hP : va_P D vwCl [(h0, .inr (2, [.ref qT, .int (nI n), .int (nI t), .int ((-2147483648)), .int 2147483647])), (qT, .inl (cA, 187, .inl f))] H := hP
                    have hD : va_D A [(h0, .inr (2, [.ref qT, .int (nI n), .int (nI t), .int ((-2147483648)), .int 2147483647])), (qT, .inl (cA, 187, .inl f))] := hD
                    subst e181
                    have eo : rr_op 5 x1 x2 x3 x4 = (rr_o5 x1 x2 x3 x4) := by unfold rr_op; rw [if_neg (by decide), if_neg (by decide), if_neg (by decide), if_neg (by decide), if_neg (by decide), if_pos (by decide)]
                    have ep : (rr_o5 x1 x2 x3 x4) = (-2147483648, 2147483647) := if_pos ⟨Int32.not_le.mp c172, Int32.not_le.mp c177⟩
                    have ee : (rr_wk f n lo hi 5 x1 x2 x3 x4) = (1, rr_tl f n (-2147483648, 2147483647).1 (-2147483648, 2147483647).2) := ((if_pos ⟨⟨c1, c7⟩, b13, b24⟩).trans (if_neg (fun z => absurd z.1 (by decide)))).trans (congrArg (fun z : Int64 × Int64 => ((1 : Int32), rr_tl f n z.1 z.2)) (eo.trans ep))
                    have ef : rr_tl f n ((-2147483648, 2147483647) : Int64 × Int64).1 ((-2147483648, 2147483647) : Int64 × Int64).2 = (-2147483648, 2147483647) := rr_tl_all f n
                    rw [ef] at ee
                    exact W.iret (v := 1) hx hb hr (fun tt ht hW => ⟨⟨_, (), rfl, by rw [ee], by dsimp only; rw [ht, ee]; exact hP⟩, hS.F ht⟩) hS.2.2 dX2_work_184
              · skip
                refine lv_iload_n hx hb dX2_work_32 rfl (lv_at hl 1 rfl) ?_
                refine lv_tableIn (off := 185) (tgt := 218) hx hb dX2_work_33 (by decide) (by decide) (by decide +kernel) (by decide) ?_
                refine lv_iload_n hx hb dX2_work_218 rfl (lv_at hl 2 rfl) ?_
                refine lv_if_lt (tgt := 227) hx hb dX2_work_219 (by decide) (fun c219 => ?_) (fun c219 => ?_)
                · skip
                  refine lv_aload_n hx hb dX2_work_227 rfl (lv_at hl 0 rfl) ?_
                  refine rr_wi (wr := []) [0, 1] [] (va_runV (As := []) (rest := []) ⟨hx, hb, hml, hown, hts⟩ (c_X2_tellAll l D h0 qT H.size cA f n t lo hi  hn) (cwV 0 hts gX2_work_X2_tellAll rfl rfl rfl (by decide +kernel) ⟨Nat.le_of_ble_eq_true rfl, Nat.le_of_ble_eq_true rfl⟩) (rr_vW hK hP hD (va_recv hK hP (ci := 2) (q0 := 0) rfl rfl)) rfl rfl hl.1 rfl (lv_room (Nat.le_of_ble_eq_true rfl)) dX2_work_228 ⟨Nat.le_of_ble_eq_true rfl, Nat.le_of_ble_eq_true rfl⟩) hS hA hP hD rfl rfl (by decide) (by decide) (by decide) (fun _ => by simp only [rr_wx, rr_wm, List.map_cons, List.map_nil]) (fun r228 u228 H locs e228 hP hD hS => ?_)
                  have hP : va_P D vwCl [(h0, .inr (2, [.ref qT, .int (nI n), .int (nI t), .int ((-2147483648)), .int 2147483647])), (qT, .inl (cA, 187, .inl f))] H := hP
                  have hD : va_D A [(h0, .inr (2, [.ref qT, .int (nI n), .int (nI t), .int ((-2147483648)), .int 2147483647])), (qT, .inl (cA, 187, .inl f))] := hD
                  subst e228
                  have eo : rr_op 6 x1 x2 x3 x4 = (rr_o6 x1 x2 x3 x4) := by unfold rr_op; rw [if_neg (by decide), if_neg (by decide), if_neg (by decide), if_neg (by decide), if_neg (by decide), if_neg (by decide), if_pos (by decide)]
                  have ep : (rr_o6 x1 x2 x3 x4) = (-2147483648, 2147483647) := if_pos (by first | exact Or.inl c219 | exact Or.inr (Int32.not_le.mp c224))
                  have ee : (rr_wk f n lo hi 6 x1 x2 x3 x4) = (1, rr_tl f n (-2147483648, 2147483647).1 (-2147483648, 2147483647).2) := ((if_pos ⟨⟨c1, c7⟩, b13, b24⟩).trans (if_neg (fun z => absurd z.1 (by decide)))).trans (congrArg (fun z : Int64 × Int64 => ((1 : Int32), rr_tl f n z.1 z.2)) (eo.trans ep))
                  have ef : rr_tl f n ((-2147483648, 2147483647) : Int64 × Int64).1 ((-2147483648, 2147483647) : Int64 × Int64).2 = (-2147483648, 2147483647) := rr_tl_all f n
                  rw [ef] at ee
                  exact W.iret (v := 1) hx hb hr (fun tt ht hW => ⟨⟨_, (), rfl, by rw [ee], by dsimp only; rw [ht, ee]; exact hP⟩, hS.F ht⟩) hS.2.2 dX2_work_231
                · skip
                  refine lv_iload hx hb dX2_work_222 (lv_at hl 4 rfl) ?_
                  refine lv_if_ge (tgt := 232) hx hb dX2_work_224 (by decide) (fun c224 => ?_) (fun c224 => ?_)
                  · skip
                    refine lv_aload_n hx hb dX2_work_232 rfl (lv_at hl 0 rfl) ?_
                    refine lv_lconst (v := 0) hx hb dX2_work_233 (by decide) ?_
                    refine lv_iload_n hx hb dX2_work_234 rfl (lv_at hl 3 rfl) ?_
                    refine lv_iload hx hb dX2_work_235 (lv_at hl 5 rfl) ?_
                    refine va_mmax hx hb (hml.trans hl.1.symm) hown (hts (.methodLink RX2 36 Lib.Math.max.name) (by decide +kernel)) (hts (.static Lib.Math.max.name) (by decide +kernel)) (hts (.initialized "java/lang/Math") (by decide +kernel)) (hts (.code Lib.Math.max.name Lib.Math.max.code 2 (some .int)) (by decide +kernel)) (Nat.le_of_ble_eq_true rfl) (Nat.le_of_ble_eq_true rfl) (Nat.le_of_ble_eq_true rfl) (Nat.le_of_ble_eq_true rfl) dX2_work_237 ?_
                    refine W.eq (g2 := F0 m 240 ls [.int (rr_xi x2 x4), .long 0, .ref h0]) rfl ?_
                    refine rr_rl (va_runS (As := [.int (rr_xi x2 x4)]) (rest := [.long 0, .ref h0]) ⟨hx, hb, hml, hown, hts⟩ (c_X2_ones l H.size (rr_xi x2 x4)) (va_cwS 1 hts gX2_work_X2_ones rfl rfl rfl (by decide +kernel) ⟨Nat.le_of_ble_eq_true rfl, Nat.le_of_ble_eq_true rfl⟩) rr_v0 rfl rfl hl.1 rfl (lv_room (Nat.le_of_ble_eq_true rfl)) dX2_work_240 ⟨Nat.le_of_ble_eq_true rfl, Nat.le_of_ble_eq_true rfl⟩) hS hA hP (fun r240 H locs e240 hP hS => ?_)
                    subst e240
                    have er : (rr_o6 x1 x2 x3 x4) = (0, lN (rr_on (rr_xi x2 x4) 31 0)) := if_neg (fun z => by rcases z with z | z; exact c219 z; exact absurd z (Int32.not_lt.mpr c224))
                    have hz2 := rr_le6 x1 x2 x3 x4
                    rw [er] at hz2
                    refine rr_wi (wr := []) [0, 1] [] (va_runV (As := [.long 0, .long (lN (rr_on (rr_xi x2 x4) 31 0))]) (rest := []) ⟨hx, hb, hml, hown, hts⟩ (c_X2_tell l D h0 qT H.size cA f n t lo hi 0 (lN (rr_on (rr_xi x2 x4) 31 0)) hn hz2) (cwV 2 hts gX2_work_X2_tell rfl rfl rfl (by decide +kernel) ⟨Nat.le_of_ble_eq_true rfl, Nat.le_of_ble_eq_true rfl⟩) (rr_vW hK hP hD (va_recv hK hP (ci := 2) (q0 := 0) rfl rfl)) rfl rfl hl.1 rfl (lv_room (Nat.le_of_ble_eq_true rfl)) dX2_work_243 ⟨Nat.le_of_ble_eq_true rfl, Nat.le_of_ble_eq_true rfl⟩) hS hA hP hD rfl rfl (by decide) (by decide) (by decide) (fun _ => by simp only [rr_wx, rr_wm, List.map_cons, List.map_nil]) (fun r243 u243 H locs e243 hP hD hS => ?_)
                    have hP : va_P D vwCl [(h0, .inr (2, [.ref qT, .int (nI n), .int (nI t), .int ((rr_tl f n 0 (lN (rr_on (rr_xi x2 x4) 31 0))).1), .int ((rr_tl f n 0 (lN (rr_on (rr_xi x2 x4) 31 0))).2)])), (qT, .inl (cA, 187, .inl f))] H := hP
                    have hD : va_D A [(h0, .inr (2, [.ref qT, .int (nI n), .int (nI t), .int ((rr_tl f n 0 (lN (rr_on (rr_xi x2 x4) 31 0))).1), .int ((rr_tl f n 0 (lN (rr_on (rr_xi x2 x4) 31 0))).2)])), (qT, .inl (cA, 187, .inl f))] := hD
                    subst e243
                    have eo : rr_op 6 x1 x2 x3 x4 = (rr_o6 x1 x2 x3 x4) := by unfold rr_op; rw [if_neg (by decide), if_neg (by decide), if_neg (by decide), if_neg (by decide), if_neg (by decide), if_neg (by decide), if_pos (by decide)]
                    have ep : (rr_o6 x1 x2 x3 x4) = (0, lN (rr_on (rr_xi x2 x4) 31 0)) := if_neg (fun z => by rcases z with z | z; exact c219 z; exact absurd z (Int32.not_lt.mpr c224))
                    have ee : (rr_wk f n lo hi 6 x1 x2 x3 x4) = (1, rr_tl f n (0, lN (rr_on (rr_xi x2 x4) 31 0)).1 (0, lN (rr_on (rr_xi x2 x4) 31 0)).2) := ((if_pos ⟨⟨c1, c7⟩, b13, b24⟩).trans (if_neg (fun z => absurd z.1 (by decide)))).trans (congrArg (fun z : Int64 × Int64 => ((1 : Int32), rr_tl f n z.1 z.2)) (eo.trans ep))
                    exact W.iret (v := 1) hx hb hr (fun tt ht hW => ⟨⟨_, (), rfl, by rw [ee], by dsimp only; rw [ht, ee]; exact hP⟩, hS.F ht⟩) hS.2.2 dX2_work_246
                  · skip
                    refine lv_aload_n hx hb dX2_work_227 rfl (lv_at hl 0 rfl) ?_
                    refine rr_wi (wr := []) [0, 1] [] (va_runV (As := []) (rest := []) ⟨hx, hb, hml, hown, hts⟩ (c_X2_tellAll l D h0 qT H.size cA f n t lo hi  hn) (cwV 0 hts gX2_work_X2_tellAll rfl rfl rfl (by decide +kernel) ⟨Nat.le_of_ble_eq_true rfl, Nat.le_of_ble_eq_true rfl⟩) (rr_vW hK hP hD (va_recv hK hP (ci := 2) (q0 := 0) rfl rfl)) rfl rfl hl.1 rfl (lv_room (Nat.le_of_ble_eq_true rfl)) dX2_work_228 ⟨Nat.le_of_ble_eq_true rfl, Nat.le_of_ble_eq_true rfl⟩) hS hA hP hD rfl rfl (by decide) (by decide) (by decide) (fun _ => by simp only [rr_wx, rr_wm, List.map_cons, List.map_nil]) (fun r228 u228 H locs e228 hP hD hS => ?_)
                    have hP : va_P D vwCl [(h0, .inr (2, [.ref qT, .int (nI n), .int (nI t), .int ((-2147483648)), .int 2147483647])), (qT, .inl (cA, 187, .inl f))] H := hP
                    have hD : va_D A [(h0, .inr (2, [.ref qT, .int (nI n), .int (nI t), .int ((-2147483648)), .int 2147483647])), (qT, .inl (cA, 187, .inl f))] := hD
                    subst e228
                    have eo : rr_op 6 x1 x2 x3 x4 = (rr_o6 x1 x2 x3 x4) := by unfold rr_op; rw [if_neg (by decide), if_neg (by decide), if_neg (by decide), if_neg (by decide), if_neg (by decide), if_neg (by decide), if_pos (by decide)]
                    have ep : (rr_o6 x1 x2 x3 x4) = (-2147483648, 2147483647) := if_pos (by first | exact Or.inl c219 | exact Or.inr (Int32.not_le.mp c224))
                    have ee : (rr_wk f n lo hi 6 x1 x2 x3 x4) = (1, rr_tl f n (-2147483648, 2147483647).1 (-2147483648, 2147483647).2) := ((if_pos ⟨⟨c1, c7⟩, b13, b24⟩).trans (if_neg (fun z => absurd z.1 (by decide)))).trans (congrArg (fun z : Int64 × Int64 => ((1 : Int32), rr_tl f n z.1 z.2)) (eo.trans ep))
                    have ef : rr_tl f n ((-2147483648, 2147483647) : Int64 × Int64).1 ((-2147483648, 2147483647) : Int64 × Int64).2 = (-2147483648, 2147483647) := rr_tl_all f n
                    rw [ef] at ee
                    exact W.iret (v := 1) hx hb hr (fun tt ht hW => ⟨⟨_, (), rfl, by rw [ee], by dsimp only; rw [ht, ee]; exact hP⟩, hS.F ht⟩) hS.2.2 dX2_work_231
              · skip
                refine lv_iload_n hx hb dX2_work_32 rfl (lv_at hl 1 rfl) ?_
                refine lv_tableIn (off := 185) (tgt := 218) hx hb dX2_work_33 (by decide) (by decide) (by decide +kernel) (by decide) ?_
                refine lv_iload_n hx hb dX2_work_218 rfl (lv_at hl 2 rfl) ?_
                refine lv_if_lt (tgt := 227) hx hb dX2_work_219 (by decide) (fun c219 => ?_) (fun c219 => ?_)
                · skip
                  refine lv_aload_n hx hb dX2_work_227 rfl (lv_at hl 0 rfl) ?_
                  refine rr_wi (wr := []) [0, 1] [] (va_runV (As := []) (rest := []) ⟨hx, hb, hml, hown, hts⟩ (c_X2_tellAll l D h0 qT H.size cA f n t lo hi  hn) (cwV 0 hts gX2_work_X2_tellAll rfl rfl rfl (by decide +kernel) ⟨Nat.le_of_ble_eq_true rfl, Nat.le_of_ble_eq_true rfl⟩) (rr_vW hK hP hD (va_recv hK hP (ci := 2) (q0 := 0) rfl rfl)) rfl rfl hl.1 rfl (lv_room (Nat.le_of_ble_eq_true rfl)) dX2_work_228 ⟨Nat.le_of_ble_eq_true rfl, Nat.le_of_ble_eq_true rfl⟩) hS hA hP hD rfl rfl (by decide) (by decide) (by decide) (fun _ => by simp only [rr_wx, rr_wm, List.map_cons, List.map_nil]) (fun r228 u228 H locs e228 hP hD hS => ?_)
                  have hP : va_P D vwCl [(h0, .inr (2, [.ref qT, .int (nI n), .int (nI t), .int ((-2147483648)), .int 2147483647])), (qT, .inl (cA, 187, .inl f))] H := hP
                  have hD : va_D A [(h0, .inr (2, [.ref qT, .int (nI n), .int (nI t), .int ((-2147483648)), .int 2147483647])), (qT, .inl (cA, 187, .inl f))] := hD
                  subst e228
                  have eo : rr_op 7 x1 x2 x3 x4 = (rr_o6 x1 x2 x3 x4) := by unfold rr_op; rw [if_neg (by decide), if_neg (by decide), if_neg (by decide), if_neg (by decide), if_neg (by decide), if_neg (by decide), if_pos (by decide)]
                  have ep : (rr_o6 x1 x2 x3 x4) = (-2147483648, 2147483647) := if_pos (by first | exact Or.inl c219 | exact Or.inr (Int32.not_le.mp c224))
                  have ee : (rr_wk f n lo hi 7 x1 x2 x3 x4) = (1, rr_tl f n (-2147483648, 2147483647).1 (-2147483648, 2147483647).2) := ((if_pos ⟨⟨c1, c7⟩, b13, b24⟩).trans (if_neg (fun z => absurd z.1 (by decide)))).trans (congrArg (fun z : Int64 × Int64 => ((1 : Int32), rr_tl f n z.1 z.2)) (eo.trans ep))
                  have ef : rr_tl f n ((-2147483648, 2147483647) : Int64 × Int64).1 ((-2147483648, 2147483647) : Int64 × Int64).2 = (-2147483648, 2147483647) := rr_tl_all f n
                  rw [ef] at ee
                  exact W.iret (v := 1) hx hb hr (fun tt ht hW => ⟨⟨_, (), rfl, by rw [ee], by dsimp only; rw [ht, ee]; exact hP⟩, hS.F ht⟩) hS.2.2 dX2_work_231
                · skip
                  refine lv_iload hx hb dX2_work_222 (lv_at hl 4 rfl) ?_
                  refine lv_if_ge (tgt := 232) hx hb dX2_work_224 (by decide) (fun c224 => ?_) (fun c224 => ?_)
                  · skip
                    refine lv_aload_n hx hb dX2_work_232 rfl (lv_at hl 0 rfl) ?_
                    refine lv_lconst (v := 0) hx hb dX2_work_233 (by decide) ?_
                    refine lv_iload_n hx hb dX2_work_234 rfl (lv_at hl 3 rfl) ?_
                    refine lv_iload hx hb dX2_work_235 (lv_at hl 5 rfl) ?_
                    refine va_mmax hx hb (hml.trans hl.1.symm) hown (hts (.methodLink RX2 36 Lib.Math.max.name) (by decide +kernel)) (hts (.static Lib.Math.max.name) (by decide +kernel)) (hts (.initialized "java/lang/Math") (by decide +kernel)) (hts (.code Lib.Math.max.name Lib.Math.max.code 2 (some .int)) (by decide +kernel)) (Nat.le_of_ble_eq_true rfl) (Nat.le_of_ble_eq_true rfl) (Nat.le_of_ble_eq_true rfl) (Nat.le_of_ble_eq_true rfl) dX2_work_237 ?_
                    refine W.eq (g2 := F0 m 240 ls [.int (rr_xi x2 x4), .long 0, .ref h0]) rfl ?_
                    refine rr_rl (va_runS (As := [.int (rr_xi x2 x4)]) (rest := [.long 0, .ref h0]) ⟨hx, hb, hml, hown, hts⟩ (c_X2_ones l H.size (rr_xi x2 x4)) (va_cwS 1 hts gX2_work_X2_ones rfl rfl rfl (by decide +kernel) ⟨Nat.le_of_ble_eq_true rfl, Nat.le_of_ble_eq_true rfl⟩) rr_v0 rfl rfl hl.1 rfl (lv_room (Nat.le_of_ble_eq_true rfl)) dX2_work_240 ⟨Nat.le_of_ble_eq_true rfl, Nat.le_of_ble_eq_true rfl⟩) hS hA hP (fun r240 H locs e240 hP hS => ?_)
                    subst e240
                    have er : (rr_o6 x1 x2 x3 x4) = (0, lN (rr_on (rr_xi x2 x4) 31 0)) := if_neg (fun z => by rcases z with z | z; exact c219 z; exact absurd z (Int32.not_lt.mpr c224))
                    have hz2 := rr_le6 x1 x2 x3 x4
                    rw [er] at hz2
                    refine rr_wi (wr := []) [0, 1] [] (va_runV (As := [.long 0, .long (lN (rr_on (rr_xi x2 x4) 31 0))]) (rest := []) ⟨hx, hb, hml, hown, hts⟩ (c_X2_tell l D h0 qT H.size cA f n t lo hi 0 (lN (rr_on (rr_xi x2 x4) 31 0)) hn hz2) (cwV 2 hts gX2_work_X2_tell rfl rfl rfl (by decide +kernel) ⟨Nat.le_of_ble_eq_true rfl, Nat.le_of_ble_eq_true rfl⟩) (rr_vW hK hP hD (va_recv hK hP (ci := 2) (q0 := 0) rfl rfl)) rfl rfl hl.1 rfl (lv_room (Nat.le_of_ble_eq_true rfl)) dX2_work_243 ⟨Nat.le_of_ble_eq_true rfl, Nat.le_of_ble_eq_true rfl⟩) hS hA hP hD rfl rfl (by decide) (by decide) (by decide) (fun _ => by simp only [rr_wx, rr_wm, List.map_cons, List.map_nil]) (fun r243 u243 H locs e243 hP hD hS => ?_)
                    have hP : va_P D vwCl [(h0, .inr (2, [.ref qT, .int (nI n), .int (nI t), .int ((rr_tl f n 0 (lN (rr_on (rr_xi x2 x4) 31 0))).1), .int ((rr_tl f n 0 (lN (rr_on (rr_xi x2 x4) 31 0))).2)])), (qT, .inl (cA, 187, .inl f))] H := hP
                    have hD : va_D A [(h0, .inr (2, [.ref qT, .int (nI n), .int (nI t), .int ((rr_tl f n 0 (lN (rr_on (rr_xi x2 x4) 31 0))).1), .int ((rr_tl f n 0 (lN (rr_on (rr_xi x2 x4) 31 0))).2)])), (qT, .inl (cA, 187, .inl f))] := hD
                    subst e243
                    have eo : rr_op 7 x1 x2 x3 x4 = (rr_o6 x1 x2 x3 x4) := by unfold rr_op; rw [if_neg (by decide), if_neg (by decide), if_neg (by decide), if_neg (by decide), if_neg (by decide), if_neg (by decide), if_pos (by decide)]
                    have ep : (rr_o6 x1 x2 x3 x4) = (0, lN (rr_on (rr_xi x2 x4) 31 0)) := if_neg (fun z => by rcases z with z | z; exact c219 z; exact absurd z (Int32.not_lt.mpr c224))
                    have ee : (rr_wk f n lo hi 7 x1 x2 x3 x4) = (1, rr_tl f n (0, lN (rr_on (rr_xi x2 x4) 31 0)).1 (0, lN (rr_on (rr_xi x2 x4) 31 0)).2) := ((if_pos ⟨⟨c1, c7⟩, b13, b24⟩).trans (if_neg (fun z => absurd z.1 (by decide)))).trans (congrArg (fun z : Int64 × Int64 => ((1 : Int32), rr_tl f n z.1 z.2)) (eo.trans ep))
                    exact W.iret (v := 1) hx hb hr (fun tt ht hW => ⟨⟨_, (), rfl, by rw [ee], by dsimp only; rw [ht, ee]; exact hP⟩, hS.F ht⟩) hS.2.2 dX2_work_246
                  · skip
                    refine lv_aload_n hx hb dX2_work_227 rfl (lv_at hl 0 rfl) ?_
                    refine rr_wi (wr := []) [0, 1] [] (va_runV (As := []) (rest := []) ⟨hx, hb, hml, hown, hts⟩ (c_X2_tellAll l D h0 qT H.size cA f n t lo hi  hn) (cwV 0 hts gX2_work_X2_tellAll rfl rfl rfl (by decide +kernel) ⟨Nat.le_of_ble_eq_true rfl, Nat.le_of_ble_eq_true rfl⟩) (rr_vW hK hP hD (va_recv hK hP (ci := 2) (q0 := 0) rfl rfl)) rfl rfl hl.1 rfl (lv_room (Nat.le_of_ble_eq_true rfl)) dX2_work_228 ⟨Nat.le_of_ble_eq_true rfl, Nat.le_of_ble_eq_true rfl⟩) hS hA hP hD rfl rfl (by decide) (by decide) (by decide) (fun _ => by simp only [rr_wx, rr_wm, List.map_cons, List.map_nil]) (fun r228 u228 H locs e228 hP hD hS => ?_)
                    have hP : va_P D vwCl [(h0, .inr (2, [.ref qT, .int (nI n), .int (nI t), .int ((-2147483648)), .int 2147483647])), (qT, .inl (cA, 187, .inl f))] H := hP
                    have hD : va_D A [(h0, .inr (2, [.ref qT, .int (nI n), .int (nI t), .int ((-2147483648)), .int 2147483647])), (qT, .inl (cA, 187, .inl f))] := hD
                    subst e228
                    have eo : rr_op 7 x1 x2 x3 x4 = (rr_o6 x1 x2 x3 x4) := by unfold rr_op; rw [if_neg (by decide), if_neg (by decide), if_neg (by decide), if_neg (by decide), if_neg (by decide), if_neg (by decide), if_pos (by decide)]
                    have ep : (rr_o6 x1 x2 x3 x4) = (-2147483648, 2147483647) := if_pos (by first | exact Or.inl c219 | exact Or.inr (Int32.not_le.mp c224))
                    have ee : (rr_wk f n lo hi 7 x1 x2 x3 x4) = (1, rr_tl f n (-2147483648, 2147483647).1 (-2147483648, 2147483647).2) := ((if_pos ⟨⟨c1, c7⟩, b13, b24⟩).trans (if_neg (fun z => absurd z.1 (by decide)))).trans (congrArg (fun z : Int64 × Int64 => ((1 : Int32), rr_tl f n z.1 z.2)) (eo.trans ep))
                    have ef : rr_tl f n ((-2147483648, 2147483647) : Int64 × Int64).1 ((-2147483648, 2147483647) : Int64 × Int64).2 = (-2147483648, 2147483647) := rr_tl_all f n
                    rw [ef] at ee
                    exact W.iret (v := 1) hx hb hr (fun tt ht hW => ⟨⟨_, (), rfl, by rw [ee], by dsimp only; rw [ht, ee]; exact hP⟩, hS.F ht⟩) hS.2.2 dX2_work_231
              · skip
                refine lv_iload_n hx hb dX2_work_32 rfl (lv_at hl 1 rfl) ?_
                refine lv_tableIn (off := 214) (tgt := 247) hx hb dX2_work_33 (by decide) (by decide) (by decide +kernel) (by decide) ?_
                refine lv_iload hx hb dX2_work_247 (lv_at hl 4 rfl) ?_
                refine lv_iload hx hb dX2_work_249 (lv_at hl 5 rfl) ?_
                refine lv_icmp_eq (tgt := 259) hx hb dX2_work_251 (by decide) (fun c251 => ?_) (fun c251 => ?_)
                · skip
                  refine lv_lconst (v := 1) hx hb dX2_work_259 (by decide) ?_
                  refine lv_iload hx hb dX2_work_260 (lv_at hl 4 rfl) ?_
                  refine lv_bipush (v := 31) hx hb dX2_work_262 (by decide) ?_
                  refine lv_iand hx hb dX2_work_264 ?_
                  refine lv_lshl (v := (1 : Int64) <<< ((x3 &&& 31).toInt64 &&& 63)) hx hb dX2_work_265 rfl ?_
                  refine lv_lstore (lv' := [(6, .long ((1 : Int64) <<< ((x3 &&& 31).toInt64 &&& 63))), (0, .ref h0), (1, .int 8), (2, .int x1), (3, .int x2), (4, .int x3), (5, .int x4)]) hx hb dX2_work_266 hl (by decide) rfl (fun ls hl => ?_)
                  refine lv_aload_n hx hb dX2_work_268 rfl (lv_at hl 1 rfl) ?_
                  refine lv_iload_n hx hb dX2_work_269 rfl (lv_at hl 3 rfl) ?_
                  refine lv_i2l (v := x1.toInt64) hx hb dX2_work_270 rfl ?_
                  refine lv_lload hx hb dX2_work_271 (lv_at hl 0 rfl) ?_
                  refine lv_lmul hx hb dX2_work_273 ?_
                  refine lv_iload_n hx hb dX2_work_274 rfl (lv_at hl 4 rfl) ?_
                  refine lv_i2l (v := x2.toInt64) hx hb dX2_work_275 rfl ?_
                  refine lv_lload hx hb dX2_work_276 (lv_at hl 0 rfl) ?_
                  refine lv_lmul hx hb dX2_work_278 ?_
                  have er : (rr_o8 x1 x2 x3 x4) = (x1.toInt64 * rr_by x3, x2.toInt64 * rr_by x3) := if_pos c251
                  have hz2 := rr_le8 x3 x4 (rr_rg_iff.mp b13).1
                  rw [er] at hz2
                  refine rr_wi (wr := []) [0, 1] [] (va_runV (As := [.long (x1.toInt64 * ((1 : Int64) <<< ((x3 &&& 31).toInt64 &&& 63))), .long (x2.toInt64 * ((1 : Int64) <<< ((x3 &&& 31).toInt64 &&& 63)))]) (rest := []) ⟨hx, hb, hml, hown, hts⟩ (c_X2_tell l D h0 qT H.size cA f n t lo hi (x1.toInt64 * ((1 : Int64) <<< ((x3 &&& 31).toInt64 &&& 63))) (x2.toInt64 * ((1 : Int64) <<< ((x3 &&& 31).toInt64 &&& 63))) hn hz2) (cwV 2 hts gX2_work_X2_tell rfl rfl rfl (by decide +kernel) ⟨Nat.le_of_ble_eq_true rfl, Nat.le_of_ble_eq_true rfl⟩) (rr_vW hK hP hD (va_recv hK hP (ci := 2) (q0 := 0) rfl rfl)) rfl rfl hl.1 rfl (lv_room (Nat.le_of_ble_eq_true rfl)) dX2_work_279 ⟨Nat.le_of_ble_eq_true rfl, Nat.le_of_ble_eq_true rfl⟩) hS hA hP hD rfl rfl (by decide) (by decide) (by decide) (fun _ => by simp only [rr_wx, rr_wm, List.map_cons, List.map_nil]) (fun r279 u279 H locs e279 hP hD hS => ?_)
                  have hP : va_P D vwCl [(h0, .inr (2, [.ref qT, .int (nI n), .int (nI t), .int ((rr_tl f n (x1.toInt64 * ((1 : Int64) <<< ((x3 &&& 31).toInt64 &&& 63))) (x2.toInt64 * ((1 : Int64) <<< ((x3 &&& 31).toInt64 &&& 63)))).1), .int ((rr_tl f n (x1.toInt64 * ((1 : Int64) <<< ((x3 &&& 31).toInt64 &&& 63))) (x2.toInt64 * ((1 : Int64) <<< ((x3 &&& 31).toInt64 &&& 63)))).2)])), (qT, .inl (cA, 187, .inl f))] H := hP
                  have hD : va_D A [(h0, .inr (2, [.ref qT, .int (nI n), .int (nI t), .int ((rr_tl f n (x1.toInt64 * ((1 : Int64) <<< ((x3 &&& 31).toInt64 &&& 63))) (x2.toInt64 * ((1 : Int64) <<< ((x3 &&& 31).toInt64 &&& 63)))).1), .int ((rr_tl f n (x1.toInt64 * ((1 : Int64) <<< ((x3 &&& 31).toInt64 &&& 63))) (x2.toInt64 * ((1 : Int64) <<< ((x3 &&& 31).toInt64 &&& 63)))).2)])), (qT, .inl (cA, 187, .inl f))] := hD
                  subst e279
                  have eo : rr_op 8 x1 x2 x3 x4 = (rr_o8 x1 x2 x3 x4) := by unfold rr_op; rw [if_neg (by decide), if_neg (by decide), if_neg (by decide), if_neg (by decide), if_neg (by decide), if_neg (by decide), if_neg (by decide), if_pos (by decide)]
                  have ep : (rr_o8 x1 x2 x3 x4) = (x1.toInt64 * rr_by x3, x2.toInt64 * rr_by x3) := if_pos c251
                  have ee : (rr_wk f n lo hi 8 x1 x2 x3 x4) = (1, rr_tl f n (x1.toInt64 * rr_by x3, x2.toInt64 * rr_by x3).1 (x1.toInt64 * rr_by x3, x2.toInt64 * rr_by x3).2) := ((if_pos ⟨⟨c1, c7⟩, b13, b24⟩).trans (if_neg (fun z => absurd z.1 (by decide)))).trans (congrArg (fun z : Int64 × Int64 => ((1 : Int32), rr_tl f n z.1 z.2)) (eo.trans ep))
                  exact W.iret (v := 1) hx hb hr (fun tt ht hW => ⟨⟨_, (), rfl, by rw [ee], by dsimp only; rw [ht, ee]; exact hP⟩, hS.F ht⟩) hS.2.2 dX2_work_282
                · skip
                  refine lv_aload_n hx hb dX2_work_254 rfl (lv_at hl 0 rfl) ?_
                  refine rr_wi (wr := []) [0, 1] [] (va_runV (As := []) (rest := []) ⟨hx, hb, hml, hown, hts⟩ (c_X2_tellAll l D h0 qT H.size cA f n t lo hi  hn) (cwV 0 hts gX2_work_X2_tellAll rfl rfl rfl (by decide +kernel) ⟨Nat.le_of_ble_eq_true rfl, Nat.le_of_ble_eq_true rfl⟩) (rr_vW hK hP hD (va_recv hK hP (ci := 2) (q0 := 0) rfl rfl)) rfl rfl hl.1 rfl (lv_room (Nat.le_of_ble_eq_true rfl)) dX2_work_255 ⟨Nat.le_of_ble_eq_true rfl, Nat.le_of_ble_eq_true rfl⟩) hS hA hP hD rfl rfl (by decide) (by decide) (by decide) (fun _ => by simp only [rr_wx, rr_wm, List.map_cons, List.map_nil]) (fun r255 u255 H locs e255 hP hD hS => ?_)
                  have hP : va_P D vwCl [(h0, .inr (2, [.ref qT, .int (nI n), .int (nI t), .int ((-2147483648)), .int 2147483647])), (qT, .inl (cA, 187, .inl f))] H := hP
                  have hD : va_D A [(h0, .inr (2, [.ref qT, .int (nI n), .int (nI t), .int ((-2147483648)), .int 2147483647])), (qT, .inl (cA, 187, .inl f))] := hD
                  subst e255
                  have eo : rr_op 8 x1 x2 x3 x4 = (rr_o8 x1 x2 x3 x4) := by unfold rr_op; rw [if_neg (by decide), if_neg (by decide), if_neg (by decide), if_neg (by decide), if_neg (by decide), if_neg (by decide), if_neg (by decide), if_pos (by decide)]
                  have ep : (rr_o8 x1 x2 x3 x4) = (-2147483648, 2147483647) := if_neg c251
                  have ee : (rr_wk f n lo hi 8 x1 x2 x3 x4) = (1, rr_tl f n (-2147483648, 2147483647).1 (-2147483648, 2147483647).2) := ((if_pos ⟨⟨c1, c7⟩, b13, b24⟩).trans (if_neg (fun z => absurd z.1 (by decide)))).trans (congrArg (fun z : Int64 × Int64 => ((1 : Int32), rr_tl f n z.1 z.2)) (eo.trans ep))
                  have ef : rr_tl f n ((-2147483648, 2147483647) : Int64 × Int64).1 ((-2147483648, 2147483647) : Int64 × Int64).2 = (-2147483648, 2147483647) := rr_tl_all f n
                  rw [ef] at ee
                  exact W.iret (v := 1) hx hb hr (fun tt ht hW => ⟨⟨_, (), rfl, by rw [ee], by dsimp only; rw [ht, ee]; exact hP⟩, hS.F ht⟩) hS.2.2 dX2_work_258
              · skip
                refine lv_iload_n hx hb dX2_work_32 rfl (lv_at hl 1 rfl) ?_
                refine lv_tableOut (tgt := 283) hx hb dX2_work_33 (by decide) (by decide) ?_
                refine lv_iload hx hb dX2_work_283 (lv_at hl 4 rfl) ?_
                refine lv_iload hx hb dX2_work_285 (lv_at hl 5 rfl) ?_
                refine lv_icmp_ne (tgt := 311) hx hb dX2_work_287 (by decide) (fun c287 => ?_) (fun c287 => ?_)
                · skip
                  refine lv_aload_n hx hb dX2_work_311 rfl (lv_at hl 0 rfl) ?_
                  refine lv_iload_n hx hb dX2_work_312 rfl (lv_at hl 2 rfl) ?_
                  refine lv_iconst (v := 0) hx hb dX2_work_313 (by decide) ?_
                  refine va_mmin hx hb (hml.trans hl.1.symm) hown (hts (.methodLink RX2 43 Lib.Math.min.name) (by decide +kernel)) (hts (.static Lib.Math.min.name) (by decide +kernel)) (hts (.initialized "java/lang/Math") (by decide +kernel)) (hts (.code Lib.Math.min.name Lib.Math.min.code 2 (some .int)) (by decide +kernel)) (Nat.le_of_ble_eq_true rfl) (Nat.le_of_ble_eq_true rfl) (Nat.le_of_ble_eq_true rfl) (Nat.le_of_ble_eq_true rfl) dX2_work_314 ?_
                  refine W.eq (g2 := F0 m 317 ls [.int (rr_ni x1 0), .ref h0]) rfl ?_
                  refine lv_i2l (v := (rr_ni x1 0).toInt64) hx hb dX2_work_317 rfl ?_
                  refine lv_iload_n hx hb dX2_work_318 rfl (lv_at hl 3 rfl) ?_
                  refine lv_iconst (v := (-1)) hx hb dX2_work_319 (by decide) ?_
                  refine va_mmax hx hb (hml.trans hl.1.symm) hown (hts (.methodLink RX2 36 Lib.Math.max.name) (by decide +kernel)) (hts (.static Lib.Math.max.name) (by decide +kernel)) (hts (.initialized "java/lang/Math") (by decide +kernel)) (hts (.code Lib.Math.max.name Lib.Math.max.code 2 (some .int)) (by decide +kernel)) (Nat.le_of_ble_eq_true rfl) (Nat.le_of_ble_eq_true rfl) (Nat.le_of_ble_eq_true rfl) (Nat.le_of_ble_eq_true rfl) dX2_work_320 ?_
                  refine W.eq (g2 := F0 m 323 ls [.int (rr_xi x2 (-1)), .long ((rr_ni x1 0).toInt64), .ref h0]) rfl ?_
                  refine lv_i2l (v := (rr_xi x2 (-1)).toInt64) hx hb dX2_work_323 rfl ?_
                  have er : (rr_o9 x1 x2 x3 x4) = ((rr_ni x1 0).toInt64, (rr_xi x2 (-1)).toInt64) := if_neg c287
                  have hz2 := rr_le9 x3 x4 (rr_rg_iff.mp b13).1
                  rw [er] at hz2
                  refine rr_wi (wr := []) [0, 1] [] (va_runV (As := [.long ((rr_ni x1 0).toInt64), .long ((rr_xi x2 (-1)).toInt64)]) (rest := []) ⟨hx, hb, hml, hown, hts⟩ (c_X2_tell l D h0 qT H.size cA f n t lo hi ((rr_ni x1 0).toInt64) ((rr_xi x2 (-1)).toInt64) hn hz2) (cwV 2 hts gX2_work_X2_tell rfl rfl rfl (by decide +kernel) ⟨Nat.le_of_ble_eq_true rfl, Nat.le_of_ble_eq_true rfl⟩) (rr_vW hK hP hD (va_recv hK hP (ci := 2) (q0 := 0) rfl rfl)) rfl rfl hl.1 rfl (lv_room (Nat.le_of_ble_eq_true rfl)) dX2_work_324 ⟨Nat.le_of_ble_eq_true rfl, Nat.le_of_ble_eq_true rfl⟩) hS hA hP hD rfl rfl (by decide) (by decide) (by decide) (fun _ => by simp only [rr_wx, rr_wm, List.map_cons, List.map_nil]) (fun r324 u324 H locs e324 hP hD hS => ?_)
                  have hP : va_P D vwCl [(h0, .inr (2, [.ref qT, .int (nI n), .int (nI t), .int ((rr_tl f n ((rr_ni x1 0).toInt64) ((rr_xi x2 (-1)).toInt64)).1), .int ((rr_tl f n ((rr_ni x1 0).toInt64) ((rr_xi x2 (-1)).toInt64)).2)])), (qT, .inl (cA, 187, .inl f))] H := hP
                  have hD : va_D A [(h0, .inr (2, [.ref qT, .int (nI n), .int (nI t), .int ((rr_tl f n ((rr_ni x1 0).toInt64) ((rr_xi x2 (-1)).toInt64)).1), .int ((rr_tl f n ((rr_ni x1 0).toInt64) ((rr_xi x2 (-1)).toInt64)).2)])), (qT, .inl (cA, 187, .inl f))] := hD
                  subst e324
                  have eo : rr_op 9 x1 x2 x3 x4 = (rr_o9 x1 x2 x3 x4) := by unfold rr_op; rw [if_neg (by decide), if_neg (by decide), if_neg (by decide), if_neg (by decide), if_neg (by decide), if_neg (by decide), if_neg (by decide), if_neg (by decide)]
                  have ep : (rr_o9 x1 x2 x3 x4) = ((rr_ni x1 0).toInt64, (rr_xi x2 (-1)).toInt64) := if_neg c287
                  have ee : (rr_wk f n lo hi 9 x1 x2 x3 x4) = (1, rr_tl f n ((rr_ni x1 0).toInt64, (rr_xi x2 (-1)).toInt64).1 ((rr_ni x1 0).toInt64, (rr_xi x2 (-1)).toInt64).2) := ((if_pos ⟨⟨c1, c7⟩, b13, b24⟩).trans (if_neg (fun z => absurd z.1 (by decide)))).trans (congrArg (fun z : Int64 × Int64 => ((1 : Int32), rr_tl f n z.1 z.2)) (eo.trans ep))
                  exact W.iret (v := 1) hx hb hr (fun tt ht hW => ⟨⟨_, (), rfl, by rw [ee], by dsimp only; rw [ht, ee]; exact hP⟩, hS.F ht⟩) hS.2.2 dX2_work_327
                · skip
                  refine lv_aload_n hx hb dX2_work_290 rfl (lv_at hl 0 rfl) ?_
                  refine lv_iload_n hx hb dX2_work_291 rfl (lv_at hl 2 rfl) ?_
                  refine lv_iload hx hb dX2_work_292 (lv_at hl 4 rfl) ?_
                  refine lv_bipush (v := 31) hx hb dX2_work_294 (by decide) ?_
                  refine lv_iand hx hb dX2_work_296 ?_
                  refine lv_ishr hx hb dX2_work_297 ?_
                  refine lv_i2l (v := (x1 >>> ((x3 &&& 31) &&& 31)).toInt64) hx hb dX2_work_298 rfl ?_
                  refine lv_iload_n hx hb dX2_work_299 rfl (lv_at hl 3 rfl) ?_
                  refine lv_iload hx hb dX2_work_300 (lv_at hl 4 rfl) ?_
                  refine lv_bipush (v := 31) hx hb dX2_work_302 (by decide) ?_
                  refine lv_iand hx hb dX2_work_304 ?_
                  refine lv_ishr hx hb dX2_work_305 ?_
                  refine lv_i2l (v := (x2 >>> ((x3 &&& 31) &&& 31)).toInt64) hx hb dX2_work_306 rfl ?_
                  have er : (rr_o9 x1 x2 x3 x4) = ((x1 >>> ((x3 &&& 31) &&& 31)).toInt64, (x2 >>> ((x3 &&& 31) &&& 31)).toInt64) := if_pos c287
                  have hz2 := rr_le9 x3 x4 (rr_rg_iff.mp b13).1
                  rw [er] at hz2
                  refine rr_wi (wr := []) [0, 1] [] (va_runV (As := [.long ((x1 >>> ((x3 &&& 31) &&& 31)).toInt64), .long ((x2 >>> ((x3 &&& 31) &&& 31)).toInt64)]) (rest := []) ⟨hx, hb, hml, hown, hts⟩ (c_X2_tell l D h0 qT H.size cA f n t lo hi ((x1 >>> ((x3 &&& 31) &&& 31)).toInt64) ((x2 >>> ((x3 &&& 31) &&& 31)).toInt64) hn hz2) (cwV 2 hts gX2_work_X2_tell rfl rfl rfl (by decide +kernel) ⟨Nat.le_of_ble_eq_true rfl, Nat.le_of_ble_eq_true rfl⟩) (rr_vW hK hP hD (va_recv hK hP (ci := 2) (q0 := 0) rfl rfl)) rfl rfl hl.1 rfl (lv_room (Nat.le_of_ble_eq_true rfl)) dX2_work_307 ⟨Nat.le_of_ble_eq_true rfl, Nat.le_of_ble_eq_true rfl⟩) hS hA hP hD rfl rfl (by decide) (by decide) (by decide) (fun _ => by simp only [rr_wx, rr_wm, List.map_cons, List.map_nil]) (fun r307 u307 H locs e307 hP hD hS => ?_)
                  have hP : va_P D vwCl [(h0, .inr (2, [.ref qT, .int (nI n), .int (nI t), .int ((rr_tl f n ((x1 >>> ((x3 &&& 31) &&& 31)).toInt64) ((x2 >>> ((x3 &&& 31) &&& 31)).toInt64)).1), .int ((rr_tl f n ((x1 >>> ((x3 &&& 31) &&& 31)).toInt64) ((x2 >>> ((x3 &&& 31) &&& 31)).toInt64)).2)])), (qT, .inl (cA, 187, .inl f))] H := hP
                  have hD : va_D A [(h0, .inr (2, [.ref qT, .int (nI n), .int (nI t), .int ((rr_tl f n ((x1 >>> ((x3 &&& 31) &&& 31)).toInt64) ((x2 >>> ((x3 &&& 31) &&& 31)).toInt64)).1), .int ((rr_tl f n ((x1 >>> ((x3 &&& 31) &&& 31)).toInt64) ((x2 >>> ((x3 &&& 31) &&& 31)).toInt64)).2)])), (qT, .inl (cA, 187, .inl f))] := hD
                  subst e307
                  have eo : rr_op 9 x1 x2 x3 x4 = (rr_o9 x1 x2 x3 x4) := by unfold rr_op; rw [if_neg (by decide), if_neg (by decide), if_neg (by decide), if_neg (by decide), if_neg (by decide), if_neg (by decide), if_neg (by decide), if_neg (by decide)]
                  have ep : (rr_o9 x1 x2 x3 x4) = ((x1 >>> ((x3 &&& 31) &&& 31)).toInt64, (x2 >>> ((x3 &&& 31) &&& 31)).toInt64) := if_pos c287
                  have ee : (rr_wk f n lo hi 9 x1 x2 x3 x4) = (1, rr_tl f n ((x1 >>> ((x3 &&& 31) &&& 31)).toInt64, (x2 >>> ((x3 &&& 31) &&& 31)).toInt64).1 ((x1 >>> ((x3 &&& 31) &&& 31)).toInt64, (x2 >>> ((x3 &&& 31) &&& 31)).toInt64).2) := ((if_pos ⟨⟨c1, c7⟩, b13, b24⟩).trans (if_neg (fun z => absurd z.1 (by decide)))).trans (congrArg (fun z : Int64 × Int64 => ((1 : Int32), rr_tl f n z.1 z.2)) (eo.trans ep))
                  exact W.iret (v := 1) hx hb hr (fun tt ht hW => ⟨⟨_, (), rfl, by rw [ee], by dsimp only; rw [ht, ee]; exact hP⟩, hS.F ht⟩) hS.2.2 dX2_work_310
            · skip
              exact absurd c27 (by decide)
          · rw [if_neg b24] at e24
            subst e24
            refine lv_if_ne (tgt := 32) hx hb dX2_work_27 (by decide) (fun c27 => ?_) (fun c27 => ?_)
            · skip
              exact absurd c27 (by decide)
            · skip
              refine lv_iconst (v := (-1)) hx hb dX2_work_30 (by decide) ?_
              have ee : (rr_wk f n lo hi op x1 x2 x3 x4) = (-1, lo, hi) := if_neg (fun z => by first | exact z.1.1 c1 | exact z.1.2 c7 | exact b13 z.2.1 | exact b24 z.2.2)
              exact W.iret (v := (-1)) hx hb hr (fun tt ht hW => ⟨⟨_, (), rfl, by rw [ee], by dsimp only; rw [ht, ee]; exact hP⟩, hS.F ht⟩) hS.2.2 dX2_work_31
      · rw [if_neg b13] at e13
        subst e13
        refine lv_if_eq (tgt := 30) hx hb dX2_work_16 (by decide) (fun c16 => ?_) (fun c16 => ?_)
        · skip
          refine lv_iconst (v := (-1)) hx hb dX2_work_30 (by decide) ?_
          have ee : (rr_wk f n lo hi op x1 x2 x3 x4) = (-1, lo, hi) := if_neg (fun z => by first | exact z.1.1 c1 | exact z.1.2 c7 | exact b13 z.2.1 | exact b24 z.2.2)
          exact W.iret (v := (-1)) hx hb hr (fun tt ht hW => ⟨⟨_, (), rfl, by rw [ee], by dsimp only; rw [ht, ee]; exact hP⟩, hS.F ht⟩) hS.2.2 dX2_work_31
        · skip
          exact absurd c16 (by decide)
