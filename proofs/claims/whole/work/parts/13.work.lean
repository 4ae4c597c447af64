set_option maxHeartbeats 1000000 in
set_option maxRecDepth 100000 in
/-- work(op, x1, x2, x3, x4) -/
theorem c_X1_work (l : Launch) (D : va_G) (h0 qT qS sz : Nat) (cA : ClassId) (f : Nat → Int32) (n t : Nat) (lo hi : Int32) (a b : Int64) (op x1 x2 x3 x4 : Int32) (hn : n ≤ 187) (hk : rr_ok f n) : Met l yX1_work wsX1_work ({ frames := 4, cells := 0, slots := 0, locals := 108 }) (rr_pN D (rr_wx h0 qT qS cA f n t lo hi a b) [(cA, .int)] [.ref h0, .int op, .int x1, .int x2, .int x3, .int x4] sz) (va_Qi (fun r (u : Int64 × Int64) => r = (rr_wk f n lo hi op x1 x2 x3 x4).1) (fun u tt => va_P D vwCl (rr_wx h0 qT qS cA f n t (rr_wk f n lo hi op x1 x2 x3 x4).2.1 (rr_wk f n lo hi op x1 x2 x3 x4).2.2 u.1 u.2) tt.heap) (va_A (rr_wx h0 qT qS cA f n t lo hi a b) sz)) 0 0 (va_A (rr_wx h0 qT qS cA f n t lo hi a b) sz) := by
  refine Met.ofW (cc := cX1_work) (maxL := 6) (ret := (some .int)) (by decide) rfl ?_
  intro p e s m args below meth c s₁ B hml hv
  obtain ⟨rfl, hsz, hP, hK, hD0, hN⟩ := hv
  have hx := B.exec
  have hb := B.bytes
  have hr := B.returns
  have hts := atoms_spec (ws := wsX1_work) B.pre
  have hown : s.vm.findClass RX1 = some m.cls := findClass_of_methodNamed B.named
  have hlocks := B.notSynchronized
  subst hsz
  have hD := hD0.self (sz := s.heap.size)
  generalize hAe : va_A [(h0, .inr (1, [.ref qT, .int (nI n), .int (nI t), .int lo, .int hi, .ref qS])), (qT, .inl (cA, 187, .inl f)), (qS, .inr (0, [.long a, .long b]))] s.heap.size = A at hD ⊢
  have hA : ∀ q : Nat, s.heap.size ≤ q → A q := fun q h => by rw [← hAe]; exact Or.inr h
  have hS : va_S A s.heap s.heap [] := va_S.rf
  have hP : va_P D vwCl [(h0, .inr (1, [.ref qT, .int (nI n), .int (nI t), .int lo, .int hi, .ref qS])), (qT, .inl (cA, 187, .inl f)), (qS, .inr (0, [.long a, .long b]))] s.heap := hP
  have hiX1 : ∀ w ∈ wsX10, w ∈ wsX1_work := by decide +kernel
  have hl := lv_entry ([.ref h0, .int op, .int x1, .int x2, .int x3, .int x4]) (n := 6) (Nat.le_of_ble_eq_true rfl)
  rw [lg_entry_eq]
  generalize (lg_sl ([.ref h0, .int op, .int x1, .int x2, .int x3, .int x4]) ++ List.replicate (6 - (lg_sl ([.ref h0, .int op, .int x1, .int x2, .int x3, .int x4])).length) Slot.unset).toArray = ls at hl ⊢
  have hl : lv_has ls 6 [(0, .ref h0), (1, .int op), (2, .int x1), (3, .int x2), (4, .int x3), (5, .int x4)] := hl
  refine lv_iload_n hx hb dX1_work_0 rfl (lv_at hl 1 rfl) ?_
  refine lv_if_lt (tgt := 30) hx hb dX1_work_1 (by decide) (fun c1 => ?_) (fun c1 => ?_)
  · skip
    refine lv_iconst (v := (-1)) hx hb dX1_work_30 (by decide) ?_
    have ee : (rr_wk f n lo hi op x1 x2 x3 x4) = (-1, lo, hi) := if_neg (fun z => by first | exact z.1.1 c1 | exact z.1.2 c7 | exact b13 z.2.1 | exact b24 z.2.2)
    exact W.iret (v := (-1)) hx hb hr (fun tt ht hW => ⟨⟨_, (a, b), rfl, by rw [ee], by dsimp only; rw [ht, ee]; exact hP⟩, hS.F ht⟩) hS.2.2 dX1_work_31
  · skip
    refine lv_iload_n hx hb dX1_work_4 rfl (lv_at hl 1 rfl) ?_
    refine lv_bipush (v := 9) hx hb dX1_work_5 (by decide) ?_
    refine lv_icmp_gt (tgt := 30) hx hb dX1_work_7 (by decide) (fun c7 => ?_) (fun c7 => ?_)
    · skip
      refine lv_iconst (v := (-1)) hx hb dX1_work_30 (by decide) ?_
      have ee : (rr_wk f n lo hi op x1 x2 x3 x4) = (-1, lo, hi) := if_neg (fun z => by first | exact z.1.1 c1 | exact z.1.2 c7 | exact b13 z.2.1 | exact b24 z.2.2)
      exact W.iret (v := (-1)) hx hb hr (fun tt ht hW => ⟨⟨_, (a, b), rfl, by rw [ee], by dsimp only; rw [ht, ee]; exact hP⟩, hS.F ht⟩) hS.2.2 dX1_work_31
    · skip
      refine lv_aload_n hx hb dX1_work_10 rfl (lv_at hl 0 rfl) ?_
      refine lv_iload_n hx hb dX1_work_11 rfl (lv_at hl 2 rfl) ?_
      refine lv_iload_n hx hb dX1_work_12 rfl (lv_at hl 3 rfl) ?_
      refine rr_ri (va_runV (As := [.int x1, .int x2]) (rest := []) ⟨hx, hb, hml, hown, hts⟩ (c_X1_isRange l D h0 qT qS s.heap.size cA f n t lo hi a b x1 x2 hn hk) (cwV 2 hts gX1_work_X1_isRange rfl rfl rfl (by decide +kernel) ⟨Nat.le_of_ble_eq_true rfl, Nat.le_of_ble_eq_true rfl⟩) (rr_vR hK hP (va_recv hK hP (ci := 1) (q0 := 0) rfl rfl)) rfl rfl hl.1 rfl (lv_room (Nat.le_of_ble_eq_true rfl)) dX1_work_13 ⟨Nat.le_of_ble_eq_true rfl, Nat.le_of_ble_eq_true rfl⟩) hS hA hP (fun r13 H locs e13 hP hS => ?_)
      by_cases b13 : rr_rg f n x1 x2 = true
      · rw [if_pos b13] at e13
        subst e13
        refine lv_if_eq (tgt := 30) hx hb dX1_work_16 (by decide) (fun c16 => ?_) (fun c16 => ?_)
        · skip
          exact absurd c16 (by decide)
        · skip
          refine lv_aload_n hx hb dX1_work_19 rfl (lv_at hl 0 rfl) ?_
          refine lv_iload hx hb dX1_work_20 (lv_at hl 4 rfl) ?_
          refine lv_iload hx hb dX1_work_22 (lv_at hl 5 rfl) ?_
          refine rr_ri (va_runV (As := [.int x3, .int x4]) (rest := []) ⟨hx, hb, hml, hown, hts⟩ (c_X1_isRange l D h0 qT qS H.size cA f n t lo hi a b x3 x4 hn hk) (cwV 2 hts gX1_work_X1_isRange rfl rfl rfl (by decide +kernel) ⟨Nat.le_of_ble_eq_true rfl, Nat.le_of_ble_eq_true rfl⟩) (rr_vR hK hP (va_recv hK hP (ci := 1) (q0 := 0) rfl rfl)) rfl rfl hl.1 rfl (lv_room (Nat.le_of_ble_eq_true rfl)) dX1_work_24 ⟨Nat.le_of_ble_eq_true rfl, Nat.le_of_ble_eq_true rfl⟩) hS hA hP (fun r24 H locs e24 hP hS => ?_)
          by_cases b24 : rr_rg f n x3 x4 = true
          · rw [if_pos b24] at e24
            subst e24
            refine lv_if_ne (tgt := 32) hx hb dX1_work_27 (by decide) (fun c27 => ?_) (fun c27 => ?_)
            · skip
              rcases rr_ten c1 c7 with rfl | rfl | rfl | rfl | rfl | rfl | rfl | rfl | rfl | rfl
              · skip
                refine lv_iload_n hx hb dX1_work_32 rfl (lv_at hl 1 rfl) ?_
                refine lv_iconst (v := 3) hx hb dX1_work_33 (by decide) ?_
                refine lv_icmp_eq (tgt := 42) hx hb dX1_work_34 (by decide) (fun c34 => ?_) (fun c34 => ?_)
                · skip
                  exact absurd c34 (by decide)
                · skip
                  refine lv_iload_n hx hb dX1_work_37 rfl (lv_at hl 1 rfl) ?_
                  refine lv_iconst (v := 4) hx hb dX1_work_38 (by decide) ?_
                  refine lv_icmp_ne (tgt := 54) hx hb dX1_work_39 (by decide) (fun c39 => ?_) (fun c39 => ?_)
                  · skip
                    refine lv_iload_n hx hb dX1_work_54 rfl (lv_at hl 1 rfl) ?_
                    refine lv_tableIn (off := 49) (tgt := 104) hx hb dX1_work_55 (by decide) (by decide) (by decide +kernel) (by decide) ?_
                    refine lv_aload_n hx hb dX1_work_104 rfl (lv_at hl 0 rfl) ?_
                    refine lv_iload_n hx hb dX1_work_105 rfl (lv_at hl 2 rfl) ?_
                    refine lv_i2l (v := x1.toInt64) hx hb dX1_work_106 rfl ?_
                    refine lv_iload hx hb dX1_work_107 (lv_at hl 4 rfl) ?_
                    refine lv_i2l (v := x3.toInt64) hx hb dX1_work_109 rfl ?_
                    refine lv_ladd hx hb dX1_work_110 ?_
                    refine lv_iload_n hx hb dX1_work_111 rfl (lv_at hl 3 rfl) ?_
                    refine lv_i2l (v := x2.toInt64) hx hb dX1_work_112 rfl ?_
                    refine lv_iload hx hb dX1_work_113 (lv_at hl 5 rfl) ?_
                    refine lv_i2l (v := x4.toInt64) hx hb dX1_work_115 rfl ?_
                    refine lv_ladd hx hb dX1_work_116 ?_
                    refine rr_wv (wr := []) [0, 1, 2] [] (va_runV (As := [.long (x1.toInt64 + x3.toInt64), .long (x2.toInt64 + x4.toInt64)]) (rest := []) ⟨hx, hb, hml, hown, hts⟩ (c_X1_tell l D h0 qT qS H.size cA f n t lo hi a b (x1.toInt64 + x3.toInt64) (x2.toInt64 + x4.toInt64) hn) (cwV 2 hts gX1_work_X1_tell rfl rfl rfl (by decide +kernel) ⟨Nat.le_of_ble_eq_true rfl, Nat.le_of_ble_eq_true rfl⟩) (rr_vW hK hP hD (va_recv hK hP (ci := 1) (q0 := 0) rfl rfl)) rfl rfl hl.1 rfl (lv_room (Nat.le_of_ble_eq_true rfl)) dX1_work_117 ⟨Nat.le_of_ble_eq_true rfl, Nat.le_of_ble_eq_true rfl⟩) hS hA hP hD rfl rfl (by decide) (by decide) (by decide) (fun _ => by simp only [rr_wx, rr_wm, List.map_cons, List.map_nil]) (fun u117 H locs e117 hP hD hS => ?_)
                    have hP : va_P D vwCl [(h0, .inr (1, [.ref qT, .int (nI n), .int (nI t), .int ((rr_tl f n (x1.toInt64 + x3.toInt64) (x2.toInt64 + x4.toInt64)).1), .int ((rr_tl f n (x1.toInt64 + x3.toInt64) (x2.toInt64 + x4.toInt64)).2), .ref qS])), (qT, .inl (cA, 187, .inl f)), (qS, .inr (0, [.long a, .long b]))] H := hP
                    have hD : va_D A [(h0, .inr (1, [.ref qT, .int (nI n), .int (nI t), .int ((rr_tl f n (x1.toInt64 + x3.toInt64) (x2.toInt64 + x4.toInt64)).1), .int ((rr_tl f n (x1.toInt64 + x3.toInt64) (x2.toInt64 + x4.toInt64)).2), .ref qS])), (qT, .inl (cA, 187, .inl f)), (qS, .inr (0, [.long a, .long b]))] := hD
                    refine lv_goto (tgt := 242) hx hb dX1_work_120 (by decide) ?_
                    refine lv_iconst (v := 1) hx hb dX1_work_242 (by decide) ?_
                    have eo : rr_op 0 x1 x2 x3 x4 = (x1.toInt64 + x3.toInt64, x2.toInt64 + x4.toInt64) := by unfold rr_op; rw [if_pos (by decide)]
                    have ee : (rr_wk f n lo hi 0 x1 x2 x3 x4) = (1, rr_tl f n (x1.toInt64 + x3.toInt64, x2.toInt64 + x4.toInt64).1 (x1.toInt64 + x3.toInt64, x2.toInt64 + x4.toInt64).2) := ((if_pos ⟨⟨c1, c7⟩, b13, b24⟩).trans (if_neg (fun z => absurd z.1 (by decide)))).trans (congrArg (fun z : Int64 × Int64 => ((1 : Int32), rr_tl f n z.1 z.2)) eo)
                    exact W.iret (v := 1) hx hb hr (fun tt ht hW => ⟨⟨_, (a, b), rfl, by rw [ee], by dsimp only; rw [ht, ee]; exact hP⟩, hS.F ht⟩) hS.2.2 dX1_work_243
                  · skip
                    exact absurd c39 (by decide)
              · skip
                refine lv_iload_n hx hb dX1_work_32 rfl (lv_at hl 1 rfl) ?_
                refine lv_iconst (v := 3) hx hb dX1_work_33 (by decide) ?_
                refine lv_icmp_eq (tgt := 42) hx hb dX1_work_34 (by decide) (fun c34 => ?_) (fun c34 => ?_)
                · skip
                  exact absurd c34 (by decide)
                · skip
                  refine lv_iload_n hx hb dX1_work_37 rfl (lv_at hl 1 rfl) ?_
                  refine lv_iconst (v := 4) hx hb dX1_work_38 (by decide) ?_
                  refine lv_icmp_ne (tgt := 54) hx hb dX1_work_39 (by decide) (fun c39 => ?_) (fun c39 => ?_)
                  · skip
                    refine lv_iload_n hx hb dX1_work_54 rfl (lv_at hl 1 rfl) ?_
                    refine lv_tableIn (off := 68) (tgt := 123) hx hb dX1_work_55 (by decide) (by decide) (by decide +kernel) (by decide) ?_
                    refine lv_aload_n hx hb dX1_work_123 rfl (lv_at hl 0 rfl) ?_
                    refine lv_iload_n hx hb dX1_work_124 rfl (lv_at hl 2 rfl) ?_
                    refine lv_i2l (v := x1.toInt64) hx hb dX1_work_125 rfl ?_
                    refine lv_iload hx hb dX1_work_126 (lv_at hl 5 rfl) ?_
                    refine lv_i2l (v := x4.toInt64) hx hb dX1_work_128 rfl ?_
                    refine lv_lsub hx hb dX1_work_129 ?_
                    refine lv_iload_n hx hb dX1_work_130 rfl (lv_at hl 3 rfl) ?_
                    refine lv_i2l (v := x2.toInt64) hx hb dX1_work_131 rfl ?_
                    refine lv_iload hx hb dX1_work_132 (lv_at hl 4 rfl) ?_
                    refine lv_i2l (v := x3.toInt64) hx hb dX1_work_134 rfl ?_
                    refine lv_lsub hx hb dX1_work_135 ?_
                    refine rr_wv (wr := []) [0, 1, 2] [] (va_runV (As := [.long (x1.toInt64 - x4.toInt64), .long (x2.toInt64 - x3.toInt64)]) (rest := []) ⟨hx, hb, hml, hown, hts⟩ (c_X1_tell l D h0 qT qS H.size cA f n t lo hi a b (x1.toInt64 - x4.toInt64) (x2.toInt64 - x3.toInt64) hn) (cwV 2 hts gX1_work_X1_tell rfl rfl rfl (by decide +kernel) ⟨Nat.le_of_ble_eq_true rfl, Nat.le_of_ble_eq_true rfl⟩) (rr_vW hK hP hD (va_recv hK hP (ci := 1) (q0 := 0) rfl rfl)) rfl rfl hl.1 rfl (lv_room (Nat.le_of_ble_eq_true rfl)) dX1_work_136 ⟨Nat.le_of_ble_eq_true rfl, Nat.le_of_ble_eq_true rfl⟩) hS hA hP hD rfl rfl (by decide) (by decide) (by decide) (fun _ => by simp only [rr_wx, rr_wm, List.map_cons, List.map_nil]) (fun u136 H locs e136 hP hD hS => ?_)
                    have hP : va_P D vwCl [(h0, .inr (1, [.ref qT, .int (nI n), .int (nI t), .int ((rr_tl f n (x1.toInt64 - x4.toInt64) (x2.toInt64 - x3.toInt64)).1), .int ((rr_tl f n (x1.toInt64 - x4.toInt64) (x2.toInt64 - x3.toInt64)).2), .ref qS])), (qT, .inl (cA, 187, .inl f)), (qS, .inr (0, [.long a, .long b]))] H := hP
                    have hD : va_D A [(h0, .inr (1, [.ref qT, .int (nI n), .int (nI t), .int ((rr_tl f n (x1.toInt64 - x4.toInt64) (x2.toInt64 - x3.toInt64)).1), .int ((rr_tl f n (x1.toInt64 - x4.toInt64) (x2.toInt64 - x3.toInt64)).2), .ref qS])), (qT, .inl (cA, 187, .inl f)), (qS, .inr (0, [.long a, .long b]))] := hD
                    refine lv_goto (tgt := 242) hx hb dX1_work_139 (by decide) ?_
                    refine lv_iconst (v := 1) hx hb dX1_work_242 (by decide) ?_
                    have eo : rr_op 1 x1 x2 x3 x4 = (x1.toInt64 - x4.toInt64, x2.toInt64 - x3.toInt64) := by unfold rr_op; rw [if_neg (by decide), if_pos (by decide)]
                    have ee : (rr_wk f n lo hi 1 x1 x2 x3 x4) = (1, rr_tl f n (x1.toInt64 - x4.toInt64, x2.toInt64 - x3.toInt64).1 (x1.toInt64 - x4.toInt64, x2.toInt64 - x3.toInt64).2) := ((if_pos ⟨⟨c1, c7⟩, b13, b24⟩).trans (if_neg (fun z => absurd z.1 (by decide)))).trans (congrArg (fun z : Int64 × Int64 => ((1 : Int32), rr_tl f n z.1 z.2)) eo)
                    exact W.iret (v := 1) hx hb hr (fun tt ht hW => ⟨⟨_, (a, b), rfl, by rw [ee], by dsimp only; rw [ht, ee]; exact hP⟩, hS.F ht⟩) hS.2.2 dX1_work_243
                  · skip
                    exact absurd c39 (by decide)
              · skip
                refine lv_iload_n hx hb dX1_work_32 rfl (lv_at hl 1 rfl) ?_
                refine lv_iconst (v := 3) hx hb dX1_work_33 (by decide) ?_
                refine lv_icmp_eq (tgt := 42) hx hb dX1_work_34 (by decide) (fun c34 => ?_) (fun c34 => ?_)
                · skip
                  exact absurd c34 (by decide)
                · skip
                  refine lv_iload_n hx hb dX1_work_37 rfl (lv_at hl 1 rfl) ?_
                  refine lv_iconst (v := 4) hx hb dX1_work_38 (by decide) ?_
                  refine lv_icmp_ne (tgt := 54) hx hb dX1_work_39 (by decide) (fun c39 => ?_) (fun c39 => ?_)
                  · skip
                    refine lv_iload_n hx hb dX1_work_54 rfl (lv_at hl 1 rfl) ?_
                    refine lv_tableIn (off := 87) (tgt := 142) hx hb dX1_work_55 (by decide) (by decide) (by decide +kernel) (by decide) ?_
                    refine lv_aload_n hx hb dX1_work_142 rfl (lv_at hl 0 rfl) ?_
                    refine lv_iload_n hx hb dX1_work_143 rfl (lv_at hl 2 rfl) ?_
                    refine lv_i2l (v := x1.toInt64) hx hb dX1_work_144 rfl ?_
                    refine lv_iload_n hx hb dX1_work_145 rfl (lv_at hl 3 rfl) ?_
                    refine lv_i2l (v := x2.toInt64) hx hb dX1_work_146 rfl ?_
                    refine lv_iload hx hb dX1_work_147 (lv_at hl 4 rfl) ?_
                    refine lv_i2l (v := x3.toInt64) hx hb dX1_work_149 rfl ?_
                    refine lv_iload hx hb dX1_work_150 (lv_at hl 5 rfl) ?_
                    refine lv_i2l (v := x4.toInt64) hx hb dX1_work_152 rfl ?_
                    refine rr_wv (wr := []) [0, 1, 2] [] (va_runV (As := [.long x1.toInt64, .long x2.toInt64, .long x3.toInt64, .long x4.toInt64]) (rest := []) ⟨hx, hb, hml, hown, hts⟩ (c_X1_multiply l D h0 qT qS H.size cA f n t lo hi a b x1.toInt64 x2.toInt64 x3.toInt64 x4.toInt64 hn) (cwV 4 hts gX1_work_X1_multiply rfl rfl rfl (by decide +kernel) ⟨Nat.le_of_ble_eq_true rfl, Nat.le_of_ble_eq_true rfl⟩) (rr_vN hN hK hP hD (va_recv hK hP (ci := 1) (q0 := 0) rfl rfl)) rfl rfl hl.1 rfl (lv_room (Nat.le_of_ble_eq_true rfl)) dX1_work_153 ⟨Nat.le_of_ble_eq_true rfl, Nat.le_of_ble_eq_true rfl⟩) hS hA hP hD rfl rfl (by decide) (by decide) (by decide) (fun _ => by simp only [rr_wx, rr_wm, List.map_cons, List.map_nil]) (fun u153 H locs e153 hP hD hS => ?_)
                    have hP : va_P D vwCl [(h0, .inr (1, [.ref qT, .int (nI n), .int (nI t), .int ((rr_tl f n (rr_o2 x1.toInt64 x2.toInt64 x3.toInt64 x4.toInt64).1 (rr_o2 x1.toInt64 x2.toInt64 x3.toInt64 x4.toInt64).2).1), .int ((rr_tl f n (rr_o2 x1.toInt64 x2.toInt64 x3.toInt64 x4.toInt64).1 (rr_o2 x1.toInt64 x2.toInt64 x3.toInt64 x4.toInt64).2).2), .ref qS])), (qT, .inl (cA, 187, .inl f)), (qS, .inr (0, [.long u153.1, .long u153.2]))] H := hP
                    have hD : va_D A [(h0, .inr (1, [.ref qT, .int (nI n), .int (nI t), .int ((rr_tl f n (rr_o2 x1.toInt64 x2.toInt64 x3.toInt64 x4.toInt64).1 (rr_o2 x1.toInt64 x2.toInt64 x3.toInt64 x4.toInt64).2).1), .int ((rr_tl f n (rr_o2 x1.toInt64 x2.toInt64 x3.toInt64 x4.toInt64).1 (rr_o2 x1.toInt64 x2.toInt64 x3.toInt64 x4.toInt64).2).2), .ref qS])), (qT, .inl (cA, 187, .inl f)), (qS, .inr (0, [.long u153.1, .long u153.2]))] := hD
                    refine lv_goto (tgt := 242) hx hb dX1_work_156 (by decide) ?_
                    refine lv_iconst (v := 1) hx hb dX1_work_242 (by decide) ?_
                    have eo : rr_op 2 x1 x2 x3 x4 = (rr_o2 x1.toInt64 x2.toInt64 x3.toInt64 x4.toInt64) := by unfold rr_op; rw [if_neg (by decide), if_neg (by decide), if_pos (by decide)]
                    have ee : (rr_wk f n lo hi 2 x1 x2 x3 x4) = (1, rr_tl f n (rr_o2 x1.toInt64 x2.toInt64 x3.toInt64 x4.toInt64).1 (rr_o2 x1.toInt64 x2.toInt64 x3.toInt64 x4.toInt64).2) := ((if_pos ⟨⟨c1, c7⟩, b13, b24⟩).trans (if_neg (fun z => absurd z.1 (by decide)))).trans (congrArg (fun z : Int64 × Int64 => ((1 : Int32), rr_tl f n z.1 z.2)) eo)
                    exact W.iret (v := 1) hx hb hr (fun tt ht hW => ⟨⟨_, (u153.1, u153.2), rfl, by rw [ee], by dsimp only; rw [ht, ee]; exact hP⟩, hS.F ht⟩) hS.2.2 dX1_work_243
                  · skip
                    exact absurd c39 (by decide)
              · skip
                refine lv_iload_n hx hb dX1_work_32 rfl (lv_at hl 1 rfl) ?_
                refine lv_iconst (v := 3) hx hb dX1_work_33 (by decide) ?_
                refine lv_icmp_eq (tgt := 42) hx hb dX1_work_34 (by decide) (fun c34 => ?_) (fun c34 => ?_)
                · skip
                  refine lv_iload hx hb dX1_work_42 (lv_at hl 4 rfl) ?_
                  refine lv_if_ne (tgt := 54) hx hb dX1_work_44 (by decide) (fun c44 => ?_) (fun c44 => ?_)
                  · skip
                    refine lv_iload_n hx hb dX1_work_54 rfl (lv_at hl 1 rfl) ?_
                    refine lv_tableIn (off := 104) (tgt := 159) hx hb dX1_work_55 (by decide) (by decide) (by decide +kernel) (by decide) ?_
                    refine lv_aload_n hx hb dX1_work_159 rfl (lv_at hl 0 rfl) ?_
                    refine lv_iload_n hx hb dX1_work_160 rfl (lv_at hl 2 rfl) ?_
                    refine lv_i2l (v := x1.toInt64) hx hb dX1_work_161 rfl ?_
                    refine lv_iload_n hx hb dX1_work_162 rfl (lv_at hl 3 rfl) ?_
                    refine lv_i2l (v := x2.toInt64) hx hb dX1_work_163 rfl ?_
                    refine lv_iload hx hb dX1_work_164 (lv_at hl 4 rfl) ?_
                    refine lv_i2l (v := x3.toInt64) hx hb dX1_work_166 rfl ?_
                    refine lv_iload hx hb dX1_work_167 (lv_at hl 5 rfl) ?_
                    refine lv_i2l (v := x4.toInt64) hx hb dX1_work_169 rfl ?_
                    refine rr_wv (wr := []) [0, 1, 2] [] (va_runV (As := [.long x1.toInt64, .long x2.toInt64, .long x3.toInt64, .long x4.toInt64]) (rest := []) ⟨hx, hb, hml, hown, hts⟩ (c_X1_divide l D h0 qT qS H.size cA f n t lo hi a b x1.toInt64 x2.toInt64 x3.toInt64 x4.toInt64 hn (rr_64 (rr_rg_iff.mp b24).1)) (cwV 4 hts gX1_work_X1_divide rfl rfl rfl (by decide +kernel) ⟨Nat.le_of_ble_eq_true rfl, Nat.le_of_ble_eq_true rfl⟩) (rr_vN hN hK hP hD (va_recv hK hP (ci := 1) (q0 := 0) rfl rfl)) rfl rfl hl.1 rfl (lv_room (Nat.le_of_ble_eq_true rfl)) dX1_work_170 ⟨Nat.le_of_ble_eq_true rfl, Nat.le_of_ble_eq_true rfl⟩) hS hA hP hD rfl rfl (by decide) (by decide) (by decide) (fun _ => by simp only [rr_wx, rr_wm, List.map_cons, List.map_nil]) (fun u170 H locs e170 hP hD hS => ?_)
                    have hP : va_P D vwCl [(h0, .inr (1, [.ref qT, .int (nI n), .int (nI t), .int ((rr_tl f n (rr_qs x1.toInt64 x2.toInt64 x3.toInt64 x4.toInt64).1 (rr_qs x1.toInt64 x2.toInt64 x3.toInt64 x4.toInt64).2).1), .int ((rr_tl f n (rr_qs x1.toInt64 x2.toInt64 x3.toInt64 x4.toInt64).1 (rr_qs x1.toInt64 x2.toInt64 x3.toInt64 x4.toInt64).2).2), .ref qS])), (qT, .inl (cA, 187, .inl f)), (qS, .inr (0, [.long u170.1, .long u170.2]))] H := hP
                    have hD : va_D A [(h0, .inr (1, [.ref qT, .int (nI n), .int (nI t), .int ((rr_tl f n (rr_qs x1.toInt64 x2.toInt64 x3.toInt64 x4.toInt64).1 (rr_qs x1.toInt64 x2.toInt64 x3.toInt64 x4.toInt64).2).1), .int ((rr_tl f n (rr_qs x1.toInt64 x2.toInt64 x3.toInt64 x4.toInt64).1 (rr_qs x1.toInt64 x2.toInt64 x3.toInt64 x4.toInt64).2).2), .ref qS])), (qT, .inl (cA, 187, .inl f)), (qS, .inr (0, [.long u170.1, .long u170.2]))] := hD
                    refine lv_goto (tgt := 242) hx hb dX1_work_173 (by decide) ?_
                    refine lv_iconst (v := 1) hx hb dX1_work_242 (by decide) ?_
                    have eo : rr_op 3 x1 x2 x3 x4 = (rr_qs x1.toInt64 x2.toInt64 x3.toInt64 x4.toInt64) := by unfold rr_op; rw [if_neg (by decide), if_neg (by decide), if_neg (by decide), if_pos (by decide)]
                    have ee : (rr_wk f n lo hi 3 x1 x2 x3 x4) = (1, rr_tl f n (rr_qs x1.toInt64 x2.toInt64 x3.toInt64 x4.toInt64).1 (rr_qs x1.toInt64 x2.toInt64 x3.toInt64 x4.toInt64).2) := ((if_pos ⟨⟨c1, c7⟩, b13, b24⟩).trans (if_neg (fun z => c44 z.2.1))).trans (congrArg (fun z : Int64 × Int64 => ((1 : Int32), rr_tl f n z.1 z.2)) eo)
                    exact W.iret (v := 1) hx hb hr (fun tt ht hW => ⟨⟨_, (u170.1, u170.2), rfl, by rw [ee], by dsimp only; rw [ht, ee]; exact hP⟩, hS.F ht⟩) hS.2.2 dX1_work_243
                  · skip
                    refine lv_iload hx hb dX1_work_47 (lv_at hl 5 rfl) ?_
                    refine lv_if_ne (tgt := 54) hx hb dX1_work_49 (by decide) (fun c49 => ?_) (fun c49 => ?_)
                    · skip
                      refine lv_iload_n hx hb dX1_work_54 rfl (lv_at hl 1 rfl) ?_
                      refine lv_tableIn (off := 104) (tgt := 159) hx hb dX1_work_55 (by decide) (by decide) (by decide +kernel) (by decide) ?_
                      refine lv_aload_n hx hb dX1_work_159 rfl (lv_at hl 0 rfl) ?_
                      refine lv_iload_n hx hb dX1_work_160 rfl (lv_at hl 2 rfl) ?_
                      refine lv_i2l (v := x1.toInt64) hx hb dX1_work_161 rfl ?_
                      refine lv_iload_n hx hb dX1_work_162 rfl (lv_at hl 3 rfl) ?_
                      refine lv_i2l (v := x2.toInt64) hx hb dX1_work_163 rfl ?_
                      refine lv_iload hx hb dX1_work_164 (lv_at hl 4 rfl) ?_
                      refine lv_i2l (v := x3.toInt64) hx hb dX1_work_166 rfl ?_
                      refine lv_iload hx hb dX1_work_167 (lv_at hl 5 rfl) ?_
                      refine lv_i2l (v := x4.toInt64) hx hb dX1_work_169 rfl ?_
                      refine rr_wv (wr := []) [0, 1, 2] [] (va_runV (As := [.long x1.toInt64, .long x2.toInt64, .long x3.toInt64, .long x4.toInt64]) (rest := []) ⟨hx, hb, hml, hown, hts⟩ (c_X1_divide l D h0 qT qS H.size cA f n t lo hi a b x1.toInt64 x2.toInt64 x3.toInt64 x4.toInt64 hn (rr_64 (rr_rg_iff.mp b24).1)) (cwV 4 hts gX1_work_X1_divide rfl rfl rfl (by decide +kernel) ⟨Nat.le_of_ble_eq_true rfl, Nat.le_of_ble_eq_true rfl⟩) (rr_vN hN hK hP hD (va_recv hK hP (ci := 1) (q0 := 0) rfl rfl)) rfl rfl hl.1 rfl (lv_room (Nat.le_of_ble_eq_true rfl)) dX1_work_170 ⟨Nat.le_of_ble_eq_true rfl, Nat.le_of_ble_eq_true rfl⟩) hS hA hP hD rfl rfl (by decide) (by decide) (by decide) (fun _ => by simp only [rr_wx, rr_wm, List.map_cons, List.map_nil]) (fun u170 H locs e170 hP hD hS => ?_)
                      have hP : va_P D vwCl [(h0, .inr (1, [.ref qT, .int (nI n), .int (nI t), .int ((rr_tl f n (rr_qs x1.toInt64 x2.toInt64 x3.toInt64 x4.toInt64).1 (rr_qs x1.toInt64 x2.toInt64 x3.toInt64 x4.toInt64).2).1), .int ((rr_tl f n (rr_qs x1.toInt64 x2.toInt64 x3.toInt64 x4.toInt64).1 (rr_qs x1.toInt64 x2.toInt64 x3.toInt64 x4.toInt64).2).2), .ref qS])), (qT, .inl (cA, 187, .inl f)), (qS, .inr (0, [.long u170.1, .long u170.2]))] H := hP
                      have hD : va_D A [(h0, .inr (1, [.ref qT, .int (nI n), .int (nI t), .int ((rr_tl f n (rr_qs x1.toInt64 x2.toInt64 x3.toInt64 x4.toInt64).1 (rr_qs x1.toInt64 x2.toInt64 x3.toInt64 x4.toInt64).2).1), .int ((rr_tl f n (rr_qs x1.toInt64 x2.toInt64 x3.toInt64 x4.toInt64).1 (rr_qs x1.toInt64 x2.toInt64 x3.toInt64 x4.toInt64).2).2), .ref qS])), (qT, .inl (cA, 187, .inl f)), (qS, .inr (0, [.long u170.1, .long u170.2]))] := hD
                      refine lv_goto (tgt := 242) hx hb dX1_work_173 (by decide) ?_
                      refine lv_iconst (v := 1) hx hb dX1_work_242 (by decide) ?_
                      have eo : rr_op 3 x1 x2 x3 x4 = (rr_qs x1.toInt64 x2.toInt64 x3.toInt64 x4.toInt64) := by unfold rr_op; rw [if_neg (by decide), if_neg (by decide), if_neg (by decide), if_pos (by decide)]
                      have ee : (rr_wk f n lo hi 3 x1 x2 x3 x4) = (1, rr_tl f n (rr_qs x1.toInt64 x2.toInt64 x3.toInt64 x4.toInt64).1 (rr_qs x1.toInt64 x2.toInt64 x3.toInt64 x4.toInt64).2) := ((if_pos ⟨⟨c1, c7⟩, b13, b24⟩).trans (if_neg (fun z => c49 z.2.2))).trans (congrArg (fun z : Int64 × Int64 => ((1 : Int32), rr_tl f n z.1 z.2)) eo)
                      exact W.iret (v := 1) hx hb hr (fun tt ht hW => ⟨⟨_, (u170.1, u170.2), rfl, by rw [ee], by dsimp only; rw [ht, ee]; exact hP⟩, hS.F ht⟩) hS.2.2 dX1_work_243
                    · skip
                      refine lv_iconst (v := 0) hx hb dX1_work_52 (by decide) ?_
                      have ee : (rr_wk f n lo hi 3 x1 x2 x3 x4) = (0, lo, hi) := (if_pos ⟨⟨c1, c7⟩, b13, b24⟩).trans (if_pos ⟨by decide, c44, c49⟩)
                      exact W.iret (v := 0) hx hb hr (fun tt ht hW => ⟨⟨_, (a, b), rfl, by rw [ee], by dsimp only; rw [ht, ee]; exact hP⟩, hS.F ht⟩) hS.2.2 dX1_work_53
                · skip
                  exact absurd c34 (by decide)
              · skip
                refine lv_iload_n hx hb dX1_work_32 rfl (lv_at hl 1 rfl) ?_
                refine lv_iconst (v := 3) hx hb dX1_work_33 (by decide) ?_
                refine lv_icmp_eq (tgt := 42) hx hb dX1_work_34 (by decide) (fun c34 => ?_) (fun c34 => ?_)
                · skip
                  exact absurd c34 (by decide)
                · skip
                  refine lv_iload_n hx hb dX1_work_37 rfl (lv_at hl 1 rfl) ?_
                  refine lv_iconst (v := 4) hx hb dX1_work_38 (by decide) ?_
                  refine lv_icmp_ne (tgt := 54) hx hb dX1_work_39 (by decide) (fun c39 => ?_) (fun c39 => ?_)
                  · skip
                    exact absurd c39 (by decide)
                  · skip
                    refine lv_iload hx hb dX1_work_42 (lv_at hl 4 rfl) ?_
                    refine lv_if_ne (tgt := 54) hx hb dX1_work_44 (by decide) (fun c44 => ?_) (fun c44 => ?_)
                    · skip
                      refine lv_iload_n hx hb dX1_work_54 rfl (lv_at hl 1 rfl) ?_
                      refine lv_tableIn (off := 121) (tgt := 176) hx hb dX1_work_55 (by decide) (by decide) (by decide +kernel) (by decide) ?_
                      refine lv_aload_n hx hb dX1_work_176 rfl (lv_at hl 0 rfl) ?_
                      refine lv_iload_n hx hb dX1_work_177 rfl (lv_at hl 2 rfl) ?_
                      refine lv_i2l (v := x1.toInt64) hx hb dX1_work_178 rfl ?_
                      refine lv_iload_n hx hb dX1_work_179 rfl (lv_at hl 3 rfl) ?_
                      refine lv_i2l (v := x2.toInt64) hx hb dX1_work_180 rfl ?_
                      refine lv_iload hx hb dX1_work_181 (lv_at hl 4 rfl) ?_
                      refine lv_i2l (v := x3.toInt64) hx hb dX1_work_183 rfl ?_
                      refine lv_iload hx hb dX1_work_184 (lv_at hl 5 rfl) ?_
                      refine lv_i2l (v := x4.toInt64) hx hb dX1_work_186 rfl ?_
                      refine rr_wv (wr := []) [0, 1, 2] [] (va_runV (As := [.long x1.toInt64, .long x2.toInt64, .long x3.toInt64, .long x4.toInt64]) (rest := []) ⟨hx, hb, hml, hown, hts⟩ (c_X1_rest l D h0 qT qS H.size cA f n t lo hi a b x1.toInt64 x2.toInt64 x3.toInt64 x4.toInt64 hn) (cwV 4 hts gX1_work_X1_rest rfl rfl rfl (by decide +kernel) ⟨Nat.le_of_ble_eq_true rfl, Nat.le_of_ble_eq_true rfl⟩) (rr_vW hK hP hD (va_recv hK hP (ci := 1) (q0 := 0) rfl rfl)) rfl rfl hl.1 rfl (lv_room (Nat.le_of_ble_eq_true rfl)) dX1_work_187 ⟨Nat.le_of_ble_eq_true rfl, Nat.le_of_ble_eq_true rfl⟩) hS hA hP hD rfl rfl (by decide) (by decide) (by decide) (fun _ => by simp only [rr_wx, rr_wm, List.map_cons, List.map_nil]) (fun u187 H locs e187 hP hD hS => ?_)
                      have hP : va_P D vwCl [(h0, .inr (1, [.ref qT, .int (nI n), .int (nI t), .int ((rr_tl f n (rr_rs x1.toInt64 x2.toInt64 x3.toInt64 x4.toInt64).1 (rr_rs x1.toInt64 x2.toInt64 x3.toInt64 x4.toInt64).2).1), .int ((rr_tl f n (rr_rs x1.toInt64 x2.toInt64 x3.toInt64 x4.toInt64).1 (rr_rs x1.toInt64 x2.toInt64 x3.toInt64 x4.toInt64).2).2), .ref qS])), (qT, .inl (cA, 187, .inl f)), (qS, .inr (0, [.long a, .long b]))] H := hP
                      have hD : va_D A [(h0, .inr (1, [.ref qT, .int (nI n), .int (nI t), .int ((rr_tl f n (rr_rs x1.toInt64 x2.toInt64 x3.toInt64 x4.toInt64).1 (rr_rs x1.toInt64 x2.toInt64 x3.toInt64 x4.toInt64).2).1), .int ((rr_tl f n (rr_rs x1.toInt64 x2.toInt64 x3.toInt64 x4.toInt64).1 (rr_rs x1.toInt64 x2.toInt64 x3.toInt64 x4.toInt64).2).2), .ref qS])), (qT, .inl (cA, 187, .inl f)), (qS, .inr (0, [.long a, .long b]))] := hD
                      refine lv_goto (tgt := 242) hx hb dX1_work_190 (by decide) ?_
                      refine lv_iconst (v := 1) hx hb dX1_work_242 (by decide) ?_
                      have eo : rr_op 4 x1 x2 x3 x4 = (rr_rs x1.toInt64 x2.toInt64 x3.toInt64 x4.toInt64) := by unfold rr_op; rw [if_neg (by decide), if_neg (by decide), if_neg (by decide), if_neg (by decide), if_pos (by decide)]
                      have ee : (rr_wk f n lo hi 4 x1 x2 x3 x4) = (1, rr_tl f n (rr_rs x1.toInt64 x2.toInt64 x3.toInt64 x4.toInt64).1 (rr_rs x1.toInt64 x2.toInt64 x3.toInt64 x4.toInt64).2) := ((if_pos ⟨⟨c1, c7⟩, b13, b24⟩).trans (if_neg (fun z => c44 z.2.1))).trans (congrArg (fun z : Int64 × Int64 => ((1 : Int32), rr_tl f n z.1 z.2)) eo)
                      exact W.iret (v := 1) hx hb hr (fun tt ht hW => ⟨⟨_, (a, b), rfl, by rw [ee], by dsimp only; rw [ht, ee]; exact hP⟩, hS.F ht⟩) hS.2.2 dX1_work_243
                    · skip
                      refine lv_iload hx hb dX1_work_47 (lv_at hl 5 rfl) ?_
                      refine lv_if_ne (tgt := 54) hx hb dX1_work_49 (by decide) (fun c49 => ?_) (fun c49 => ?_)
                      · skip
                        refine lv_iload_n hx hb dX1_work_54 rfl (lv_at hl 1 rfl) ?_
                        refine lv_tableIn (off := 121) (tgt := 176) hx hb dX1_work_55 (by decide) (by decide) (by decide +kernel) (by decide) ?_
                        refine lv_aload_n hx hb dX1_work_176 rfl (lv_at hl 0 rfl) ?_
                        refine lv_iload_n hx hb dX1_work_177 rfl (lv_at hl 2 rfl) ?_
                        refine lv_i2l (v := x1.toInt64) hx hb dX1_work_178 rfl ?_
                        refine lv_iload_n hx hb dX1_work_179 rfl (lv_at hl 3 rfl) ?_
                        refine lv_i2l (v := x2.toInt64) hx hb dX1_work_180 rfl ?_
                        refine lv_iload hx hb dX1_work_181 (lv_at hl 4 rfl) ?_
                        refine lv_i2l (v := x3.toInt64) hx hb dX1_work_183 rfl ?_
                        refine lv_iload hx hb dX1_work_184 (lv_at hl 5 rfl) ?_
                        refine lv_i2l (v := x4.toInt64) hx hb dX1_work_186 rfl ?_
                        refine rr_wv (wr := []) [0, 1, 2] [] (va_runV (As := [.long x1.toInt64, .long x2.toInt64, .long x3.toInt64, .long x4.toInt64]) (rest := []) ⟨hx, hb, hml, hown, hts⟩ (c_X1_rest l D h0 qT qS H.size cA f n t lo hi a b x1.toInt64 x2.toInt64 x3.toInt64 x4.toInt64 hn) (cwV 4 hts gX1_work_X1_rest rfl rfl rfl (by decide +kernel) ⟨Nat.le_of_ble_eq_true rfl, Nat.le_of_ble_eq_true rfl⟩) (rr_vW hK hP hD (va_recv hK hP (ci := 1) (q0 := 0) rfl rfl)) rfl rfl hl.1 rfl (lv_room (Nat.le_of_ble_eq_true rfl)) dX1_work_187 ⟨Nat.le_of_ble_eq_true rfl, Nat.le_of_ble_eq_true rfl⟩) hS hA hP hD rfl rfl (by decide) (by decide) (by decide) (fun _ => by simp only [rr_wx, rr_wm, List.map_cons, List.map_nil]) (fun u187 H locs e187 hP hD hS => ?_)
                        have hP : va_P D vwCl [(h0, .inr (1, [.ref qT, .int (nI n), .int (nI t), .int ((rr_tl f n (rr_rs x1.toInt64 x2.toInt64 x3.toInt64 x4.toInt64).1 (rr_rs x1.toInt64 x2.toInt64 x3.toInt64 x4.toInt64).2).1), .int ((rr_tl f n (rr_rs x1.toInt64 x2.toInt64 x3.toInt64 x4.toInt64).1 (rr_rs x1.toInt64 x2.toInt64 x3.toInt64 x4.toInt64).2).2), .ref qS])), (qT, .inl (cA, 187, .inl f)), (qS, .inr (0, [.long a, .long b]))] H := hP
                        have hD : va_D A [(h0, .inr (1, [.ref qT, .int (nI n), .int (nI t), .int ((rr_tl f n (rr_rs x1.toInt64 x2.toInt64 x3.toInt64 x4.toInt64).1 (rr_rs x1.toInt64 x2.toInt64 x3.toInt64 x4.toInt64).2).1), .int ((rr_tl f n (rr_rs x1.toInt64 x2.toInt64 x3.toInt64 x4.toInt64).1 (rr_rs x1.toInt64 x2.toInt64 x3.toInt64 x4.toInt64).2).2), .ref qS])), (qT, .inl (cA, 187, .inl f)), (qS, .inr (0, [.long a, .long b]))] := hD
                        refine lv_goto (tgt := 242) hx hb dX1_work_190 (by decide) ?_
                        refine lv_iconst (v := 1) hx hb dX1_work_242 (by decide) ?_
                        have eo : rr_op 4 x1 x2 x3 x4 = (rr_rs x1.toInt64 x2.toInt64 x3.toInt64 x4.toInt64) := by unfold rr_op; rw [if_neg (by decide), if_neg (by decide), if_neg (by decide), if_neg (by decide), if_pos (by decide)]
                        have ee : (rr_wk f n lo hi 4 x1 x2 x3 x4) = (1, rr_tl f n (rr_rs x1.toInt64 x2.toInt64 x3.toInt64 x4.toInt64).1 (rr_rs x1.toInt64 x2.toInt64 x3.toInt64 x4.toInt64).2) := ((if_pos ⟨⟨c1, c7⟩, b13, b24⟩).trans (if_neg (fun z => c49 z.2.2))).trans (congrArg (fun z : Int64 × Int64 => ((1 : Int32), rr_tl f n z.1 z.2)) eo)
                        exact W.iret (v := 1) hx hb hr (fun tt ht hW => ⟨⟨_, (a, b), rfl, by rw [ee], by dsimp only; rw [ht, ee]; exact hP⟩, hS.F ht⟩) hS.2.2 dX1_work_243
                      · skip
                        refine lv_iconst (v := 0) hx hb dX1_work_52 (by decide) ?_
                        have ee : (rr_wk f n lo hi 4 x1 x2 x3 x4) = (0, lo, hi) := (if_pos ⟨⟨c1, c7⟩, b13, b24⟩).trans (if_pos ⟨by decide, c44, c49⟩)
                        exact W.iret (v := 0) hx hb hr (fun tt ht hW => ⟨⟨_, (a, b), rfl, by rw [ee], by dsimp only; rw [ht, ee]; exact hP⟩, hS.F ht⟩) hS.2.2 dX1_work_53
              · skip
                refine lv_iload_n hx hb dX1_work_32 rfl (lv_at hl 1 rfl) ?_
                refine lv_iconst (v := 3) hx hb dX1_work_33 (by decide) ?_
                refine lv_icmp_eq (tgt := 42) hx hb dX1_work_34 (by decide) (fun c34 => ?_) (fun c34 => ?_)
                · skip
                  exact absurd c34 (by decide)
                · skip
                  refine lv_iload_n hx hb dX1_work_37 rfl (lv_at hl 1 rfl) ?_
                  refine lv_iconst (v := 4) hx hb dX1_work_38 (by decide) ?_
                  refine lv_icmp_ne (tgt := 54) hx hb dX1_work_39 (by decide) (fun c39 => ?_) (fun c39 => ?_)
                  · skip
                    refine lv_iload_n hx hb dX1_work_54 rfl (lv_at hl 1 rfl) ?_
                    refine lv_tableIn (off := 138) (tgt := 193) hx hb dX1_work_55 (by decide) (by decide) (by decide +kernel) (by decide) ?_
                    refine lv_aload_n hx hb dX1_work_193 rfl (lv_at hl 0 rfl) ?_
                    refine lv_iload_n hx hb dX1_work_194 rfl (lv_at hl 2 rfl) ?_
                    refine lv_iload_n hx hb dX1_work_195 rfl (lv_at hl 3 rfl) ?_
                    refine lv_iload hx hb dX1_work_196 (lv_at hl 4 rfl) ?_
                    refine lv_iload hx hb dX1_work_198 (lv_at hl 5 rfl) ?_
                    refine rr_wv (wr := []) [0, 1, 2] [] (va_runV (As := [.int x1, .int x2, .int x3, .int x4]) (rest := []) ⟨hx, hb, hml, hown, hts⟩ (c_X1_and l D h0 qT qS H.size cA f n t lo hi a b x1 x2 x3 x4 hn) (cwV 4 hts gX1_work_X1_and rfl rfl rfl (by decide +kernel) ⟨Nat.le_of_ble_eq_true rfl, Nat.le_of_ble_eq_true rfl⟩) (rr_vW hK hP hD (va_recv hK hP (ci := 1) (q0 := 0) rfl rfl)) rfl rfl hl.1 rfl (lv_room (Nat.le_of_ble_eq_true rfl)) dX1_work_200 ⟨Nat.le_of_ble_eq_true rfl, Nat.le_of_ble_eq_true rfl⟩) hS hA hP hD rfl rfl (by decide) (by decide) (by decide) (fun _ => by simp only [rr_wx, rr_wm, List.map_cons, List.map_nil]) (fun u200 H locs e200 hP hD hS => ?_)
                    have hP : va_P D vwCl [(h0, .inr (1, [.ref qT, .int (nI n), .int (nI t), .int ((rr_tl f n (rr_o5 x1 x2 x3 x4).1 (rr_o5 x1 x2 x3 x4).2).1), .int ((rr_tl f n (rr_o5 x1 x2 x3 x4).1 (rr_o5 x1 x2 x3 x4).2).2), .ref qS])), (qT, .inl (cA, 187, .inl f)), (qS, .inr (0, [.long a, .long b]))] H := hP
                    have hD : va_D A [(h0, .inr (1, [.ref qT, .int (nI n), .int (nI t), .int ((rr_tl f n (rr_o5 x1 x2 x3 x4).1 (rr_o5 x1 x2 x3 x4).2).1), .int ((rr_tl f n (rr_o5 x1 x2 x3 x4).1 (rr_o5 x1 x2 x3 x4).2).2), .ref qS])), (qT, .inl (cA, 187, .inl f)), (qS, .inr (0, [.long a, .long b]))] := hD
                    refine lv_goto (tgt := 242) hx hb dX1_work_203 (by decide) ?_
                    refine lv_iconst (v := 1) hx hb dX1_work_242 (by decide) ?_
                    have eo : rr_op 5 x1 x2 x3 x4 = (rr_o5 x1 x2 x3 x4) := by unfold rr_op; rw [if_neg (by decide), if_neg (by decide), if_neg (by decide), if_neg (by decide), if_neg (by decide), if_pos (by decide)]
                    have ee : (rr_wk f n lo hi 5 x1 x2 x3 x4) = (1, rr_tl f n (rr_o5 x1 x2 x3 x4).1 (rr_o5 x1 x2 x3 x4).2) := ((if_pos ⟨⟨c1, c7⟩, b13, b24⟩).trans (if_neg (fun z => absurd z.1 (by decide)))).trans (congrArg (fun z : Int64 × Int64 => ((1 : Int32), rr_tl f n z.1 z.2)) eo)
                    exact W.iret (v := 1) hx hb hr (fun tt ht hW => ⟨⟨_, (a, b), rfl, by rw [ee], by dsimp only; rw [ht, ee]; exact hP⟩, hS.F ht⟩) hS.2.2 dX1_work_243
                  · skip
                    exact absurd c39 (by decide)
              · skip
                refine lv_iload_n hx hb dX1_work_32 rfl (lv_at hl 1 rfl) ?_
                refine lv_iconst (v := 3) hx hb dX1_work_33 (by decide) ?_
                refine lv_icmp_eq (tgt := 42) hx hb dX1_work_34 (by decide) (fun c34 => ?_) (fun c34 => ?_)
                · skip
                  exact absurd c34 (by decide)
                · skip
                  refine lv_iload_n hx hb dX1_work_37 rfl (lv_at hl 1 rfl) ?_
                  refine lv_iconst (v := 4) hx hb dX1_work_38 (by decide) ?_
                  refine lv_icmp_ne (tgt := 54) hx hb dX1_work_39 (by decide) (fun c39 => ?_) (fun c39 => ?_)
                  · skip
                    refine lv_iload_n hx hb dX1_work_54 rfl (lv_at hl 1 rfl) ?_
                    refine lv_tableIn (off := 151) (tgt := 206) hx hb dX1_work_55 (by decide) (by decide) (by decide +kernel) (by decide) ?_
                    refine lv_aload_n hx hb dX1_work_206 rfl (lv_at hl 0 rfl) ?_
                    refine lv_iload_n hx hb dX1_work_207 rfl (lv_at hl 2 rfl) ?_
                    refine lv_iload_n hx hb dX1_work_208 rfl (lv_at hl 3 rfl) ?_
                    refine lv_iload hx hb dX1_work_209 (lv_at hl 4 rfl) ?_
                    refine lv_iload hx hb dX1_work_211 (lv_at hl 5 rfl) ?_
                    refine rr_wv (wr := []) [0, 1, 2] [] (va_runV (As := [.int x1, .int x2, .int x3, .int x4]) (rest := []) ⟨hx, hb, hml, hown, hts⟩ (c_X1_orOrXor l D h0 qT qS H.size cA f n t lo hi a b x1 x2 x3 x4 hn) (cwV 4 hts gX1_work_X1_orOrXor rfl rfl rfl (by decide +kernel) ⟨Nat.le_of_ble_eq_true rfl, Nat.le_of_ble_eq_true rfl⟩) (rr_vW hK hP hD (va_recv hK hP (ci := 1) (q0 := 0) rfl rfl)) rfl rfl hl.1 rfl (lv_room (Nat.le_of_ble_eq_true rfl)) dX1_work_213 ⟨Nat.le_of_ble_eq_true rfl, Nat.le_of_ble_eq_true rfl⟩) hS hA hP hD rfl rfl (by decide) (by decide) (by decide) (fun _ => by simp only [rr_wx, rr_wm, List.map_cons, List.map_nil]) (fun u213 H locs e213 hP hD hS => ?_)
                    have hP : va_P D vwCl [(h0, .inr (1, [.ref qT, .int (nI n), .int (nI t), .int ((rr_tl f n (rr_o6 x1 x2 x3 x4).1 (rr_o6 x1 x2 x3 x4).2).1), .int ((rr_tl f n (rr_o6 x1 x2 x3 x4).1 (rr_o6 x1 x2 x3 x4).2).2), .ref qS])), (qT, .inl (cA, 187, .inl f)), (qS, .inr (0, [.long a, .long b]))] H := hP
                    have hD : va_D A [(h0, .inr (1, [.ref qT, .int (nI n), .int (nI t), .int ((rr_tl f n (rr_o6 x1 x2 x3 x4).1 (rr_o6 x1 x2 x3 x4).2).1), .int ((rr_tl f n (rr_o6 x1 x2 x3 x4).1 (rr_o6 x1 x2 x3 x4).2).2), .ref qS])), (qT, .inl (cA, 187, .inl f)), (qS, .inr (0, [.long a, .long b]))] := hD
                    refine lv_goto (tgt := 242) hx hb dX1_work_216 (by decide) ?_
                    refine lv_iconst (v := 1) hx hb dX1_work_242 (by decide) ?_
                    have eo : rr_op 6 x1 x2 x3 x4 = (rr_o6 x1 x2 x3 x4) := by unfold rr_op; rw [if_neg (by decide), if_neg (by decide), if_neg (by decide), if_neg (by decide), if_neg (by decide), if_neg (by decide), if_pos (by decide)]
                    have ee : (rr_wk f n lo hi 6 x1 x2 x3 x4) = (1, rr_tl f n (rr_o6 x1 x2 x3 x4).1 (rr_o6 x1 x2 x3 x4).2) := ((if_pos ⟨⟨c1, c7⟩, b13, b24⟩).trans (if_neg (fun z => absurd z.1 (by decide)))).trans (congrArg (fun z : Int64 × Int64 => ((1 : Int32), rr_tl f n z.1 z.2)) eo)
                    exact W.iret (v := 1) hx hb hr (fun tt ht hW => ⟨⟨_, (a, b), rfl, by rw [ee], by dsimp only; rw [ht, ee]; exact hP⟩, hS.F ht⟩) hS.2.2 dX1_work_243
                  · skip
                    exact absurd c39 (by decide)
              · skip
                refine lv_iload_n hx hb dX1_work_32 rfl (lv_at hl 1 rfl) ?_
                refine lv_iconst (v := 3) hx hb dX1_work_33 (by decide) ?_
                refine lv_icmp_eq (tgt := 42) hx hb dX1_work_34 (by decide) (fun c34 => ?_) (fun c34 => ?_)
                · skip
                  exact absurd c34 (by decide)
                · skip
                  refine lv_iload_n hx hb dX1_work_37 rfl (lv_at hl 1 rfl) ?_
                  refine lv_iconst (v := 4) hx hb dX1_work_38 (by decide) ?_
                  refine lv_icmp_ne (tgt := 54) hx hb dX1_work_39 (by decide) (fun c39 => ?_) (fun c39 => ?_)
                  · skip
                    refine lv_iload_n hx hb dX1_work_54 rfl (lv_at hl 1 rfl) ?_
                    refine lv_tableIn (off := 151) (tgt := 206) hx hb dX1_work_55 (by decide) (by decide) (by decide +kernel) (by decide) ?_
                    refine lv_aload_n hx hb dX1_work_206 rfl (lv_at hl 0 rfl) ?_
                    refine lv_iload_n hx hb dX1_work_207 rfl (lv_at hl 2 rfl) ?_
                    refine lv_iload_n hx hb dX1_work_208 rfl (lv_at hl 3 rfl) ?_
                    refine lv_iload hx hb dX1_work_209 (lv_at hl 4 rfl) ?_
                    refine lv_iload hx hb dX1_work_211 (lv_at hl 5 rfl) ?_
                    refine rr_wv (wr := []) [0, 1, 2] [] (va_runV (As := [.int x1, .int x2, .int x3, .int x4]) (rest := []) ⟨hx, hb, hml, hown, hts⟩ (c_X1_orOrXor l D h0 qT qS H.size cA f n t lo hi a b x1 x2 x3 x4 hn) (cwV 4 hts gX1_work_X1_orOrXor rfl rfl rfl (by decide +kernel) ⟨Nat.le_of_ble_eq_true rfl, Nat.le_of_ble_eq_true rfl⟩) (rr_vW hK hP hD (va_recv hK hP (ci := 1) (q0 := 0) rfl rfl)) rfl rfl hl.1 rfl (lv_room (Nat.le_of_ble_eq_true rfl)) dX1_work_213 ⟨Nat.le_of_ble_eq_true rfl, Nat.le_of_ble_eq_true rfl⟩) hS hA hP hD rfl rfl (by decide) (by decide) (by decide) (fun _ => by simp only [rr_wx, rr_wm, List.map_cons, List.map_nil]) (fun u213 H locs e213 hP hD hS => ?_)
                    have hP : va_P D vwCl [(h0, .inr (1, [.ref qT, .int (nI n), .int (nI t), .int ((rr_tl f n (rr_o6 x1 x2 x3 x4).1 (rr_o6 x1 x2 x3 x4).2).1), .int ((rr_tl f n (rr_o6 x1 x2 x3 x4).1 (rr_o6 x1 x2 x3 x4).2).2), .ref qS])), (qT, .inl (cA, 187, .inl f)), (qS, .inr (0, [.long a, .long b]))] H := hP
                    have hD : va_D A [(h0, .inr (1, [.ref qT, .int (nI n), .int (nI t), .int ((rr_tl f n (rr_o6 x1 x2 x3 x4).1 (rr_o6 x1 x2 x3 x4).2).1), .int ((rr_tl f n (rr_o6 x1 x2 x3 x4).1 (rr_o6 x1 x2 x3 x4).2).2), .ref qS])), (qT, .inl (cA, 187, .inl f)), (qS, .inr (0, [.long a, .long b]))] := hD
                    refine lv_goto (tgt := 242) hx hb dX1_work_216 (by decide) ?_
                    refine lv_iconst (v := 1) hx hb dX1_work_242 (by decide) ?_
                    have eo : rr_op 7 x1 x2 x3 x4 = (rr_o6 x1 x2 x3 x4) := by unfold rr_op; rw [if_neg (by decide), if_neg (by decide), if_neg (by decide), if_neg (by decide), if_neg (by decide), if_neg (by decide), if_pos (by decide)]
                    have ee : (rr_wk f n lo hi 7 x1 x2 x3 x4) = (1, rr_tl f n (rr_o6 x1 x2 x3 x4).1 (rr_o6 x1 x2 x3 x4).2) := ((if_pos ⟨⟨c1, c7⟩, b13, b24⟩).trans (if_neg (fun z => absurd z.1 (by decide)))).trans (congrArg (fun z : Int64 × Int64 => ((1 : Int32), rr_tl f n z.1 z.2)) eo)
                    exact W.iret (v := 1) hx hb hr (fun tt ht hW => ⟨⟨_, (a, b), rfl, by rw [ee], by dsimp only; rw [ht, ee]; exact hP⟩, hS.F ht⟩) hS.2.2 dX1_work_243
                  · skip
                    exact absurd c39 (by decide)
              · skip
                refine lv_iload_n hx hb dX1_work_32 rfl (lv_at hl 1 rfl) ?_
                refine lv_iconst (v := 3) hx hb dX1_work_33 (by decide) ?_
                refine lv_icmp_eq (tgt := 42) hx hb dX1_work_34 (by decide) (fun c34 => ?_) (fun c34 => ?_)
                · skip
                  exact absurd c34 (by decide)
                · skip
                  refine lv_iload_n hx hb dX1_work_37 rfl (lv_at hl 1 rfl) ?_
                  refine lv_iconst (v := 4) hx hb dX1_work_38 (by decide) ?_
                  refine lv_icmp_ne (tgt := 54) hx hb dX1_work_39 (by decide) (fun c39 => ?_) (fun c39 => ?_)
                  · skip
                    refine lv_iload_n hx hb dX1_work_54 rfl (lv_at hl 1 rfl) ?_
                    refine lv_tableIn (off := 164) (tgt := 219) hx hb dX1_work_55 (by decide) (by decide) (by decide +kernel) (by decide) ?_
                    refine lv_aload_n hx hb dX1_work_219 rfl (lv_at hl 0 rfl) ?_
                    refine lv_iload_n hx hb dX1_work_220 rfl (lv_at hl 2 rfl) ?_
                    refine lv_iload_n hx hb dX1_work_221 rfl (lv_at hl 3 rfl) ?_
                    refine lv_iload hx hb dX1_work_222 (lv_at hl 4 rfl) ?_
                    refine lv_iload hx hb dX1_work_224 (lv_at hl 5 rfl) ?_
                    refine rr_wv (wr := []) [0, 1, 2] [] (va_runV (As := [.int x1, .int x2, .int x3, .int x4]) (rest := []) ⟨hx, hb, hml, hown, hts⟩ (c_X1_shiftLeft l D h0 qT qS H.size cA f n t lo hi a b x1 x2 x3 x4 hn (rr_rg_iff.mp b13).1) (cwV 4 hts gX1_work_X1_shiftLeft rfl rfl rfl (by decide +kernel) ⟨Nat.le_of_ble_eq_true rfl, Nat.le_of_ble_eq_true rfl⟩) (rr_vN hN hK hP hD (va_recv hK hP (ci := 1) (q0 := 0) rfl rfl)) rfl rfl hl.1 rfl (lv_room (Nat.le_of_ble_eq_true rfl)) dX1_work_226 ⟨Nat.le_of_ble_eq_true rfl, Nat.le_of_ble_eq_true rfl⟩) hS hA hP hD rfl rfl (by decide) (by decide) (by decide) (fun _ => by simp only [rr_wx, rr_wm, List.map_cons, List.map_nil]) (fun u226 H locs e226 hP hD hS => ?_)
                    have hP : va_P D vwCl [(h0, .inr (1, [.ref qT, .int (nI n), .int (nI t), .int ((rr_tl f n (rr_o8 x1 x2 x3 x4).1 (rr_o8 x1 x2 x3 x4).2).1), .int ((rr_tl f n (rr_o8 x1 x2 x3 x4).1 (rr_o8 x1 x2 x3 x4).2).2), .ref qS])), (qT, .inl (cA, 187, .inl f)), (qS, .inr (0, [.long u226.1, .long u226.2]))] H := hP
                    have hD : va_D A [(h0, .inr (1, [.ref qT, .int (nI n), .int (nI t), .int ((rr_tl f n (rr_o8 x1 x2 x3 x4).1 (rr_o8 x1 x2 x3 x4).2).1), .int ((rr_tl f n (rr_o8 x1 x2 x3 x4).1 (rr_o8 x1 x2 x3 x4).2).2), .ref qS])), (qT, .inl (cA, 187, .inl f)), (qS, .inr (0, [.long u226.1, .long u226.2]))] := hD
                    refine lv_goto (tgt := 242) hx hb dX1_work_229 (by decide) ?_
                    refine lv_iconst (v := 1) hx hb dX1_work_242 (by decide) ?_
                    have eo : rr_op 8 x1 x2 x3 x4 = (rr_o8 x1 x2 x3 x4) := by unfold rr_op; rw [if_neg (by decide), if_neg (by decide), if_neg (by decide), if_neg (by decide), if_neg (by decide), if_neg (by decide), if_neg (by decide), if_pos (by decide)]
                    have ee : (rr_wk f n lo hi 8 x1 x2 x3 x4) = (1, rr_tl f n (rr_o8 x1 x2 x3 x4).1 (rr_o8 x1 x2 x3 x4).2) := ((if_pos ⟨⟨c1, c7⟩, b13, b24⟩).trans (if_neg (fun z => absurd z.1 (by decide)))).trans (congrArg (fun z : Int64 × Int64 => ((1 : Int32), rr_tl f n z.1 z.2)) eo)
                    exact W.iret (v := 1) hx hb hr (fun tt ht hW => ⟨⟨_, (u226.1, u226.2), rfl, by rw [ee], by dsimp only; rw [ht, ee]; exact hP⟩, hS.F ht⟩) hS.2.2 dX1_work_243
                  · skip
                    exact absurd c39 (by decide)
              · skip
                refine lv_iload_n hx hb dX1_work_32 rfl (lv_at hl 1 rfl) ?_
                refine lv_iconst (v := 3) hx hb dX1_work_33 (by decide) ?_
                refine lv_icmp_eq (tgt := 42) hx hb dX1_work_34 (by decide) (fun c34 => ?_) (fun c34 => ?_)
                · skip
                  exact absurd c34 (by decide)
                · skip
                  refine lv_iload_n hx hb dX1_work_37 rfl (lv_at hl 1 rfl) ?_
                  refine lv_iconst (v := 4) hx hb dX1_work_38 (by decide) ?_
                  refine lv_icmp_ne (tgt := 54) hx hb dX1_work_39 (by decide) (fun c39 => ?_) (fun c39 => ?_)
                  · skip
                    refine lv_iload_n hx hb dX1_work_54 rfl (lv_at hl 1 rfl) ?_
                    refine lv_tableOut (tgt := 232) hx hb dX1_work_55 (by decide) (by decide) ?_
                    refine lv_aload_n hx hb dX1_work_232 rfl (lv_at hl 0 rfl) ?_
                    refine lv_iload_n hx hb dX1_work_233 rfl (lv_at hl 2 rfl) ?_
                    refine lv_iload_n hx hb dX1_work_234 rfl (lv_at hl 3 rfl) ?_
                    refine lv_iload hx hb dX1_work_235 (lv_at hl 4 rfl) ?_
                    refine lv_iload hx hb dX1_work_237 (lv_at hl 5 rfl) ?_
                    refine rr_wv (wr := []) [0, 1, 2] [] (va_runV (As := [.int x1, .int x2, .int x3, .int x4]) (rest := []) ⟨hx, hb, hml, hown, hts⟩ (c_X1_shiftRight l D h0 qT qS H.size cA f n t lo hi a b x1 x2 x3 x4 hn) (cwV 4 hts gX1_work_X1_shiftRight rfl rfl rfl (by decide +kernel) ⟨Nat.le_of_ble_eq_true rfl, Nat.le_of_ble_eq_true rfl⟩) (rr_vW hK hP hD (va_recv hK hP (ci := 1) (q0 := 0) rfl rfl)) rfl rfl hl.1 rfl (lv_room (Nat.le_of_ble_eq_true rfl)) dX1_work_239 ⟨Nat.le_of_ble_eq_true rfl, Nat.le_of_ble_eq_true rfl⟩) hS hA hP hD rfl rfl (by decide) (by decide) (by decide) (fun _ => by simp only [rr_wx, rr_wm, List.map_cons, List.map_nil]) (fun u239 H locs e239 hP hD hS => ?_)
                    have hP : va_P D vwCl [(h0, .inr (1, [.ref qT, .int (nI n), .int (nI t), .int ((rr_tl f n (rr_o9 x1 x2 x3 x4).1 (rr_o9 x1 x2 x3 x4).2).1), .int ((rr_tl f n (rr_o9 x1 x2 x3 x4).1 (rr_o9 x1 x2 x3 x4).2).2), .ref qS])), (qT, .inl (cA, 187, .inl f)), (qS, .inr (0, [.long a, .long b]))] H := hP
                    have hD : va_D A [(h0, .inr (1, [.ref qT, .int (nI n), .int (nI t), .int ((rr_tl f n (rr_o9 x1 x2 x3 x4).1 (rr_o9 x1 x2 x3 x4).2).1), .int ((rr_tl f n (rr_o9 x1 x2 x3 x4).1 (rr_o9 x1 x2 x3 x4).2).2), .ref qS])), (qT, .inl (cA, 187, .inl f)), (qS, .inr (0, [.long a, .long b]))] := hD
                    refine lv_iconst (v := 1) hx hb dX1_work_242 (by decide) ?_
                    have eo : rr_op 9 x1 x2 x3 x4 = (rr_o9 x1 x2 x3 x4) := by unfold rr_op; rw [if_neg (by decide), if_neg (by decide), if_neg (by decide), if_neg (by decide), if_neg (by decide), if_neg (by decide), if_neg (by decide), if_neg (by decide)]
                    have ee : (rr_wk f n lo hi 9 x1 x2 x3 x4) = (1, rr_tl f n (rr_o9 x1 x2 x3 x4).1 (rr_o9 x1 x2 x3 x4).2) := ((if_pos ⟨⟨c1, c7⟩, b13, b24⟩).trans (if_neg (fun z => absurd z.1 (by decide)))).trans (congrArg (fun z : Int64 × Int64 => ((1 : Int32), rr_tl f n z.1 z.2)) eo)
                    exact W.iret (v := 1) hx hb hr (fun tt ht hW => ⟨⟨_, (a, b), rfl, by rw [ee], by dsimp only; rw [ht, ee]; exact hP⟩, hS.F ht⟩) hS.2.2 dX1_work_243
                  · skip
                    exact absurd c39 (by decide)
            · skip
              exact absurd c27 (by decide)
          · rw [if_neg b24] at e24
            subst e24
            refine lv_if_ne (tgt := 32) hx hb dX1_work_27 (by decide) (fun c27 => ?_) (fun c27 => ?_)
            · skip
              exact absurd c27 (by decide)
            · skip
              refine lv_iconst (v := (-1)) hx hb dX1_work_30 (by decide) ?_
              have ee : (rr_wk f n lo hi op x1 x2 x3 x4) = (-1, lo, hi) := if_neg (fun z => by first | exact z.1.1 c1 | exact z.1.2 c7 | exact b13 z.2.1 | exact b24 z.2.2)
              exact W.iret (v := (-1)) hx hb hr (fun tt ht hW => ⟨⟨_, (a, b), rfl, by rw [ee], by dsimp only; rw [ht, ee]; exact hP⟩, hS.F ht⟩) hS.2.2 dX1_work_31
      · rw [if_neg b13] at e13
        subst e13
        refine lv_if_eq (tgt := 30) hx hb dX1_work_16 (by decide) (fun c16 => ?_) (fun c16 => ?_)
        · skip
          refine lv_iconst (v := (-1)) hx hb dX1_work_30 (by decide) ?_
          have ee : (rr_wk f n lo hi op x1 x2 x3 x4) = (-1, lo, hi) := if_neg (fun z => by first | exact z.1.1 c1 | exact z.1.2 c7 | exact b13 z.2.1 | exact b24 z.2.2)
          exact W.iret (v := (-1)) hx hb hr (fun tt ht hW => ⟨⟨_, (a, b), rfl, by rw [ee], by dsimp only; rw [ht, ee]; exact hP⟩, hS.F ht⟩) hS.2.2 dX1_work_31
        · skip
          exact absurd c16 (by decide)
