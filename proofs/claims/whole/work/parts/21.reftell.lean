set_option maxHeartbeats 1000000 in
set_option maxRecDepth 100000 in
/-- clear() -/
theorem c_X2_clear (l : Launch) (D : va_G) (h0 qT sz : Nat) (cA : ClassId) (f : Nat → Int32) (n t : Nat) (lo hi : Int32)   : Met l yX2_clear wsX2_clear ({ frames := 1, cells := 0, slots := 0, locals := 30 }) (rr_pW D (rr_wm h0 qT cA f n t lo hi) [(cA, .int)] [.ref h0] sz) (va_Qv (fun (u : Nat → Int32) => ∀ j, j < 7 → u j = rr_first j) (fun u tt => va_P D vwCl (rr_wm h0 qT cA u 7 0 lo hi) tt.heap) (va_A (rr_wm h0 qT cA f n t lo hi) sz)) 0 0 (va_A (rr_wm h0 qT cA f n t lo hi) sz) := by
  refine Met.ofW (cc := cX2_clear) (maxL := 2) (ret := none) (by decide) rfl ?_
  intro p e s m args below meth c s₁ B hml hv
  obtain ⟨rfl, hsz, hP, hK, hD0⟩ := hv
  have hx := B.exec
  have hb := B.bytes
  have hr := B.returns
  have hts := atoms_spec (ws := wsX2_clear) B.pre
  have hown : s.vm.findClass RX2 = some m.cls := findClass_of_methodNamed B.named
  have hlocks := B.notSynchronized
  subst hsz
  have hD := hD0.self (sz := s.heap.size)
  generalize hAe : va_A [(h0, .inr (2, [.ref qT, .int (nI n), .int (nI t), .int lo, .int hi])), (qT, .inl (cA, 187, .inl f))] s.heap.size = A at hD ⊢
  have hA : ∀ q : Nat, s.heap.size ≤ q → A q := fun q h => by rw [← hAe]; exact Or.inr h
  have hS : va_S A s.heap s.heap [] := va_S.rf
  have hP : va_P D vwCl [(h0, .inr (2, [.ref qT, .int (nI n), .int (nI t), .int lo, .int hi])), (qT, .inl (cA, 187, .inl f))] s.heap := hP
  have hiX2 : ∀ w ∈ wsX20, w ∈ wsX2_clear := by decide +kernel
  have hl := lv_entry ([.ref h0]) (n := 2) (Nat.le_of_ble_eq_true rfl)
  rw [lg_entry_eq]
  generalize (lg_sl ([.ref h0]) ++ List.replicate (2 - (lg_sl ([.ref h0])).length) Slot.unset).toArray = ls at hl ⊢
  have hl : lv_has ls 2 [(0, .ref h0)] := hl
  have hp0 : ∀ j, j < 0 → f j = rr_first j := fun j hj => absurd hj (Nat.not_lt_zero j)
  refine lv_aload_n hx hb dX2_clear_0 rfl (lv_at hl 0 rfl) ?_
  refine lv_iconst (v := 0) hx hb dX2_clear_1 (by decide) ?_
  refine va_put (D := D) (ci := 2) (v := .int 0) (ty := .int) (C := RX2) (T := TX2) (N := 5) hx hb hts hiX2 tyX2 tyX2_ok nmX2 hown hK hP hD hS 0 rfl rfl 2 (by decide) (hts (.fieldLink RX2 16 "RangeRulesModel" "times" "I") (by decide +kernel)) (fun _ h9 => h9) rfl (by decide +kernel) rfl rfl (Nat.le_of_ble_eq_true rfl) dX2_clear_2 (fun H locs hP hD hS => ?_)
  have hP : va_P D vwCl [(h0, .inr (2, [.ref qT, .int (nI n), .int 0, .int lo, .int hi])), (qT, .inl (cA, 187, .inl f))] H := hP
  have hD : va_D A [(h0, .inr (2, [.ref qT, .int (nI n), .int 0, .int lo, .int hi])), (qT, .inl (cA, 187, .inl f))] := hD
  have hP : va_P D vwCl [(h0, .inr (2, [.ref qT, .int (nI n), .int (nI 0), .int lo, .int hi])), (qT, .inl (cA, 187, .inl f))] H := hP
  have hD : va_D A [(h0, .inr (2, [.ref qT, .int (nI n), .int (nI 0), .int lo, .int hi])), (qT, .inl (cA, 187, .inl f))] := hD
  refine lv_aload_n hx hb dX2_clear_5 rfl (lv_at hl 0 rfl) ?_
  refine lv_iconst (v := 0) hx hb dX2_clear_6 (by decide) ?_
  refine va_put (D := D) (ci := 2) (v := .int 0) (ty := .int) (C := RX2) (T := TX2) (N := 5) hx hb hts hiX2 tyX2 tyX2_ok nmX2 hown hK hP hD hS 0 rfl rfl 1 (by decide) (hts (.fieldLink RX2 20 "RangeRulesModel" "thresholds" "I") (by decide +kernel)) (fun _ h9 => h9) rfl (by decide +kernel) rfl rfl (Nat.le_of_ble_eq_true rfl) dX2_clear_7 (fun H locs hP hD hS => ?_)
  have hP : va_P D vwCl [(h0, .inr (2, [.ref qT, .int 0, .int (nI 0), .int lo, .int hi])), (qT, .inl (cA, 187, .inl f))] H := hP
  have hD : va_D A [(h0, .inr (2, [.ref qT, .int 0, .int (nI 0), .int lo, .int hi])), (qT, .inl (cA, 187, .inl f))] := hD
  have hP : va_P D vwCl [(h0, .inr (2, [.ref qT, .int (nI 0), .int (nI 0), .int lo, .int hi])), (qT, .inl (cA, 187, .inl f))] H := hP
  have hD : va_D A [(h0, .inr (2, [.ref qT, .int (nI 0), .int (nI 0), .int lo, .int hi])), (qT, .inl (cA, 187, .inl f))] := hD
  refine lv_aload_n hx hb dX2_clear_10 rfl (lv_at hl 0 rfl) ?_
  refine lv_ldc2 (v := (-2147483648)) hx hb hown (hts (.constantLong RX2 23 (-2147483648)) (by decide +kernel)) dX2_clear_11 ?_
  refine rr_wv (wr := []) [0, 1] [] (va_runV (As := [.long ((-2147483648))]) (rest := []) ⟨hx, hb, hml, hown, hts⟩ (c_X2_add l D h0 qT H.size cA f 0 0 lo hi (-2147483648) (by decide)) (cwV 1 hts gX2_clear_X2_add rfl rfl rfl (by decide +kernel) ⟨Nat.le_of_ble_eq_true rfl, Nat.le_of_ble_eq_true rfl⟩) (rr_vW hK hP hD (va_recv hK hP (ci := 2) (q0 := 0) rfl rfl)) rfl rfl hl.1 rfl (lv_room (Nat.le_of_ble_eq_true rfl)) dX2_clear_14 ⟨Nat.le_of_ble_eq_true rfl, Nat.le_of_ble_eq_true rfl⟩) hS hA hP hD rfl rfl (by decide) (by decide) (by decide) (fun _ => by simp only [rr_wx, rr_wm, List.map_cons, List.map_nil]) (fun u14 H locs e14 hP hD hS => ?_)
  have hP : va_P D vwCl [(h0, .inr (2, [.ref qT, .int (nI (rr_al f 0 (-2147483648)).2), .int (nI 0), .int lo, .int hi])), (qT, .inl (cA, 187, .inl ((rr_al f 0 (-2147483648)).1)))] H := hP
  have hD : va_D A [(h0, .inr (2, [.ref qT, .int (nI (rr_al f 0 (-2147483648)).2), .int (nI 0), .int lo, .int hi])), (qT, .inl (cA, 187, .inl ((rr_al f 0 (-2147483648)).1)))] := hD
  obtain ⟨f1, g1, hp1⟩ := rr_c7 (g := f) (w := (-2147483648)) 0 (by decide) hp0 (by decide)
  rw [g1] at hP hD
  have hP : va_P D vwCl [(h0, .inr (2, [.ref qT, .int (nI 1), .int (nI 0), .int lo, .int hi])), (qT, .inl (cA, 187, .inl f1))] H := hP
  have hD : va_D A [(h0, .inr (2, [.ref qT, .int (nI 1), .int (nI 0), .int lo, .int hi])), (qT, .inl (cA, 187, .inl f1))] := hD
  refine lv_aload_n hx hb dX2_clear_17 rfl (lv_at hl 0 rfl) ?_
  refine lv_ldc2 (v := (-2147483647)) hx hb hown (hts (.constantLong RX2 29 (-2147483647)) (by decide +kernel)) dX2_clear_18 ?_
  refine rr_wv (wr := []) [0, 1] [] (va_runV (As := [.long ((-2147483647))]) (rest := []) ⟨hx, hb, hml, hown, hts⟩ (c_X2_add l D h0 qT H.size cA f1 1 0 lo hi (-2147483647) (by decide)) (cwV 1 hts gX2_clear_X2_add rfl rfl rfl (by decide +kernel) ⟨Nat.le_of_ble_eq_true rfl, Nat.le_of_ble_eq_true rfl⟩) (rr_vW hK hP hD (va_recv hK hP (ci := 2) (q0 := 0) rfl rfl)) rfl rfl hl.1 rfl (lv_room (Nat.le_of_ble_eq_true rfl)) dX2_clear_21 ⟨Nat.le_of_ble_eq_true rfl, Nat.le_of_ble_eq_true rfl⟩) hS hA hP hD rfl rfl (by decide) (by decide) (by decide) (fun _ => by simp only [rr_wx, rr_wm, List.map_cons, List.map_nil]) (fun u21 H locs e21 hP hD hS => ?_)
  have hP : va_P D vwCl [(h0, .inr (2, [.ref qT, .int (nI (rr_al f1 1 (-2147483647)).2), .int (nI 0), .int lo, .int hi])), (qT, .inl (cA, 187, .inl ((rr_al f1 1 (-2147483647)).1)))] H := hP
  have hD : va_D A [(h0, .inr (2, [.ref qT, .int (nI (rr_al f1 1 (-2147483647)).2), .int (nI 0), .int lo, .int hi])), (qT, .inl (cA, 187, .inl ((rr_al f1 1 (-2147483647)).1)))] := hD
  obtain ⟨f2, g2, hp2⟩ := rr_c7 (g := f1) (w := (-2147483647)) 1 (by decide) hp1 (by decide)
  rw [g2] at hP hD
  have hP : va_P D vwCl [(h0, .inr (2, [.ref qT, .int (nI 2), .int (nI 0), .int lo, .int hi])), (qT, .inl (cA, 187, .inl f2))] H := hP
  have hD : va_D A [(h0, .inr (2, [.ref qT, .int (nI 2), .int (nI 0), .int lo, .int hi])), (qT, .inl (cA, 187, .inl f2))] := hD
  refine lv_iconst (v := (-1)) hx hb dX2_clear_24 (by decide) ?_
  refine lv_istore_n (lv' := [(1, .int ((-1))), (0, .ref h0)]) hx hb dX2_clear_25 rfl hl (by decide) rfl (fun ls hl => ?_)
  refine lv_iload_n hx hb dX2_clear_26 rfl (lv_at hl 0 rfl) ?_
  refine lv_iconst (v := 2) hx hb dX2_clear_27 (by decide) ?_
  refine lv_icmp_ge (tgt := 43) hx hb dX2_clear_28 (by decide) (fun c28 => ?_) (fun c28 => ?_)
  · skip
    exact absurd c28 (by decide)
  · skip
    refine lv_aload_n hx hb dX2_clear_31 rfl (lv_at hl 1 rfl) ?_
    refine lv_iload_n hx hb dX2_clear_32 rfl (lv_at hl 0 rfl) ?_
    refine lv_i2l (v := (((-1) : Int32).toInt64)) hx hb dX2_clear_33 rfl ?_
    refine rr_wv (wr := []) [0, 1] [] (va_runV (As := [.long ((((-1) : Int32).toInt64))]) (rest := []) ⟨hx, hb, hml, hown, hts⟩ (c_X2_add l D h0 qT H.size cA f2 2 0 lo hi (((-1) : Int32).toInt64) (by decide)) (cwV 1 hts gX2_clear_X2_add rfl rfl rfl (by decide +kernel) ⟨Nat.le_of_ble_eq_true rfl, Nat.le_of_ble_eq_true rfl⟩) (rr_vW hK hP hD (va_recv hK hP (ci := 2) (q0 := 0) rfl rfl)) rfl rfl hl.1 rfl (lv_room (Nat.le_of_ble_eq_true rfl)) dX2_clear_34 ⟨Nat.le_of_ble_eq_true rfl, Nat.le_of_ble_eq_true rfl⟩) hS hA hP hD rfl rfl (by decide) (by decide) (by decide) (fun _ => by simp only [rr_wx, rr_wm, List.map_cons, List.map_nil]) (fun u34 H locs e34 hP hD hS => ?_)
    have hP : va_P D vwCl [(h0, .inr (2, [.ref qT, .int (nI (rr_al f2 2 (((-1) : Int32).toInt64)).2), .int (nI 0), .int lo, .int hi])), (qT, .inl (cA, 187, .inl ((rr_al f2 2 (((-1) : Int32).toInt64)).1)))] H := hP
    have hD : va_D A [(h0, .inr (2, [.ref qT, .int (nI (rr_al f2 2 (((-1) : Int32).toInt64)).2), .int (nI 0), .int lo, .int hi])), (qT, .inl (cA, 187, .inl ((rr_al f2 2 (((-1) : Int32).toInt64)).1)))] := hD
    obtain ⟨f3, g3, hp3⟩ := rr_c7 (g := f2) (w := (((-1) : Int32).toInt64)) 2 (by decide) hp2 (by decide)
    rw [g3] at hP hD
    have hP : va_P D vwCl [(h0, .inr (2, [.ref qT, .int (nI 3), .int (nI 0), .int lo, .int hi])), (qT, .inl (cA, 187, .inl f3))] H := hP
    have hD : va_D A [(h0, .inr (2, [.ref qT, .int (nI 3), .int (nI 0), .int lo, .int hi])), (qT, .inl (cA, 187, .inl f3))] := hD
    refine lv_iinc (v := 0) (lv' := [(1, .int 0), (0, .ref h0)]) hx hb dX2_clear_37 hl (k := 0) rfl (by decide) (by decide) rfl (fun ls hl => ?_)
    refine lv_goto (tgt := 26) hx hb dX2_clear_40 (by decide) ?_
    refine lv_iload_n hx hb dX2_clear_26 rfl (lv_at hl 0 rfl) ?_
    refine lv_iconst (v := 2) hx hb dX2_clear_27 (by decide) ?_
    refine lv_icmp_ge (tgt := 43) hx hb dX2_clear_28 (by decide) (fun c28 => ?_) (fun c28 => ?_)
    · skip
      exact absurd c28 (by decide)
    · skip
      refine lv_aload_n hx hb dX2_clear_31 rfl (lv_at hl 1 rfl) ?_
      refine lv_iload_n hx hb dX2_clear_32 rfl (lv_at hl 0 rfl) ?_
      refine lv_i2l (v := ((0 : Int32).toInt64)) hx hb dX2_clear_33 rfl ?_
      refine rr_wv (wr := []) [0, 1] [] (va_runV (As := [.long (((0 : Int32).toInt64))]) (rest := []) ⟨hx, hb, hml, hown, hts⟩ (c_X2_add l D h0 qT H.size cA f3 3 0 lo hi ((0 : Int32).toInt64) (by decide)) (cwV 1 hts gX2_clear_X2_add rfl rfl rfl (by decide +kernel) ⟨Nat.le_of_ble_eq_true rfl, Nat.le_of_ble_eq_true rfl⟩) (rr_vW hK hP hD (va_recv hK hP (ci := 2) (q0 := 0) rfl rfl)) rfl rfl hl.1 rfl (lv_room (Nat.le_of_ble_eq_true rfl)) dX2_clear_34 ⟨Nat.le_of_ble_eq_true rfl, Nat.le_of_ble_eq_true rfl⟩) hS hA hP hD rfl rfl (by decide) (by decide) (by decide) (fun _ => by simp only [rr_wx, rr_wm, List.map_cons, List.map_nil]) (fun u34 H locs e34 hP hD hS => ?_)
      have hP : va_P D vwCl [(h0, .inr (2, [.ref qT, .int (nI (rr_al f3 3 ((0 : Int32).toInt64)).2), .int (nI 0), .int lo, .int hi])), (qT, .inl (cA, 187, .inl ((rr_al f3 3 ((0 : Int32).toInt64)).1)))] H := hP
      have hD : va_D A [(h0, .inr (2, [.ref qT, .int (nI (rr_al f3 3 ((0 : Int32).toInt64)).2), .int (nI 0), .int lo, .int hi])), (qT, .inl (cA, 187, .inl ((rr_al f3 3 ((0 : Int32).toInt64)).1)))] := hD
      obtain ⟨f4, g4, hp4⟩ := rr_c7 (g := f3) (w := ((0 : Int32).toInt64)) 3 (by decide) hp3 (by decide)
      rw [g4] at hP hD
      have hP : va_P D vwCl [(h0, .inr (2, [.ref qT, .int (nI 4), .int (nI 0), .int lo, .int hi])), (qT, .inl (cA, 187, .inl f4))] H := hP
      have hD : va_D A [(h0, .inr (2, [.ref qT, .int (nI 4), .int (nI 0), .int lo, .int hi])), (qT, .inl (cA, 187, .inl f4))] := hD
      refine lv_iinc (v := 1) (lv' := [(1, .int 1), (0, .ref h0)]) hx hb dX2_clear_37 hl (k := 0) rfl (by decide) (by decide) rfl (fun ls hl => ?_)
      refine lv_goto (tgt := 26) hx hb dX2_clear_40 (by decide) ?_
      refine lv_iload_n hx hb dX2_clear_26 rfl (lv_at hl 0 rfl) ?_
      refine lv_iconst (v := 2) hx hb dX2_clear_27 (by decide) ?_
      refine lv_icmp_ge (tgt := 43) hx hb dX2_clear_28 (by decide) (fun c28 => ?_) (fun c28 => ?_)
      · skip
        exact absurd c28 (by decide)
      · skip
        refine lv_aload_n hx hb dX2_clear_31 rfl (lv_at hl 1 rfl) ?_
        refine lv_iload_n hx hb dX2_clear_32 rfl (lv_at hl 0 rfl) ?_
        refine lv_i2l (v := ((1 : Int32).toInt64)) hx hb dX2_clear_33 rfl ?_
        refine rr_wv (wr := []) [0, 1] [] (va_runV (As := [.long (((1 : Int32).toInt64))]) (rest := []) ⟨hx, hb, hml, hown, hts⟩ (c_X2_add l D h0 qT H.size cA f4 4 0 lo hi ((1 : Int32).toInt64) (by decide)) (cwV 1 hts gX2_clear_X2_add rfl rfl rfl (by decide +kernel) ⟨Nat.le_of_ble_eq_true rfl, Nat.le_of_ble_eq_true rfl⟩) (rr_vW hK hP hD (va_recv hK hP (ci := 2) (q0 := 0) rfl rfl)) rfl rfl hl.1 rfl (lv_room (Nat.le_of_ble_eq_true rfl)) dX2_clear_34 ⟨Nat.le_of_ble_eq_true rfl, Nat.le_of_ble_eq_true rfl⟩) hS hA hP hD rfl rfl (by decide) (by decide) (by decide) (fun _ => by simp only [rr_wx, rr_wm, List.map_cons, List.map_nil]) (fun u34 H locs e34 hP hD hS => ?_)
        have hP : va_P D vwCl [(h0, .inr (2, [.ref qT, .int (nI (rr_al f4 4 ((1 : Int32).toInt64)).2), .int (nI 0), .int lo, .int hi])), (qT, .inl (cA, 187, .inl ((rr_al f4 4 ((1 : Int32).toInt64)).1)))] H := hP
        have hD : va_D A [(h0, .inr (2, [.ref qT, .int (nI (rr_al f4 4 ((1 : Int32).toInt64)).2), .int (nI 0), .int lo, .int hi])), (qT, .inl (cA, 187, .inl ((rr_al f4 4 ((1 : Int32).toInt64)).1)))] := hD
        obtain ⟨f5, g5, hp5⟩ := rr_c7 (g := f4) (w := ((1 : Int32).toInt64)) 4 (by decide) hp4 (by decide)
        rw [g5] at hP hD
        have hP : va_P D vwCl [(h0, .inr (2, [.ref qT, .int (nI 5), .int (nI 0), .int lo, .int hi])), (qT, .inl (cA, 187, .inl f5))] H := hP
        have hD : va_D A [(h0, .inr (2, [.ref qT, .int (nI 5), .int (nI 0), .int lo, .int hi])), (qT, .inl (cA, 187, .inl f5))] := hD
        refine lv_iinc (v := 2) (lv' := [(1, .int 2), (0, .ref h0)]) hx hb dX2_clear_37 hl (k := 0) rfl (by decide) (by decide) rfl (fun ls hl => ?_)
        refine lv_goto (tgt := 26) hx hb dX2_clear_40 (by decide) ?_
        refine lv_iload_n hx hb dX2_clear_26 rfl (lv_at hl 0 rfl) ?_
        refine lv_iconst (v := 2) hx hb dX2_clear_27 (by decide) ?_
        refine lv_icmp_ge (tgt := 43) hx hb dX2_clear_28 (by decide) (fun c28 => ?_) (fun c28 => ?_)
        · skip
          refine lv_aload_n hx hb dX2_clear_43 rfl (lv_at hl 1 rfl) ?_
          refine lv_ldc2 (v := 2147483646) hx hb hown (hts (.constantLong RX2 31 2147483646) (by decide +kernel)) dX2_clear_44 ?_
          refine rr_wv (wr := []) [0, 1] [] (va_runV (As := [.long 2147483646]) (rest := []) ⟨hx, hb, hml, hown, hts⟩ (c_X2_add l D h0 qT H.size cA f5 5 0 lo hi 2147483646 (by decide)) (cwV 1 hts gX2_clear_X2_add rfl rfl rfl (by decide +kernel) ⟨Nat.le_of_ble_eq_true rfl, Nat.le_of_ble_eq_true rfl⟩) (rr_vW hK hP hD (va_recv hK hP (ci := 2) (q0 := 0) rfl rfl)) rfl rfl hl.1 rfl (lv_room (Nat.le_of_ble_eq_true rfl)) dX2_clear_47 ⟨Nat.le_of_ble_eq_true rfl, Nat.le_of_ble_eq_true rfl⟩) hS hA hP hD rfl rfl (by decide) (by decide) (by decide) (fun _ => by simp only [rr_wx, rr_wm, List.map_cons, List.map_nil]) (fun u47 H locs e47 hP hD hS => ?_)
          have hP : va_P D vwCl [(h0, .inr (2, [.ref qT, .int (nI (rr_al f5 5 2147483646).2), .int (nI 0), .int lo, .int hi])), (qT, .inl (cA, 187, .inl ((rr_al f5 5 2147483646).1)))] H := hP
          have hD : va_D A [(h0, .inr (2, [.ref qT, .int (nI (rr_al f5 5 2147483646).2), .int (nI 0), .int lo, .int hi])), (qT, .inl (cA, 187, .inl ((rr_al f5 5 2147483646).1)))] := hD
          obtain ⟨f6, g6, hp6⟩ := rr_c7 (g := f5) (w := 2147483646) 5 (by decide) hp5 (by decide)
          rw [g6] at hP hD
          have hP : va_P D vwCl [(h0, .inr (2, [.ref qT, .int (nI 6), .int (nI 0), .int lo, .int hi])), (qT, .inl (cA, 187, .inl f6))] H := hP
          have hD : va_D A [(h0, .inr (2, [.ref qT, .int (nI 6), .int (nI 0), .int lo, .int hi])), (qT, .inl (cA, 187, .inl f6))] := hD
          refine lv_aload_n hx hb dX2_clear_50 rfl (lv_at hl 1 rfl) ?_
          refine lv_ldc2 (v := 2147483647) hx hb hown (hts (.constantLong RX2 33 2147483647) (by decide +kernel)) dX2_clear_51 ?_
          refine rr_wv (wr := []) [0, 1] [] (va_runV (As := [.long 2147483647]) (rest := []) ⟨hx, hb, hml, hown, hts⟩ (c_X2_add l D h0 qT H.size cA f6 6 0 lo hi 2147483647 (by decide)) (cwV 1 hts gX2_clear_X2_add rfl rfl rfl (by decide +kernel) ⟨Nat.le_of_ble_eq_true rfl, Nat.le_of_ble_eq_true rfl⟩) (rr_vW hK hP hD (va_recv hK hP (ci := 2) (q0 := 0) rfl rfl)) rfl rfl hl.1 rfl (lv_room (Nat.le_of_ble_eq_true rfl)) dX2_clear_54 ⟨Nat.le_of_ble_eq_true rfl, Nat.le_of_ble_eq_true rfl⟩) hS hA hP hD rfl rfl (by decide) (by decide) (by decide) (fun _ => by simp only [rr_wx, rr_wm, List.map_cons, List.map_nil]) (fun u54 H locs e54 hP hD hS => ?_)
          have hP : va_P D vwCl [(h0, .inr (2, [.ref qT, .int (nI (rr_al f6 6 2147483647).2), .int (nI 0), .int lo, .int hi])), (qT, .inl (cA, 187, .inl ((rr_al f6 6 2147483647).1)))] H := hP
          have hD : va_D A [(h0, .inr (2, [.ref qT, .int (nI (rr_al f6 6 2147483647).2), .int (nI 0), .int lo, .int hi])), (qT, .inl (cA, 187, .inl ((rr_al f6 6 2147483647).1)))] := hD
          obtain ⟨f7, g7, hp7⟩ := rr_c7 (g := f6) (w := 2147483647) 6 (by decide) hp6 (by decide)
          rw [g7] at hP hD
          have hP : va_P D vwCl [(h0, .inr (2, [.ref qT, .int (nI 7), .int (nI 0), .int lo, .int hi])), (qT, .inl (cA, 187, .inl f7))] H := hP
          have hD : va_D A [(h0, .inr (2, [.ref qT, .int (nI 7), .int (nI 0), .int lo, .int hi])), (qT, .inl (cA, 187, .inl f7))] := hD
          exact W.vret hx hb hr (fun tt ht hW => ⟨⟨f7, rfl, hp7, by dsimp only; rw [ht]; exact hP⟩, hS.F ht⟩) hS.2.2 dX2_clear_57
        · skip
          exact absurd c28 (by decide)
set_option maxHeartbeats 1000000 in
set_option maxRecDepth 100000 in
/-- around(v) -/
theorem c_X2_around (l : Launch) (D : va_G) (h0 qT sz : Nat) (cA : ClassId) (f : Nat → Int32) (n t : Nat) (lo hi : Int32) (v : Int32) (hk : rr_ok f n) (ht6 : t ≤ 60) (hnt : n ≤ 7 + 3 * t) : Met l yX2_around wsX2_around ({ frames := 1, cells := 0, slots := 0, locals := 30 }) (rr_pW D (rr_wm h0 qT cA f n t lo hi) [(cA, .int)] [.ref h0, .int v] sz) (va_Qi (fun r (_ : Unit) => r = if t = 60 then -1 else nI (rr_ar f n v).2) (fun _ tt => va_P D vwCl (rr_wm h0 qT cA (if t = 60 then f else (rr_ar f n v).1) (if t = 60 then n else (rr_ar f n v).2) (if t = 60 then t else t + 1) lo hi) tt.heap) (va_A (rr_wm h0 qT cA f n t lo hi) sz)) 0 0 (va_A (rr_wm h0 qT cA f n t lo hi) sz) := by
  refine Met.ofW (cc := cX2_around) (maxL := 4) (ret := (some .int)) (by decide) rfl ?_
  intro p e s m args below meth c s₁ B hml hv
  obtain ⟨rfl, hsz, hP, hK, hD0⟩ := hv
  have hx := B.exec
  have hb := B.bytes
  have hr := B.returns
  have hts := atoms_spec (ws := wsX2_around) B.pre
  have hown : s.vm.findClass RX2 = some m.cls := findClass_of_methodNamed B.named
  have hlocks := B.notSynchronized
  subst hsz
  have hD := hD0.self (sz := s.heap.size)
  generalize hAe : va_A [(h0, .inr (2, [.ref qT, .int (nI n), .int (nI t), .int lo, .int hi])), (qT, .inl (cA, 187, .inl f))] s.heap.size = A at hD ⊢
  have hA : ∀ q : Nat, s.heap.size ≤ q → A q := fun q h => by rw [← hAe]; exact Or.inr h
  have hS : va_S A s.heap s.heap [] := va_S.rf
  have hP : va_P D vwCl [(h0, .inr (2, [.ref qT, .int (nI n), .int (nI t), .int lo, .int hi])), (qT, .inl (cA, 187, .inl f))] s.heap := hP
  have hiX2 : ∀ w ∈ wsX20, w ∈ wsX2_around := by decide +kernel
  have hl := lv_entry ([.ref h0, .int v]) (n := 4) (Nat.le_of_ble_eq_true rfl)
  rw [lg_entry_eq]
  generalize (lg_sl ([.ref h0, .int v]) ++ List.replicate (4 - (lg_sl ([.ref h0, .int v])).length) Slot.unset).toArray = ls at hl ⊢
  have hl : lv_has ls 4 [(0, .ref h0), (1, .int v)] := hl
  refine lv_aload_n hx hb dX2_around_0 rfl (lv_at hl 0 rfl) ?_
  refine va_get (D := D) (ci := 2) (v := .int (nI t)) (C := RX2) (T := TX2) (N := 5) hx hb hts hiX2 hown hK hP 0 rfl rfl 2 (by decide) (hts (.fieldLink RX2 16 "RangeRulesModel" "times" "I") (by decide +kernel)) (fun _ h9 => h9) rfl dX2_around_1 ?_
  refine lv_bipush (v := 60) hx hb dX2_around_4 (by decide) ?_
  refine lv_icmp_ne (tgt := 11) hx hb dX2_around_6 (by decide) (fun c6 => ?_) (fun c6 => ?_)
  · skip
    have h7 : ¬ t = 60 := fun z => c6 (by rw [z]; rfl)
    have h6 : t < 60 := by omega
    refine lv_aload_n hx hb dX2_around_11 rfl (lv_at hl 0 rfl) ?_
    refine lv_dup hx hb dX2_around_12 rfl ?_
    refine va_get (D := D) (ci := 2) (v := .int (nI t)) (C := RX2) (T := TX2) (N := 5) hx hb hts hiX2 hown hK hP 0 rfl rfl 2 (by decide) (hts (.fieldLink RX2 16 "RangeRulesModel" "times" "I") (by decide +kernel)) (fun _ h9 => h9) rfl dX2_around_13 ?_
    refine lv_iconst (v := 1) hx hb dX2_around_16 (by decide) ?_
    refine lv_iadd hx hb dX2_around_17 ?_
    refine W.eq (congrArg (fun z => F0 m 18 ls (.int z :: [.ref h0])) (nI_1 t)) ?_
    refine va_put (D := D) (ci := 2) (v := .int (nI (t + 1))) (ty := .int) (C := RX2) (T := TX2) (N := 5) hx hb hts hiX2 tyX2 tyX2_ok nmX2 hown hK hP hD hS 0 rfl rfl 2 (by decide) (hts (.fieldLink RX2 16 "RangeRulesModel" "times" "I") (by decide +kernel)) (fun _ h9 => h9) rfl (by decide +kernel) rfl rfl (Nat.le_of_ble_eq_true rfl) dX2_around_18 (fun H locs hP hD hS => ?_)
    have hP : va_P D vwCl [(h0, .inr (2, [.ref qT, .int (nI n), .int (nI (t + 1)), .int lo, .int hi])), (qT, .inl (cA, 187, .inl f))] H := hP
    have hD : va_D A [(h0, .inr (2, [.ref qT, .int (nI n), .int (nI (t + 1)), .int lo, .int hi])), (qT, .inl (cA, 187, .inl f))] := hD
    refine lv_iload_n hx hb dX2_around_21 rfl (lv_at hl 1 rfl) ?_
    refine lv_i2l (v := v.toInt64) hx hb dX2_around_22 rfl ?_
    refine lv_lconst (v := 1) hx hb dX2_around_23 (by decide) ?_
    refine lv_lsub hx hb dX2_around_24 ?_
    refine lv_lstore_n (lv' := [(2, .long (v.toInt64 - 1)), (0, .ref h0), (1, .int v)]) hx hb dX2_around_25 rfl hl (by decide) rfl (fun ls hl => ?_)
    refine lv_lload_n hx hb dX2_around_26 rfl (lv_at hl 0 rfl) ?_
    refine lv_iload_n hx hb dX2_around_27 rfl (lv_at hl 2 rfl) ?_
    refine lv_i2l (v := v.toInt64) hx hb dX2_around_28 rfl ?_
    refine lv_lconst (v := 1) hx hb dX2_around_29 (by decide) ?_
    refine lv_ladd hx hb dX2_around_30 ?_
    refine W.lcmp hx hb dX2_around_31 ?_
    refine lv_if_gt (tgt := 47) hx hb dX2_around_32 (by decide) (fun c32 => ?_) (fun c32 => ?_)
    · skip
      exact absurd c32 (rr_t1 v)
    · skip
      refine lv_aload_n hx hb dX2_around_35 rfl (lv_at hl 1 rfl) ?_
      refine lv_lload_n hx hb dX2_around_36 rfl (lv_at hl 0 rfl) ?_
      refine rr_wv (wr := []) [0, 1] [] (va_runV (As := [.long (v.toInt64 - 1)]) (rest := []) ⟨hx, hb, hml, hown, hts⟩ (c_X2_add l D h0 qT H.size cA f n (t + 1) lo hi (v.toInt64 - 1) (by omega)) (cwV 1 hts gX2_around_X2_add rfl rfl rfl (by decide +kernel) ⟨Nat.le_of_ble_eq_true rfl, Nat.le_of_ble_eq_true rfl⟩) (rr_vW hK hP hD (va_recv hK hP (ci := 2) (q0 := 0) rfl rfl)) rfl rfl hl.1 rfl (lv_room (Nat.le_of_ble_eq_true rfl)) dX2_around_37 ⟨Nat.le_of_ble_eq_true rfl, Nat.le_of_ble_eq_true rfl⟩) hS hA hP hD rfl rfl (by decide) (by decide) (by decide) (fun _ => by simp only [rr_wx, rr_wm, List.map_cons, List.map_nil]) (fun u37 H locs e37 hP hD hS => ?_)
      have hP : va_P D vwCl [(h0, .inr (2, [.ref qT, .int (nI (rr_al f n (v.toInt64 - 1)).2), .int (nI (t + 1)), .int lo, .int hi])), (qT, .inl (cA, 187, .inl ((rr_al f n (v.toInt64 - 1)).1)))] H := hP
      have hD : va_D A [(h0, .inr (2, [.ref qT, .int (nI (rr_al f n (v.toInt64 - 1)).2), .int (nI (t + 1)), .int lo, .int hi])), (qT, .inl (cA, 187, .inl ((rr_al f n (v.toInt64 - 1)).1)))] := hD
      obtain ⟨f1, n1, g1⟩ : ∃ (fz : Nat → Int32) (nz : Nat), rr_al f n (v.toInt64 - 1) = (fz, nz) := ⟨_, _, rfl⟩
      rw [g1] at hP hD
      obtain ⟨hk1, hq1, hr1⟩ := rr_al_of hk g1
      have hP : va_P D vwCl [(h0, .inr (2, [.ref qT, .int (nI n1), .int (nI (t + 1)), .int lo, .int hi])), (qT, .inl (cA, 187, .inl f1))] H := hP
      have hD : va_D A [(h0, .inr (2, [.ref qT, .int (nI n1), .int (nI (t + 1)), .int lo, .int hi])), (qT, .inl (cA, 187, .inl f1))] := hD
      refine lv_lload_n hx hb dX2_around_40 rfl (lv_at hl 0 rfl) ?_
      refine lv_lconst (v := 1) hx hb dX2_around_41 (by decide) ?_
      refine lv_ladd hx hb dX2_around_42 ?_
      refine W.eq (congrArg (fun z => F0 m 43 ls (.long z :: [])) (Int64.sub_add_cancel _ _)) ?_
      refine lv_lstore_n (lv' := [(2, .long v.toInt64), (0, .ref h0), (1, .int v)]) hx hb dX2_around_43 rfl hl (by decide) rfl (fun ls hl => ?_)
      refine lv_goto (tgt := 26) hx hb dX2_around_44 (by decide) ?_
      refine lv_lload_n hx hb dX2_around_26 rfl (lv_at hl 0 rfl) ?_
      refine lv_iload_n hx hb dX2_around_27 rfl (lv_at hl 2 rfl) ?_
      refine lv_i2l (v := v.toInt64) hx hb dX2_around_28 rfl ?_
      refine lv_lconst (v := 1) hx hb dX2_around_29 (by decide) ?_
      refine lv_ladd hx hb dX2_around_30 ?_
      refine W.lcmp hx hb dX2_around_31 ?_
      refine lv_if_gt (tgt := 47) hx hb dX2_around_32 (by decide) (fun c32 => ?_) (fun c32 => ?_)
      · skip
        exact absurd c32 (rr_t2 v)
      · skip
        refine lv_aload_n hx hb dX2_around_35 rfl (lv_at hl 1 rfl) ?_
        refine lv_lload_n hx hb dX2_around_36 rfl (lv_at hl 0 rfl) ?_
        refine rr_wv (wr := []) [0, 1] [] (va_runV (As := [.long v.toInt64]) (rest := []) ⟨hx, hb, hml, hown, hts⟩ (c_X2_add l D h0 qT H.size cA f1 n1 (t + 1) lo hi v.toInt64 (by omega)) (cwV 1 hts gX2_around_X2_add rfl rfl rfl (by decide +kernel) ⟨Nat.le_of_ble_eq_true rfl, Nat.le_of_ble_eq_true rfl⟩) (rr_vW hK hP hD (va_recv hK hP (ci := 2) (q0 := 0) rfl rfl)) rfl rfl hl.1 rfl (lv_room (Nat.le_of_ble_eq_true rfl)) dX2_around_37 ⟨Nat.le_of_ble_eq_true rfl, Nat.le_of_ble_eq_true rfl⟩) hS hA hP hD rfl rfl (by decide) (by decide) (by decide) (fun _ => by simp only [rr_wx, rr_wm, List.map_cons, List.map_nil]) (fun u37 H locs e37 hP hD hS => ?_)
        have hP : va_P D vwCl [(h0, .inr (2, [.ref qT, .int (nI (rr_al f1 n1 v.toInt64).2), .int (nI (t + 1)), .int lo, .int hi])), (qT, .inl (cA, 187, .inl ((rr_al f1 n1 v.toInt64).1)))] H := hP
        have hD : va_D A [(h0, .inr (2, [.ref qT, .int (nI (rr_al f1 n1 v.toInt64).2), .int (nI (t + 1)), .int lo, .int hi])), (qT, .inl (cA, 187, .inl ((rr_al f1 n1 v.toInt64).1)))] := hD
        obtain ⟨f2, n2, g2⟩ : ∃ (fz : Nat → Int32) (nz : Nat), rr_al f1 n1 v.toInt64 = (fz, nz) := ⟨_, _, rfl⟩
        rw [g2] at hP hD
        obtain ⟨hk2, hq2, hr2⟩ := rr_al_of hk1 g2
        have hP : va_P D vwCl [(h0, .inr (2, [.ref qT, .int (nI n2), .int (nI (t + 1)), .int lo, .int hi])), (qT, .inl (cA, 187, .inl f2))] H := hP
        have hD : va_D A [(h0, .inr (2, [.ref qT, .int (nI n2), .int (nI (t + 1)), .int lo, .int hi])), (qT, .inl (cA, 187, .inl f2))] := hD
        refine lv_lload_n hx hb dX2_around_40 rfl (lv_at hl 0 rfl) ?_
        refine lv_lconst (v := 1) hx hb dX2_around_41 (by decide) ?_
        refine lv_ladd hx hb dX2_around_42 ?_
        refine lv_lstore_n (lv' := [(2, .long (v.toInt64 + 1)), (0, .ref h0), (1, .int v)]) hx hb dX2_around_43 rfl hl (by decide) rfl (fun ls hl => ?_)
        refine lv_goto (tgt := 26) hx hb dX2_around_44 (by decide) ?_
        refine lv_lload_n hx hb dX2_around_26 rfl (lv_at hl 0 rfl) ?_
        refine lv_iload_n hx hb dX2_around_27 rfl (lv_at hl 2 rfl) ?_
        refine lv_i2l (v := v.toInt64) hx hb dX2_around_28 rfl ?_
        refine lv_lconst (v := 1) hx hb dX2_around_29 (by decide) ?_
        refine lv_ladd hx hb dX2_around_30 ?_
        refine W.lcmp hx hb dX2_around_31 ?_
        refine lv_if_gt (tgt := 47) hx hb dX2_around_32 (by decide) (fun c32 => ?_) (fun c32 => ?_)
        · skip
          exact absurd c32 (rr_t3 v)
        · skip
          refine lv_aload_n hx hb dX2_around_35 rfl (lv_at hl 1 rfl) ?_
          refine lv_lload_n hx hb dX2_around_36 rfl (lv_at hl 0 rfl) ?_
          refine rr_wv (wr := []) [0, 1] [] (va_runV (As := [.long (v.toInt64 + 1)]) (rest := []) ⟨hx, hb, hml, hown, hts⟩ (c_X2_add l D h0 qT H.size cA f2 n2 (t + 1) lo hi (v.toInt64 + 1) (by omega)) (cwV 1 hts gX2_around_X2_add rfl rfl rfl (by decide +kernel) ⟨Nat.le_of_ble_eq_true rfl, Nat.le_of_ble_eq_true rfl⟩) (rr_vW hK hP hD (va_recv hK hP (ci := 2) (q0 := 0) rfl rfl)) rfl rfl hl.1 rfl (lv_room (Nat.le_of_ble_eq_true rfl)) dX2_around_37 ⟨Nat.le_of_ble_eq_true rfl, Nat.le_of_ble_eq_true rfl⟩) hS hA hP hD rfl rfl (by decide) (by decide) (by decide) (fun _ => by simp only [rr_wx, rr_wm, List.map_cons, List.map_nil]) (fun u37 H locs e37 hP hD hS => ?_)
          have hP : va_P D vwCl [(h0, .inr (2, [.ref qT, .int (nI (rr_al f2 n2 (v.toInt64 + 1)).2), .int (nI (t + 1)), .int lo, .int hi])), (qT, .inl (cA, 187, .inl ((rr_al f2 n2 (v.toInt64 + 1)).1)))] H := hP
          have hD : va_D A [(h0, .inr (2, [.ref qT, .int (nI (rr_al f2 n2 (v.toInt64 + 1)).2), .int (nI (t + 1)), .int lo, .int hi])), (qT, .inl (cA, 187, .inl ((rr_al f2 n2 (v.toInt64 + 1)).1)))] := hD
          obtain ⟨f3, n3, g3⟩ : ∃ (fz : Nat → Int32) (nz : Nat), rr_al f2 n2 (v.toInt64 + 1) = (fz, nz) := ⟨_, _, rfl⟩
          rw [g3] at hP hD
          obtain ⟨hk3, hq3, hr3⟩ := rr_al_of hk2 g3
          have hP : va_P D vwCl [(h0, .inr (2, [.ref qT, .int (nI n3), .int (nI (t + 1)), .int lo, .int hi])), (qT, .inl (cA, 187, .inl f3))] H := hP
          have hD : va_D A [(h0, .inr (2, [.ref qT, .int (nI n3), .int (nI (t + 1)), .int lo, .int hi])), (qT, .inl (cA, 187, .inl f3))] := hD
          refine lv_lload_n hx hb dX2_around_40 rfl (lv_at hl 0 rfl) ?_
          refine lv_lconst (v := 1) hx hb dX2_around_41 (by decide) ?_
          refine lv_ladd hx hb dX2_around_42 ?_
          refine lv_lstore_n (lv' := [(2, .long ((v.toInt64 + 1) + 1)), (0, .ref h0), (1, .int v)]) hx hb dX2_around_43 rfl hl (by decide) rfl (fun ls hl => ?_)
          refine lv_goto (tgt := 26) hx hb dX2_around_44 (by decide) ?_
          refine lv_lload_n hx hb dX2_around_26 rfl (lv_at hl 0 rfl) ?_
          refine lv_iload_n hx hb dX2_around_27 rfl (lv_at hl 2 rfl) ?_
          refine lv_i2l (v := v.toInt64) hx hb dX2_around_28 rfl ?_
          refine lv_lconst (v := 1) hx hb dX2_around_29 (by decide) ?_
          refine lv_ladd hx hb dX2_around_30 ?_
          refine W.lcmp hx hb dX2_around_31 ?_
          refine lv_if_gt (tgt := 47) hx hb dX2_around_32 (by decide) (fun c32 => ?_) (fun c32 => ?_)
          · skip
            refine lv_aload_n hx hb dX2_around_47 rfl (lv_at hl 1 rfl) ?_
            refine va_get (D := D) (ci := 2) (v := .int (nI n3)) (C := RX2) (T := TX2) (N := 5) hx hb hts hiX2 hown hK hP 0 rfl rfl 1 (by decide) (hts (.fieldLink RX2 20 "RangeRulesModel" "thresholds" "I") (by decide +kernel)) (fun _ h9 => h9) rfl dX2_around_48 ?_
            have ee : rr_ar f n v = (f3, n3) := by
              unfold rr_ar
              rw [g1]
              dsimp only
              rw [g2]
              dsimp only
              rw [g3]
            exact W.iret (v := nI n3) hx hb hr (fun tt ht hW => ⟨⟨_, (), rfl, by rw [if_neg h7, ee], by dsimp only; rw [ht, if_neg h7, if_neg h7, if_neg h7, ee]; exact hP⟩, hS.F ht⟩) hS.2.2 dX2_around_51
          · skip
            exact absurd (rr_t4 v) c32
  · skip
    have h7 : t = 60 := (nI_eq (a := t) (b := 60) (by omega) (by decide)).mp c6
    refine lv_iconst (v := (-1)) hx hb dX2_around_9 (by decide) ?_
    exact W.iret (v := -1) hx hb hr (fun tt ht hW => ⟨⟨_, (), rfl, by rw [if_pos h7], by dsimp only; rw [ht, if_pos h7, if_pos h7, if_pos h7]; exact hP⟩, hS.F ht⟩) hS.2.2 dX2_around_10
set_option maxHeartbeats 1000000 in
set_option maxRecDepth 100000 in
/-- tell(x, y), where x is not above y -/
theorem c_X2_tell (l : Launch) (D : va_G) (h0 qT sz : Nat) (cA : ClassId) (f : Nat → Int32) (n t : Nat) (lo hi : Int32) (x y : Int64) (hn : n ≤ 187) (hxy : x ≤ y) : Met l yX2_tell wsX2_tell ({ frames := 2, cells := 0, slots := 0, locals := 43 }) (rr_pW D (rr_wm h0 qT cA f n t lo hi) [(cA, .int)] [.ref h0, .long x, .long y] sz) (va_Qi (fun r (_ : Unit) => r = 1) (fun _ tt => va_P D vwCl (rr_wm h0 qT cA f n t (rr_tl f n x y).1 (rr_tl f n x y).2) tt.heap) (va_A (rr_wm h0 qT cA f n t lo hi) sz)) 0 0 (va_A (rr_wm h0 qT cA f n t lo hi) sz) := by
  refine Met.ofW (cc := cX2_tell) (maxL := 6) (ret := (some .int)) (by decide) rfl ?_
  intro p e s m args below meth c s₁ B hml hv
  obtain ⟨rfl, hsz, hP, hK, hD0⟩ := hv
  have hx := B.exec
  have hb := B.bytes
  have hr := B.returns
  have hts := atoms_spec (ws := wsX2_tell) B.pre
  have hown : s.vm.findClass RX2 = some m.cls := findClass_of_methodNamed B.named
  have hlocks := B.notSynchronized
  subst hsz
  have hD := hD0.self (sz := s.heap.size)
  generalize hAe : va_A [(h0, .inr (2, [.ref qT, .int (nI n), .int (nI t), .int lo, .int hi])), (qT, .inl (cA, 187, .inl f))] s.heap.size = A at hD ⊢
  have hA : ∀ q : Nat, s.heap.size ≤ q → A q := fun q h => by rw [← hAe]; exact Or.inr h
  have hS : va_S A s.heap s.heap [] := va_S.rf
  have hP : va_P D vwCl [(h0, .inr (2, [.ref qT, .int (nI n), .int (nI t), .int lo, .int hi])), (qT, .inl (cA, 187, .inl f))] s.heap := hP
  have hiX2 : ∀ w ∈ wsX20, w ∈ wsX2_tell := by decide +kernel
  have hl := lv_entry ([.ref h0, .long x, .long y]) (n := 6) (Nat.le_of_ble_eq_true rfl)
  rw [lg_entry_eq]
  generalize (lg_sl ([.ref h0, .long x, .long y]) ++ List.replicate (6 - (lg_sl ([.ref h0, .long x, .long y])).length) Slot.unset).toArray = ls at hl ⊢
  have hl : lv_has ls 6 [(0, .ref h0), (1, .long x), (3, .long y)] := hl
  refine lv_lload_n hx hb dX2_tell_0 rfl (lv_at hl 1 rfl) ?_
  refine lv_ldc2 (v := (-2147483648)) hx hb hown (hts (.constantLong RX2 23 (-2147483648)) (by decide +kernel)) dX2_tell_1 ?_
  refine W.lcmp hx hb dX2_tell_4 ?_
  refine lv_if_lt (tgt := 20) hx hb dX2_tell_5 (by decide) (fun c5 => ?_) (fun c5 => ?_)
  · skip
    refine lv_iconst (v := 0) hx hb dX2_tell_20 (by decide) ?_
    refine lv_istore (lv' := [(5, .int 0), (0, .ref h0), (1, .long x), (3, .long y)]) hx hb dX2_tell_21 hl (by decide) rfl (fun ls hl => ?_)
    refine lv_aload_n hx hb dX2_tell_23 rfl (lv_at hl 1 rfl) ?_
    refine lv_iload hx hb dX2_tell_24 (lv_at hl 0 rfl) ?_
    refine lv_if_eq (tgt := 38) hx hb dX2_tell_26 (by decide) (fun c26 => ?_) (fun c26 => ?_)
    · skip
      refine lv_ldc (v := (-2147483648)) hx hb hown (hts (.constant RX2 35 (-2147483648)) (by decide +kernel)) dX2_tell_38 ?_
      refine va_put (D := D) (ci := 2) (v := .int ((-2147483648))) (ty := .int) (C := RX2) (T := TX2) (N := 5) hx hb hts hiX2 tyX2 tyX2_ok nmX2 hown hK hP hD hS 0 rfl rfl 3 (by decide) (hts (.fieldLink RX2 53 "RangeRulesModel" "low" "I") (by decide +kernel)) (fun _ h9 => h9) rfl (by decide +kernel) rfl rfl (Nat.le_of_ble_eq_true rfl) dX2_tell_40 (fun H locs hP hD hS => ?_)
      have hP : va_P D vwCl [(h0, .inr (2, [.ref qT, .int (nI n), .int (nI t), .int ((-2147483648)), .int hi])), (qT, .inl (cA, 187, .inl f))] H := hP
      have hD : va_D A [(h0, .inr (2, [.ref qT, .int (nI n), .int (nI t), .int ((-2147483648)), .int hi])), (qT, .inl (cA, 187, .inl f))] := hD
      refine lv_aload_n hx hb dX2_tell_43 rfl (lv_at hl 1 rfl) ?_
      refine lv_iload hx hb dX2_tell_44 (lv_at hl 0 rfl) ?_
      refine lv_if_eq (tgt := 58) hx hb dX2_tell_46 (by decide) (fun c46 => ?_) (fun c46 => ?_)
      · skip
        refine lv_ldc (v := 2147483647) hx hb hown (hts (.constant RX2 42 2147483647) (by decide +kernel)) dX2_tell_58 ?_
        refine va_put (D := D) (ci := 2) (v := .int 2147483647) (ty := .int) (C := RX2) (T := TX2) (N := 5) hx hb hts hiX2 tyX2 tyX2_ok nmX2 hown hK hP hD hS 0 rfl rfl 4 (by decide) (hts (.fieldLink RX2 56 "RangeRulesModel" "high" "I") (by decide +kernel)) (fun _ h9 => h9) rfl (by decide +kernel) rfl rfl (Nat.le_of_ble_eq_true rfl) dX2_tell_60 (fun H locs hP hD hS => ?_)
        have hP : va_P D vwCl [(h0, .inr (2, [.ref qT, .int (nI n), .int (nI t), .int ((-2147483648)), .int 2147483647])), (qT, .inl (cA, 187, .inl f))] H := hP
        have hD : va_D A [(h0, .inr (2, [.ref qT, .int (nI n), .int (nI t), .int ((-2147483648)), .int 2147483647])), (qT, .inl (cA, 187, .inl f))] := hD
        refine lv_iconst (v := 1) hx hb dX2_tell_63 (by decide) ?_
        have ee : rr_tl f n x y = (-2147483648, 2147483647) := rr_tl_1 ((lg_cmp_lt _ _).mp c5)
        exact W.iret (v := 1) hx hb hr (fun tt ht hW => ⟨⟨_, (), rfl, rfl, by dsimp only; rw [ht, ee]; exact hP⟩, hS.F ht⟩) hS.2.2 dX2_tell_64
      · skip
        exact absurd c46 (by decide)
    · skip
      exact absurd c26 (by decide)
  · skip
    refine lv_lload_n hx hb dX2_tell_8 rfl (lv_at hl 2 rfl) ?_
    refine lv_ldc2 (v := 2147483647) hx hb hown (hts (.constantLong RX2 33 2147483647) (by decide +kernel)) dX2_tell_9 ?_
    refine W.lcmp hx hb dX2_tell_12 ?_
    refine lv_if_gt (tgt := 20) hx hb dX2_tell_13 (by decide) (fun c13 => ?_) (fun c13 => ?_)
    · skip
      refine lv_iconst (v := 0) hx hb dX2_tell_20 (by decide) ?_
      refine lv_istore (lv' := [(5, .int 0), (0, .ref h0), (1, .long x), (3, .long y)]) hx hb dX2_tell_21 hl (by decide) rfl (fun ls hl => ?_)
      refine lv_aload_n hx hb dX2_tell_23 rfl (lv_at hl 1 rfl) ?_
      refine lv_iload hx hb dX2_tell_24 (lv_at hl 0 rfl) ?_
      refine lv_if_eq (tgt := 38) hx hb dX2_tell_26 (by decide) (fun c26 => ?_) (fun c26 => ?_)
      · skip
        refine lv_ldc (v := (-2147483648)) hx hb hown (hts (.constant RX2 35 (-2147483648)) (by decide +kernel)) dX2_tell_38 ?_
        refine va_put (D := D) (ci := 2) (v := .int ((-2147483648))) (ty := .int) (C := RX2) (T := TX2) (N := 5) hx hb hts hiX2 tyX2 tyX2_ok nmX2 hown hK hP hD hS 0 rfl rfl 3 (by decide) (hts (.fieldLink RX2 53 "RangeRulesModel" "low" "I") (by decide +kernel)) (fun _ h9 => h9) rfl (by decide +kernel) rfl rfl (Nat.le_of_ble_eq_true rfl) dX2_tell_40 (fun H locs hP hD hS => ?_)
        have hP : va_P D vwCl [(h0, .inr (2, [.ref qT, .int (nI n), .int (nI t), .int ((-2147483648)), .int hi])), (qT, .inl (cA, 187, .inl f))] H := hP
        have hD : va_D A [(h0, .inr (2, [.ref qT, .int (nI n), .int (nI t), .int ((-2147483648)), .int hi])), (qT, .inl (cA, 187, .inl f))] := hD
        refine lv_aload_n hx hb dX2_tell_43 rfl (lv_at hl 1 rfl) ?_
        refine lv_iload hx hb dX2_tell_44 (lv_at hl 0 rfl) ?_
        refine lv_if_eq (tgt := 58) hx hb dX2_tell_46 (by decide) (fun c46 => ?_) (fun c46 => ?_)
        · skip
          refine lv_ldc (v := 2147483647) hx hb hown (hts (.constant RX2 42 2147483647) (by decide +kernel)) dX2_tell_58 ?_
          refine va_put (D := D) (ci := 2) (v := .int 2147483647) (ty := .int) (C := RX2) (T := TX2) (N := 5) hx hb hts hiX2 tyX2 tyX2_ok nmX2 hown hK hP hD hS 0 rfl rfl 4 (by decide) (hts (.fieldLink RX2 56 "RangeRulesModel" "high" "I") (by decide +kernel)) (fun _ h9 => h9) rfl (by decide +kernel) rfl rfl (Nat.le_of_ble_eq_true rfl) dX2_tell_60 (fun H locs hP hD hS => ?_)
          have hP : va_P D vwCl [(h0, .inr (2, [.ref qT, .int (nI n), .int (nI t), .int ((-2147483648)), .int 2147483647])), (qT, .inl (cA, 187, .inl f))] H := hP
          have hD : va_D A [(h0, .inr (2, [.ref qT, .int (nI n), .int (nI t), .int ((-2147483648)), .int 2147483647])), (qT, .inl (cA, 187, .inl f))] := hD
          refine lv_iconst (v := 1) hx hb dX2_tell_63 (by decide) ?_
          have ee : rr_tl f n x y = (-2147483648, 2147483647) := rr_tl_2 ((lg_cmp_gt _ _).mp c13)
          exact W.iret (v := 1) hx hb hr (fun tt ht hW => ⟨⟨_, (), rfl, rfl, by dsimp only; rw [ht, ee]; exact hP⟩, hS.F ht⟩) hS.2.2 dX2_tell_64
        · skip
          exact absurd c46 (by decide)
      · skip
        exact absurd c26 (by decide)
    · skip
      refine lv_iconst (v := 1) hx hb dX2_tell_16 (by decide) ?_
      refine lv_goto (tgt := 21) hx hb dX2_tell_17 (by decide) ?_
      refine lv_istore (lv' := [(5, .int 1), (0, .ref h0), (1, .long x), (3, .long y)]) hx hb dX2_tell_21 hl (by decide) rfl (fun ls hl => ?_)
      refine lv_aload_n hx hb dX2_tell_23 rfl (lv_at hl 1 rfl) ?_
      refine lv_iload hx hb dX2_tell_24 (lv_at hl 0 rfl) ?_
      refine lv_if_eq (tgt := 38) hx hb dX2_tell_26 (by decide) (fun c26 => ?_) (fun c26 => ?_)
      · skip
        exact absurd c26 (by decide)
      · skip
        refine lv_aload_n hx hb dX2_tell_29 rfl (lv_at hl 1 rfl) ?_
        refine lv_lload_n hx hb dX2_tell_30 rfl (lv_at hl 2 rfl) ?_
        refine lv_l2i (v := x.toInt32) hx hb dX2_tell_31 rfl ?_
        refine rr_ri (va_runV (As := [.int x.toInt32]) (rest := [.ref h0]) ⟨hx, hb, hml, hown, hts⟩ (c_X2_down l D h0 qT s.heap.size cA f n t lo hi x.toInt32 hn) (cwV 1 hts gX2_tell_X2_down rfl rfl rfl (by decide +kernel) ⟨Nat.le_of_ble_eq_true rfl, Nat.le_of_ble_eq_true rfl⟩) (rr_vR hK hP (va_recv hK hP (ci := 2) (q0 := 0) rfl rfl)) rfl rfl hl.1 rfl (lv_room (Nat.le_of_ble_eq_true rfl)) dX2_tell_32 ⟨Nat.le_of_ble_eq_true rfl, Nat.le_of_ble_eq_true rfl⟩) hS hA hP (fun r32 H locs e32 hP hS => ?_)
        subst e32
        refine lv_goto (tgt := 40) hx hb dX2_tell_35 (by decide) ?_
        refine va_put (D := D) (ci := 2) (v := .int (rr_dn f x.toInt32 n)) (ty := .int) (C := RX2) (T := TX2) (N := 5) hx hb hts hiX2 tyX2 tyX2_ok nmX2 hown hK hP hD hS 0 rfl rfl 3 (by decide) (hts (.fieldLink RX2 53 "RangeRulesModel" "low" "I") (by decide +kernel)) (fun _ h9 => h9) rfl (by decide +kernel) rfl rfl (Nat.le_of_ble_eq_true rfl) dX2_tell_40 (fun H locs hP hD hS => ?_)
        have hP : va_P D vwCl [(h0, .inr (2, [.ref qT, .int (nI n), .int (nI t), .int (rr_dn f x.toInt32 n), .int hi])), (qT, .inl (cA, 187, .inl f))] H := hP
        have hD : va_D A [(h0, .inr (2, [.ref qT, .int (nI n), .int (nI t), .int (rr_dn f x.toInt32 n), .int hi])), (qT, .inl (cA, 187, .inl f))] := hD
        refine lv_aload_n hx hb dX2_tell_43 rfl (lv_at hl 1 rfl) ?_
        refine lv_iload hx hb dX2_tell_44 (lv_at hl 0 rfl) ?_
        refine lv_if_eq (tgt := 58) hx hb dX2_tell_46 (by decide) (fun c46 => ?_) (fun c46 => ?_)
        · skip
          exact absurd c46 (by decide)
        · skip
          refine lv_aload_n hx hb dX2_tell_49 rfl (lv_at hl 1 rfl) ?_
          refine lv_lload_n hx hb dX2_tell_50 rfl (lv_at hl 3 rfl) ?_
          refine lv_l2i (v := y.toInt32) hx hb dX2_tell_51 rfl ?_
          refine rr_ri (va_runV (As := [.int y.toInt32]) (rest := [.ref h0]) ⟨hx, hb, hml, hown, hts⟩ (c_X2_up l D h0 qT H.size cA f n t (rr_dn f x.toInt32 n) hi y.toInt32 hn) (cwV 1 hts gX2_tell_X2_up rfl rfl rfl (by decide +kernel) ⟨Nat.le_of_ble_eq_true rfl, Nat.le_of_ble_eq_true rfl⟩) (rr_vR hK hP (va_recv hK hP (ci := 2) (q0 := 0) rfl rfl)) rfl rfl hl.1 rfl (lv_room (Nat.le_of_ble_eq_true rfl)) dX2_tell_52 ⟨Nat.le_of_ble_eq_true rfl, Nat.le_of_ble_eq_true rfl⟩) hS hA hP (fun r52 H locs e52 hP hS => ?_)
          subst e52
          refine lv_goto (tgt := 60) hx hb dX2_tell_55 (by decide) ?_
          refine va_put (D := D) (ci := 2) (v := .int (rr_up f y.toInt32 n)) (ty := .int) (C := RX2) (T := TX2) (N := 5) hx hb hts hiX2 tyX2 tyX2_ok nmX2 hown hK hP hD hS 0 rfl rfl 4 (by decide) (hts (.fieldLink RX2 56 "RangeRulesModel" "high" "I") (by decide +kernel)) (fun _ h9 => h9) rfl (by decide +kernel) rfl rfl (Nat.le_of_ble_eq_true rfl) dX2_tell_60 (fun H locs hP hD hS => ?_)
          have hP : va_P D vwCl [(h0, .inr (2, [.ref qT, .int (nI n), .int (nI t), .int (rr_dn f x.toInt32 n), .int (rr_up f y.toInt32 n)])), (qT, .inl (cA, 187, .inl f))] H := hP
          have hD : va_D A [(h0, .inr (2, [.ref qT, .int (nI n), .int (nI t), .int (rr_dn f x.toInt32 n), .int (rr_up f y.toInt32 n)])), (qT, .inl (cA, 187, .inl f))] := hD
          refine lv_iconst (v := 1) hx hb dX2_tell_63 (by decide) ?_
          have ee : rr_tl f n x y = (rr_dn f x.toInt32 n, rr_up f y.toInt32 n) := rr_tl_t hxy (Int64.not_lt.mp (fun z => c5 ((lg_cmp_lt _ _).mpr z))) (Int64.not_lt.mp (fun z => c13 ((lg_cmp_gt _ _).mpr z)))
          exact W.iret (v := 1) hx hb hr (fun tt ht hW => ⟨⟨_, (), rfl, rfl, by dsimp only; rw [ht, ee]; exact hP⟩, hS.F ht⟩) hS.2.2 dX2_tell_64
set_option maxHeartbeats 1000000 in
set_option maxRecDepth 100000 in
/-- tellAll() -/
theorem c_X2_tellAll (l : Launch) (D : va_G) (h0 qT sz : Nat) (cA : ClassId) (f : Nat → Int32) (n t : Nat) (lo hi : Int32)  (hn : n ≤ 187) : Met l yX2_tellAll wsX2_tellAll ({ frames := 3, cells := 0, slots := 0, locals := 68 }) (rr_pW D (rr_wm h0 qT cA f n t lo hi) [(cA, .int)] [.ref h0] sz) (va_Qi (fun r (_ : Unit) => r = 1) (fun _ tt => va_P D vwCl (rr_wm h0 qT cA f n t (-2147483648) 2147483647) tt.heap) (va_A (rr_wm h0 qT cA f n t lo hi) sz)) 0 0 (va_A (rr_wm h0 qT cA f n t lo hi) sz) := by
  refine Met.ofW (cc := cX2_tellAll) (maxL := 1) (ret := (some .int)) (by decide) rfl ?_
  intro p e s m args below meth c s₁ B hml hv
  obtain ⟨rfl, hsz, hP, hK, hD0⟩ := hv
  have hx := B.exec
  have hb := B.bytes
  have hr := B.returns
  have hts := atoms_spec (ws := wsX2_tellAll) B.pre
  have hown : s.vm.findClass RX2 = some m.cls := findClass_of_methodNamed B.named
  have hlocks := B.notSynchronized
  subst hsz
  have hD := hD0.self (sz := s.heap.size)
  generalize hAe : va_A [(h0, .inr (2, [.ref qT, .int (nI n), .int (nI t), .int lo, .int hi])), (qT, .inl (cA, 187, .inl f))] s.heap.size = A at hD ⊢
  have hA : ∀ q : Nat, s.heap.size ≤ q → A q := fun q h => by rw [← hAe]; exact Or.inr h
  have hS : va_S A s.heap s.heap [] := va_S.rf
  have hP : va_P D vwCl [(h0, .inr (2, [.ref qT, .int (nI n), .int (nI t), .int lo, .int hi])), (qT, .inl (cA, 187, .inl f))] s.heap := hP
  have hiX2 : ∀ w ∈ wsX20, w ∈ wsX2_tellAll := by decide +kernel
  have hl := lv_entry ([.ref h0]) (n := 1) (Nat.le_of_ble_eq_true rfl)
  rw [lg_entry_eq]
  generalize (lg_sl ([.ref h0]) ++ List.replicate (1 - (lg_sl ([.ref h0])).length) Slot.unset).toArray = ls at hl ⊢
  have hl : lv_has ls 1 [(0, .ref h0)] := hl
  refine lv_aload_n hx hb dX2_tellAll_0 rfl (lv_at hl 0 rfl) ?_
  refine lv_ldc2 (v := (-2147483648)) hx hb hown (hts (.constantLong RX2 23 (-2147483648)) (by decide +kernel)) dX2_tellAll_1 ?_
  refine lv_ldc2 (v := 2147483647) hx hb hown (hts (.constantLong RX2 33 2147483647) (by decide +kernel)) dX2_tellAll_4 ?_
  refine rr_wi (wr := []) [0, 1] [] (va_runV (As := [.long ((-2147483648)), .long 2147483647]) (rest := []) ⟨hx, hb, hml, hown, hts⟩ (c_X2_tell l D h0 qT s.heap.size cA f n t lo hi (-2147483648) 2147483647 hn (by decide)) (cwV 2 hts gX2_tellAll_X2_tell rfl rfl rfl (by decide +kernel) ⟨Nat.le_of_ble_eq_true rfl, Nat.le_of_ble_eq_true rfl⟩) (rr_vW hK hP hD (va_recv hK hP (ci := 2) (q0 := 0) rfl rfl)) rfl rfl hl.1 rfl (lv_room (Nat.le_of_ble_eq_true rfl)) dX2_tellAll_7 ⟨Nat.le_of_ble_eq_true rfl, Nat.le_of_ble_eq_true rfl⟩) hS hA hP hD rfl rfl (by decide) (by decide) (by decide) (fun _ => by simp only [rr_wx, rr_wm, List.map_cons, List.map_nil]) (fun r7 u7 H locs e7 hP hD hS => ?_)
  have hP : va_P D vwCl [(h0, .inr (2, [.ref qT, .int (nI n), .int (nI t), .int ((rr_tl f n (-2147483648) 2147483647).1), .int ((rr_tl f n (-2147483648) 2147483647).2)])), (qT, .inl (cA, 187, .inl f))] H := hP
  have hD : va_D A [(h0, .inr (2, [.ref qT, .int (nI n), .int (nI t), .int ((rr_tl f n (-2147483648) 2147483647).1), .int ((rr_tl f n (-2147483648) 2147483647).2)])), (qT, .inl (cA, 187, .inl f))] := hD
  subst e7
  rw [rr_tl_all] at hP
  exact W.iret (v := 1) hx hb hr (fun tt ht hW => ⟨⟨_, (), rfl, rfl, by dsimp only; rw [ht]; exact hP⟩, hS.F ht⟩) hS.2.2 dX2_tellAll_10
set_option maxHeartbeats 1000000 in
set_option maxRecDepth 100000 in
/-- tellLeast -/
theorem c_X2_tellLeast (l : Launch) (D : va_G) (h0 qT sz : Nat) (cA : ClassId) (f : Nat → Int32) (n t : Nat) (lo hi : Int32) (x1 x2 x3 x4 : Int64) (hn : n ≤ 187) : Met l yX2_tellLeast wsX2_tellLeast ({ frames := 3, cells := 0, slots := 0, locals := 68 }) (rr_pW D (rr_wm h0 qT cA f n t lo hi) [(cA, .int)] [.ref h0, .long x1, .long x2, .long x3, .long x4] sz) (va_Qi (fun r (_ : Unit) => r = 1) (fun _ tt => va_P D vwCl (rr_wm h0 qT cA f n t (rr_tl f n (rr_mn (rr_mn x1 x2) (rr_mn x3 x4)) (rr_mx (rr_mx x1 x2) (rr_mx x3 x4))).1 (rr_tl f n (rr_mn (rr_mn x1 x2) (rr_mn x3 x4)) (rr_mx (rr_mx x1 x2) (rr_mx x3 x4))).2) tt.heap) (va_A (rr_wm h0 qT cA f n t lo hi) sz)) 0 0 (va_A (rr_wm h0 qT cA f n t lo hi) sz) := by
  refine Met.ofW (cc := cX2_tellLeast) (maxL := 9) (ret := (some .int)) (by decide) rfl ?_
  intro p e s m args below meth c s₁ B hml hv
  obtain ⟨rfl, hsz, hP, hK, hD0⟩ := hv
  have hx := B.exec
  have hb := B.bytes
  have hr := B.returns
  have hts := atoms_spec (ws := wsX2_tellLeast) B.pre
  have hown : s.vm.findClass RX2 = some m.cls := findClass_of_methodNamed B.named
  have hlocks := B.notSynchronized
  subst hsz
  have hD := hD0.self (sz := s.heap.size)
  generalize hAe : va_A [(h0, .inr (2, [.ref qT, .int (nI n), .int (nI t), .int lo, .int hi])), (qT, .inl (cA, 187, .inl f))] s.heap.size = A at hD ⊢
  have hA : ∀ q : Nat, s.heap.size ≤ q → A q := fun q h => by rw [← hAe]; exact Or.inr h
  have hS : va_S A s.heap s.heap [] := va_S.rf
  have hP : va_P D vwCl [(h0, .inr (2, [.ref qT, .int (nI n), .int (nI t), .int lo, .int hi])), (qT, .inl (cA, 187, .inl f))] s.heap := hP
  have hiX2 : ∀ w ∈ wsX20, w ∈ wsX2_tellLeast := by decide +kernel
  have hl := lv_entry ([.ref h0, .long x1, .long x2, .long x3, .long x4]) (n := 9) (Nat.le_of_ble_eq_true rfl)
  rw [lg_entry_eq]
  generalize (lg_sl ([.ref h0, .long x1, .long x2, .long x3, .long x4]) ++ List.replicate (9 - (lg_sl ([.ref h0, .long x1, .long x2, .long x3, .long x4])).length) Slot.unset).toArray = ls at hl ⊢
  have hl : lv_has ls 9 [(0, .ref h0), (1, .long x1), (3, .long x2), (5, .long x3), (7, .long x4)] := hl
  refine lv_aload_n hx hb dX2_tellLeast_0 rfl (lv_at hl 0 rfl) ?_
  refine lv_lload_n hx hb dX2_tellLeast_1 rfl (lv_at hl 1 rfl) ?_
  refine lv_lload_n hx hb dX2_tellLeast_2 rfl (lv_at hl 2 rfl) ?_
  refine va_mmin_long hx hb (hml.trans hl.1.symm) hown (hts (.methodLink RX2 63 Lib.MathLoose.min_long.x) (by decide +kernel)) (hts (.static Lib.MathLoose.min_long.x) (by decide +kernel)) (hts (.initialized "java/lang/Math") (by decide +kernel)) (hts (.code Lib.MathLoose.min_long.x Lib.MathLoose.min_long.code 4 (some .long)) (by decide +kernel)) (Nat.le_of_ble_eq_true rfl) (Nat.le_of_ble_eq_true rfl) (Nat.le_of_ble_eq_true rfl) (Nat.le_of_ble_eq_true rfl) dX2_tellLeast_3 ?_
  refine W.eq (g2 := F0 m 6 ls [.long (rr_mn x1 x2), .ref h0]) rfl ?_
  refine lv_lload hx hb dX2_tellLeast_6 (lv_at hl 3 rfl) ?_
  refine lv_lload hx hb dX2_tellLeast_8 (lv_at hl 4 rfl) ?_
  refine va_mmin_long hx hb (hml.trans hl.1.symm) hown (hts (.methodLink RX2 63 Lib.MathLoose.min_long.x) (by decide +kernel)) (hts (.static Lib.MathLoose.min_long.x) (by decide +kernel)) (hts (.initialized "java/lang/Math") (by decide +kernel)) (hts (.code Lib.MathLoose.min_long.x Lib.MathLoose.min_long.code 4 (some .long)) (by decide +kernel)) (Nat.le_of_ble_eq_true rfl) (Nat.le_of_ble_eq_true rfl) (Nat.le_of_ble_eq_true rfl) (Nat.le_of_ble_eq_true rfl) dX2_tellLeast_10 ?_
  refine W.eq (g2 := F0 m 13 ls [.long (rr_mn x3 x4), .long (rr_mn x1 x2), .ref h0]) rfl ?_
  refine va_mmin_long hx hb (hml.trans hl.1.symm) hown (hts (.methodLink RX2 63 Lib.MathLoose.min_long.x) (by decide +kernel)) (hts (.static Lib.MathLoose.min_long.x) (by decide +kernel)) (hts (.initialized "java/lang/Math") (by decide +kernel)) (hts (.code Lib.MathLoose.min_long.x Lib.MathLoose.min_long.code 4 (some .long)) (by decide +kernel)) (Nat.le_of_ble_eq_true rfl) (Nat.le_of_ble_eq_true rfl) (Nat.le_of_ble_eq_true rfl) (Nat.le_of_ble_eq_true rfl) dX2_tellLeast_13 ?_
  refine W.eq (g2 := F0 m 16 ls [.long (rr_mn (rr_mn x1 x2) (rr_mn x3 x4)), .ref h0]) rfl ?_
  refine lv_lload_n hx hb dX2_tellLeast_16 rfl (lv_at hl 1 rfl) ?_
  refine lv_lload_n hx hb dX2_tellLeast_17 rfl (lv_at hl 2 rfl) ?_
  refine va_mmax_long hx hb (hml.trans hl.1.symm) hown (hts (.methodLink RX2 66 Lib.MathLoose.max_long.x) (by decide +kernel)) (hts (.static Lib.MathLoose.max_long.x) (by decide +kernel)) (hts (.initialized "java/lang/Math") (by decide +kernel)) (hts (.code Lib.MathLoose.max_long.x Lib.MathLoose.max_long.code 4 (some .long)) (by decide +kernel)) (Nat.le_of_ble_eq_true rfl) (Nat.le_of_ble_eq_true rfl) (Nat.le_of_ble_eq_true rfl) (Nat.le_of_ble_eq_true rfl) dX2_tellLeast_18 ?_
  refine W.eq (g2 := F0 m 21 ls [.long (rr_mx x1 x2), .long (rr_mn (rr_mn x1 x2) (rr_mn x3 x4)), .ref h0]) rfl ?_
  refine lv_lload hx hb dX2_tellLeast_21 (lv_at hl 3 rfl) ?_
  refine lv_lload hx hb dX2_tellLeast_23 (lv_at hl 4 rfl) ?_
  refine va_mmax_long hx hb (hml.trans hl.1.symm) hown (hts (.methodLink RX2 66 Lib.MathLoose.max_long.x) (by decide +kernel)) (hts (.static Lib.MathLoose.max_long.x) (by decide +kernel)) (hts (.initialized "java/lang/Math") (by decide +kernel)) (hts (.code Lib.MathLoose.max_long.x Lib.MathLoose.max_long.code 4 (some .long)) (by decide +kernel)) (Nat.le_of_ble_eq_true rfl) (Nat.le_of_ble_eq_true rfl) (Nat.le_of_ble_eq_true rfl) (Nat.le_of_ble_eq_true rfl) dX2_tellLeast_25 ?_
  refine W.eq (g2 := F0 m 28 ls [.long (rr_mx x3 x4), .long (rr_mx x1 x2), .long (rr_mn (rr_mn x1 x2) (rr_mn x3 x4)), .ref h0]) rfl ?_
  refine va_mmax_long hx hb (hml.trans hl.1.symm) hown (hts (.methodLink RX2 66 Lib.MathLoose.max_long.x) (by decide +kernel)) (hts (.static Lib.MathLoose.max_long.x) (by decide +kernel)) (hts (.initialized "java/lang/Math") (by decide +kernel)) (hts (.code Lib.MathLoose.max_long.x Lib.MathLoose.max_long.code 4 (some .long)) (by decide +kernel)) (Nat.le_of_ble_eq_true rfl) (Nat.le_of_ble_eq_true rfl) (Nat.le_of_ble_eq_true rfl) (Nat.le_of_ble_eq_true rfl) dX2_tellLeast_28 ?_
  refine W.eq (g2 := F0 m 31 ls [.long (rr_mx (rr_mx x1 x2) (rr_mx x3 x4)), .long (rr_mn (rr_mn x1 x2) (rr_mn x3 x4)), .ref h0]) rfl ?_
  refine rr_wi (wr := []) [0, 1] [] (va_runV (As := [.long (rr_mn (rr_mn x1 x2) (rr_mn x3 x4)), .long (rr_mx (rr_mx x1 x2) (rr_mx x3 x4))]) (rest := []) ⟨hx, hb, hml, hown, hts⟩ (c_X2_tell l D h0 qT s.heap.size cA f n t lo hi (rr_mn (rr_mn x1 x2) (rr_mn x3 x4)) (rr_mx (rr_mx x1 x2) (rr_mx x3 x4)) hn (rr_le2 _ _ _ _)) (cwV 2 hts gX2_tellLeast_X2_tell rfl rfl rfl (by decide +kernel) ⟨Nat.le_of_ble_eq_true rfl, Nat.le_of_ble_eq_true rfl⟩) (rr_vW hK hP hD (va_recv hK hP (ci := 2) (q0 := 0) rfl rfl)) rfl rfl hl.1 rfl (lv_room (Nat.le_of_ble_eq_true rfl)) dX2_tellLeast_31 ⟨Nat.le_of_ble_eq_true rfl, Nat.le_of_ble_eq_true rfl⟩) hS hA hP hD rfl rfl (by decide) (by decide) (by decide) (fun _ => by simp only [rr_wx, rr_wm, List.map_cons, List.map_nil]) (fun r31 u31 H locs e31 hP hD hS => ?_)
  have hP : va_P D vwCl [(h0, .inr (2, [.ref qT, .int (nI n), .int (nI t), .int ((rr_tl f n (rr_mn (rr_mn x1 x2) (rr_mn x3 x4)) (rr_mx (rr_mx x1 x2) (rr_mx x3 x4))).1), .int ((rr_tl f n (rr_mn (rr_mn x1 x2) (rr_mn x3 x4)) (rr_mx (rr_mx x1 x2) (rr_mx x3 x4))).2)])), (qT, .inl (cA, 187, .inl f))] H := hP
  have hD : va_D A [(h0, .inr (2, [.ref qT, .int (nI n), .int (nI t), .int ((rr_tl f n (rr_mn (rr_mn x1 x2) (rr_mn x3 x4)) (rr_mx (rr_mx x1 x2) (rr_mx x3 x4))).1), .int ((rr_tl f n (rr_mn (rr_mn x1 x2) (rr_mn x3 x4)) (rr_mx (rr_mx x1 x2) (rr_mx x3 x4))).2)])), (qT, .inl (cA, 187, .inl f))] := hD
  subst e31
  exact W.iret (v := 1) hx hb hr (fun tt ht hW => ⟨⟨_, (), rfl, rfl, by dsimp only; rw [ht]; exact hP⟩, hS.F ht⟩) hS.2.2 dX2_tellLeast_34
set_option maxHeartbeats 1000000 in
set_option maxRecDepth 100000 in
/-- negate(x, y) -/
theorem c_X2_negate (l : Launch) (D : va_G) (h0 qT sz : Nat) (cA : ClassId) (f : Nat → Int32) (n t : Nat) (lo hi : Int32) (x1 x2 : Int32) (hn : n ≤ 187) (hk : rr_ok f n) : Met l yX2_negate wsX2_negate ({ frames := 3, cells := 0, slots := 0, locals := 68 }) (rr_pW D (rr_wm h0 qT cA f n t lo hi) [(cA, .int)] [.ref h0, .int x1, .int x2] sz) (va_Qi (fun r (_ : Unit) => r = (rr_ng f n lo hi x1 x2).1) (fun _ tt => va_P D vwCl (rr_wm h0 qT cA f n t (rr_ng f n lo hi x1 x2).2.1 (rr_ng f n lo hi x1 x2).2.2) tt.heap) (va_A (rr_wm h0 qT cA f n t lo hi) sz)) 0 0 (va_A (rr_wm h0 qT cA f n t lo hi) sz) := by
  refine Met.ofW (cc := cX2_negate) (maxL := 4) (ret := (some .boolean)) (by decide) rfl ?_
  intro p e s m args below meth c s₁ B hml hv
  obtain ⟨rfl, hsz, hP, hK, hD0⟩ := hv
  have hx := B.exec
  have hb := B.bytes
  have hr := B.returns
  have hts := atoms_spec (ws := wsX2_negate) B.pre
  have hown : s.vm.findClass RX2 = some m.cls := findClass_of_methodNamed B.named
  have hlocks := B.notSynchronized
  subst hsz
  have hD := hD0.self (sz := s.heap.size)
  generalize hAe : va_A [(h0, .inr (2, [.ref qT, .int (nI n), .int (nI t), .int lo, .int hi])), (qT, .inl (cA, 187, .inl f))] s.heap.size = A at hD ⊢
  have hA : ∀ q : Nat, s.heap.size ≤ q → A q := fun q h => by rw [← hAe]; exact Or.inr h
  have hS : va_S A s.heap s.heap [] := va_S.rf
  have hP : va_P D vwCl [(h0, .inr (2, [.ref qT, .int (nI n), .int (nI t), .int lo, .int hi])), (qT, .inl (cA, 187, .inl f))] s.heap := hP
  have hiX2 : ∀ w ∈ wsX20, w ∈ wsX2_negate := by decide +kernel
  have hl := lv_entry ([.ref h0, .int x1, .int x2]) (n := 4) (Nat.le_of_ble_eq_true rfl)
  rw [lg_entry_eq]
  generalize (lg_sl ([.ref h0, .int x1, .int x2]) ++ List.replicate (4 - (lg_sl ([.ref h0, .int x1, .int x2])).length) Slot.unset).toArray = ls at hl ⊢
  have hl : lv_has ls 4 [(0, .ref h0), (1, .int x1), (2, .int x2)] := hl
  refine lv_aload_n hx hb dX2_negate_0 rfl (lv_at hl 0 rfl) ?_
  refine lv_iload_n hx hb dX2_negate_1 rfl (lv_at hl 1 rfl) ?_
  refine lv_iload_n hx hb dX2_negate_2 rfl (lv_at hl 2 rfl) ?_
  refine rr_ri (va_runV (As := [.int x1, .int x2]) (rest := []) ⟨hx, hb, hml, hown, hts⟩ (c_X2_isRange l D h0 qT s.heap.size cA f n t lo hi x1 x2 hn hk) (cwV 2 hts gX2_negate_X2_isRange rfl rfl rfl (by decide +kernel) ⟨Nat.le_of_ble_eq_true rfl, Nat.le_of_ble_eq_true rfl⟩) (rr_vR hK hP (va_recv hK hP (ci := 2) (q0 := 0) rfl rfl)) rfl rfl hl.1 rfl (lv_room (Nat.le_of_ble_eq_true rfl)) dX2_negate_3 ⟨Nat.le_of_ble_eq_true rfl, Nat.le_of_ble_eq_true rfl⟩) hS hA hP (fun r3 H locs e3 hP hS => ?_)
  by_cases b3 : rr_rg f n x1 x2 = true
  · rw [if_pos b3] at e3
    subst e3
    refine lv_if_ne (tgt := 11) hx hb dX2_negate_6 (by decide) (fun c6 => ?_) (fun c6 => ?_)
    · skip
      refine lv_aload_n hx hb dX2_negate_11 rfl (lv_at hl 0 rfl) ?_
      refine lv_iload_n hx hb dX2_negate_12 rfl (lv_at hl 2 rfl) ?_
      refine lv_i2l (v := x2.toInt64) hx hb dX2_negate_13 rfl ?_
      refine lv_lneg hx hb dX2_negate_14 ?_
      refine lv_iload_n hx hb dX2_negate_15 rfl (lv_at hl 1 rfl) ?_
      refine lv_i2l (v := x1.toInt64) hx hb dX2_negate_16 rfl ?_
      refine lv_lneg hx hb dX2_negate_17 ?_
      refine rr_wi (wr := []) [0, 1] [] (va_runV (As := [.long (-x2.toInt64), .long (-x1.toInt64)]) (rest := []) ⟨hx, hb, hml, hown, hts⟩ (c_X2_tell l D h0 qT H.size cA f n t lo hi (-x2.toInt64) (-x1.toInt64) hn (rr_leN (rr_rg_iff.mp b3).1)) (cwV 2 hts gX2_negate_X2_tell rfl rfl rfl (by decide +kernel) ⟨Nat.le_of_ble_eq_true rfl, Nat.le_of_ble_eq_true rfl⟩) (rr_vW hK hP hD (va_recv hK hP (ci := 2) (q0 := 0) rfl rfl)) rfl rfl hl.1 rfl (lv_room (Nat.le_of_ble_eq_true rfl)) dX2_negate_18 ⟨Nat.le_of_ble_eq_true rfl, Nat.le_of_ble_eq_true rfl⟩) hS hA hP hD rfl rfl (by decide) (by decide) (by decide) (fun _ => by simp only [rr_wx, rr_wm, List.map_cons, List.map_nil]) (fun r18 u18 H locs e18 hP hD hS => ?_)
      have hP : va_P D vwCl [(h0, .inr (2, [.ref qT, .int (nI n), .int (nI t), .int ((rr_tl f n (-x2.toInt64) (-x1.toInt64)).1), .int ((rr_tl f n (-x2.toInt64) (-x1.toInt64)).2)])), (qT, .inl (cA, 187, .inl f))] H := hP
      have hD : va_D A [(h0, .inr (2, [.ref qT, .int (nI n), .int (nI t), .int ((rr_tl f n (-x2.toInt64) (-x1.toInt64)).1), .int ((rr_tl f n (-x2.toInt64) (-x1.toInt64)).2)])), (qT, .inl (cA, 187, .inl f))] := hD
      subst e18
      refine lv_istore_n (lv' := [(3, .int 1), (0, .ref h0), (1, .int x1), (2, .int x2)]) hx hb dX2_negate_21 rfl hl (by decide) rfl (fun ls hl => ?_)
      refine lv_iload_n hx hb dX2_negate_22 rfl (lv_at hl 0 rfl) ?_
      refine lv_iconst (v := 1) hx hb dX2_negate_23 (by decide) ?_
      refine lv_icmp_ne (tgt := 31) hx hb dX2_negate_24 (by decide) (fun c24 => ?_) (fun c24 => ?_)
      · skip
        exact absurd c24 (by decide)
      · skip
        refine lv_iconst (v := 1) hx hb dX2_negate_27 (by decide) ?_
        refine lv_goto (tgt := 32) hx hb dX2_negate_28 (by decide) ?_
        have ee : (rr_ng f n lo hi x1 x2) = (1, rr_tl f n (-x2.toInt64) (-x1.toInt64)) := if_pos b3
        exact W.zret (v := 1) hx hb hr rfl (fun tt ht hW => ⟨⟨_, (), rfl, by rw [ee], by dsimp only; rw [ht, ee]; exact hP⟩, hS.F ht⟩) hS.2.2 dX2_negate_32
    · skip
      exact absurd c6 (by decide)
  · rw [if_neg b3] at e3
    subst e3
    refine lv_if_ne (tgt := 11) hx hb dX2_negate_6 (by decide) (fun c6 => ?_) (fun c6 => ?_)
    · skip
      exact absurd c6 (by decide)
    · skip
      refine lv_iconst (v := 0) hx hb dX2_negate_9 (by decide) ?_
      have ee : (rr_ng f n lo hi x1 x2) = (0, lo, hi) := if_neg b3
      exact W.zret (v := 0) hx hb hr rfl (fun tt ht hW => ⟨⟨_, (), rfl, by rw [ee], by dsimp only; rw [ht, ee]; exact hP⟩, hS.F ht⟩) hS.2.2 dX2_negate_10
set_option maxHeartbeats 1000000 in
set_option maxRecDepth 100000 in
/-- rest -/
theorem c_X2_rest (l : Launch) (D : va_G) (h0 qT sz : Nat) (cA : ClassId) (f : Nat → Int32) (n t : Nat) (lo hi : Int32) (x1 x2 x3 x4 : Int32) (hn : n ≤ 187) (hlh : x1 ≤ x2) : Met l yX2_rest wsX2_rest ({ frames := 3, cells := 0, slots := 0, locals := 68 }) (rr_pW D (rr_wm h0 qT cA f n t lo hi) [(cA, .int)] [.ref h0, .int x1, .int x2, .long x3.toInt64, .long x4.toInt64] sz) (va_Qi (fun r (_ : Unit) => r = (if x3 = 0 ∧ x4 = 0 then ((0 : Int32), lo, hi) else ((1 : Int32), rr_tl f n (rr_rs x1.toInt64 x2.toInt64 x3.toInt64 x4.toInt64).1 (rr_rs x1.toInt64 x2.toInt64 x3.toInt64 x4.toInt64).2)).1) (fun _ tt => va_P D vwCl (rr_wm h0 qT cA f n t (if x3 = 0 ∧ x4 = 0 then ((0 : Int32), lo, hi) else ((1 : Int32), rr_tl f n (rr_rs x1.toInt64 x2.toInt64 x3.toInt64 x4.toInt64).1 (rr_rs x1.toInt64 x2.toInt64 x3.toInt64 x4.toInt64).2)).2.1 (if x3 = 0 ∧ x4 = 0 then ((0 : Int32), lo, hi) else ((1 : Int32), rr_tl f n (rr_rs x1.toInt64 x2.toInt64 x3.toInt64 x4.toInt64).1 (rr_rs x1.toInt64 x2.toInt64 x3.toInt64 x4.toInt64).2)).2.2) tt.heap) (va_A (rr_wm h0 qT cA f n t lo hi) sz)) 0 0 (va_A (rr_wm h0 qT cA f n t lo hi) sz) := by
  refine Met.ofW (cc := cX2_rest) (maxL := 9) (ret := (some .int)) (by decide) rfl ?_
  intro p e s m args below meth c s₁ B hml hv
  obtain ⟨rfl, hsz, hP, hK, hD0⟩ := hv
  have hx := B.exec
  have hb := B.bytes
  have hr := B.returns
  have hts := atoms_spec (ws := wsX2_rest) B.pre
  have hown : s.vm.findClass RX2 = some m.cls := findClass_of_methodNamed B.named
  have hlocks := B.notSynchronized
  subst hsz
  have hD := hD0.self (sz := s.heap.size)
  generalize hAe : va_A [(h0, .inr (2, [.ref qT, .int (nI n), .int (nI t), .int lo, .int hi])), (qT, .inl (cA, 187, .inl f))] s.heap.size = A at hD ⊢
  have hA : ∀ q : Nat, s.heap.size ≤ q → A q := fun q h => by rw [← hAe]; exact Or.inr h
  have hS : va_S A s.heap s.heap [] := va_S.rf
  have hP : va_P D vwCl [(h0, .inr (2, [.ref qT, .int (nI n), .int (nI t), .int lo, .int hi])), (qT, .inl (cA, 187, .inl f))] s.heap := hP
  have hiX2 : ∀ w ∈ wsX20, w ∈ wsX2_rest := by decide +kernel
  have hl := lv_entry ([.ref h0, .int x1, .int x2, .long x3.toInt64, .long x4.toInt64]) (n := 9) (Nat.le_of_ble_eq_true rfl)
  rw [lg_entry_eq]
  generalize (lg_sl ([.ref h0, .int x1, .int x2, .long x3.toInt64, .long x4.toInt64]) ++ List.replicate (9 - (lg_sl ([.ref h0, .int x1, .int x2, .long x3.toInt64, .long x4.toInt64])).length) Slot.unset).toArray = ls at hl ⊢
  have hl : lv_has ls 9 [(0, .ref h0), (1, .int x1), (2, .int x2), (3, .long x3.toInt64), (5, .long x4.toInt64)] := hl
  refine lv_lload_n hx hb dX2_rest_0 rfl (lv_at hl 3 rfl) ?_
  refine lv_lconst (v := 0) hx hb dX2_rest_1 (by decide) ?_
  refine W.lcmp hx hb dX2_rest_2 ?_
  refine lv_if_ne (tgt := 15) hx hb dX2_rest_3 (by decide) (fun c3 => ?_) (fun c3 => ?_)
  · skip
    have hz : ¬ (x3 = 0 ∧ x4 = 0) := (fun z => c3 ((lg_cmp_eq _ _).mpr (rr_z64.mpr z.1)))
    refine lv_lload_n hx hb dX2_rest_15 rfl (lv_at hl 3 rfl) ?_
    refine va_mabs_long hx hb (hml.trans hl.1.symm) hown (hts (.methodLink RX2 100 Lib.MathLoose.abs_long.x) (by decide +kernel)) (hts (.static Lib.MathLoose.abs_long.x) (by decide +kernel)) (hts (.initialized "java/lang/Math") (by decide +kernel)) (hts (.code Lib.MathLoose.abs_long.x Lib.MathLoose.abs_long.code 2 (some .long)) (by decide +kernel)) (Nat.le_of_ble_eq_true rfl) (Nat.le_of_ble_eq_true rfl) (Nat.le_of_ble_eq_true rfl) (Nat.le_of_ble_eq_true rfl) dX2_rest_16 ?_
    refine W.eq (g2 := F0 m 19 ls [.long (rr_ab x3.toInt64)]) rfl ?_
    refine lv_lload hx hb dX2_rest_19 (lv_at hl 4 rfl) ?_
    refine va_mabs_long hx hb (hml.trans hl.1.symm) hown (hts (.methodLink RX2 100 Lib.MathLoose.abs_long.x) (by decide +kernel)) (hts (.static Lib.MathLoose.abs_long.x) (by decide +kernel)) (hts (.initialized "java/lang/Math") (by decide +kernel)) (hts (.code Lib.MathLoose.abs_long.x Lib.MathLoose.abs_long.code 2 (some .long)) (by decide +kernel)) (Nat.le_of_ble_eq_true rfl) (Nat.le_of_ble_eq_true rfl) (Nat.le_of_ble_eq_true rfl) (Nat.le_of_ble_eq_true rfl) dX2_rest_21 ?_
    refine W.eq (g2 := F0 m 24 ls [.long (rr_ab x4.toInt64), .long (rr_ab x3.toInt64)]) rfl ?_
    refine va_mmax_long hx hb (hml.trans hl.1.symm) hown (hts (.methodLink RX2 66 Lib.MathLoose.max_long.x) (by decide +kernel)) (hts (.static Lib.MathLoose.max_long.x) (by decide +kernel)) (hts (.initialized "java/lang/Math") (by decide +kernel)) (hts (.code Lib.MathLoose.max_long.x Lib.MathLoose.max_long.code 4 (some .long)) (by decide +kernel)) (Nat.le_of_ble_eq_true rfl) (Nat.le_of_ble_eq_true rfl) (Nat.le_of_ble_eq_true rfl) (Nat.le_of_ble_eq_true rfl) dX2_rest_24 ?_
    refine W.eq (g2 := F0 m 27 ls [.long (rr_mx (rr_ab x3.toInt64) (rr_ab x4.toInt64))]) rfl ?_
    refine lv_lconst (v := 1) hx hb dX2_rest_27 (by decide) ?_
    refine lv_lsub hx hb dX2_rest_28 ?_
    refine lv_lstore (lv' := [(7, .long ((rr_mx (rr_ab x3.toInt64) (rr_ab x4.toInt64)) - 1)), (0, .ref h0), (1, .int x1), (2, .int x2), (3, .long x3.toInt64), (5, .long x4.toInt64)]) hx hb dX2_rest_29 hl (by decide) rfl (fun ls hl => ?_)
    refine lv_iload_n hx hb dX2_rest_31 rfl (lv_at hl 2 rfl) ?_
    refine lv_if_lt (tgt := 48) hx hb dX2_rest_32 (by decide) (fun c32 => ?_) (fun c32 => ?_)
    · skip
      refine lv_aload_n hx hb dX2_rest_48 rfl (lv_at hl 1 rfl) ?_
      refine lv_iload_n hx hb dX2_rest_49 rfl (lv_at hl 2 rfl) ?_
      refine lv_i2l (v := x1.toInt64) hx hb dX2_rest_50 rfl ?_
      refine lv_lload hx hb dX2_rest_51 (lv_at hl 0 rfl) ?_
      refine lv_lneg hx hb dX2_rest_53 ?_
      refine va_mmax_long hx hb (hml.trans hl.1.symm) hown (hts (.methodLink RX2 66 Lib.MathLoose.max_long.x) (by decide +kernel)) (hts (.static Lib.MathLoose.max_long.x) (by decide +kernel)) (hts (.initialized "java/lang/Math") (by decide +kernel)) (hts (.code Lib.MathLoose.max_long.x Lib.MathLoose.max_long.code 4 (some .long)) (by decide +kernel)) (Nat.le_of_ble_eq_true rfl) (Nat.le_of_ble_eq_true rfl) (Nat.le_of_ble_eq_true rfl) (Nat.le_of_ble_eq_true rfl) dX2_rest_54 ?_
      refine W.eq (g2 := F0 m 57 ls [.long (rr_mx x1.toInt64 (-((rr_mx (rr_ab x3.toInt64) (rr_ab x4.toInt64)) - 1))), .ref h0]) rfl ?_
      refine lv_iload_n hx hb dX2_rest_57 rfl (lv_at hl 3 rfl) ?_
      refine lv_if_gt (tgt := 65) hx hb dX2_rest_58 (by decide) (fun c58 => ?_) (fun c58 => ?_)
      · skip
        refine lv_iload_n hx hb dX2_rest_65 rfl (lv_at hl 3 rfl) ?_
        refine lv_i2l (v := x2.toInt64) hx hb dX2_rest_66 rfl ?_
        refine lv_lload hx hb dX2_rest_67 (lv_at hl 0 rfl) ?_
        refine va_mmin_long hx hb (hml.trans hl.1.symm) hown (hts (.methodLink RX2 63 Lib.MathLoose.min_long.x) (by decide +kernel)) (hts (.static Lib.MathLoose.min_long.x) (by decide +kernel)) (hts (.initialized "java/lang/Math") (by decide +kernel)) (hts (.code Lib.MathLoose.min_long.x Lib.MathLoose.min_long.code 4 (some .long)) (by decide +kernel)) (Nat.le_of_ble_eq_true rfl) (Nat.le_of_ble_eq_true rfl) (Nat.le_of_ble_eq_true rfl) (Nat.le_of_ble_eq_true rfl) dX2_rest_69 ?_
        refine W.eq (g2 := F0 m 72 ls [.long (rr_mn x2.toInt64 ((rr_mx (rr_ab x3.toInt64) (rr_ab x4.toInt64)) - 1)), .long (rr_mx x1.toInt64 (-((rr_mx (rr_ab x3.toInt64) (rr_ab x4.toInt64)) - 1))), .ref h0]) rfl ?_
        have er : (rr_rs x1.toInt64 x2.toInt64 x3.toInt64 x4.toInt64) = (rr_mx x1.toInt64 (-(rr_mx (rr_ab x3.toInt64) (rr_ab x4.toInt64) - 1)), rr_mn x2.toInt64 (rr_mx (rr_ab x3.toInt64) (rr_ab x4.toInt64) - 1)) := (if_neg (fun z => rr_ge64.mp z c32)).trans (if_neg (fun z => rr_le64.mp z c58))
        have hz2 := rr_le4 hlh hz
        rw [er] at hz2
        refine rr_wi (wr := []) [0, 1] [] (va_runV (As := [.long (rr_mx x1.toInt64 (-((rr_mx (rr_ab x3.toInt64) (rr_ab x4.toInt64)) - 1))), .long (rr_mn x2.toInt64 ((rr_mx (rr_ab x3.toInt64) (rr_ab x4.toInt64)) - 1))]) (rest := []) ⟨hx, hb, hml, hown, hts⟩ (c_X2_tell l D h0 qT s.heap.size cA f n t lo hi (rr_mx x1.toInt64 (-((rr_mx (rr_ab x3.toInt64) (rr_ab x4.toInt64)) - 1))) (rr_mn x2.toInt64 ((rr_mx (rr_ab x3.toInt64) (rr_ab x4.toInt64)) - 1)) hn hz2) (cwV 2 hts gX2_rest_X2_tell rfl rfl rfl (by decide +kernel) ⟨Nat.le_of_ble_eq_true rfl, Nat.le_of_ble_eq_true rfl⟩) (rr_vW hK hP hD (va_recv hK hP (ci := 2) (q0 := 0) rfl rfl)) rfl rfl hl.1 rfl (lv_room (Nat.le_of_ble_eq_true rfl)) dX2_rest_72 ⟨Nat.le_of_ble_eq_true rfl, Nat.le_of_ble_eq_true rfl⟩) hS hA hP hD rfl rfl (by decide) (by decide) (by decide) (fun _ => by simp only [rr_wx, rr_wm, List.map_cons, List.map_nil]) (fun r72 u72 H locs e72 hP hD hS => ?_)
        have hP : va_P D vwCl [(h0, .inr (2, [.ref qT, .int (nI n), .int (nI t), .int ((rr_tl f n (rr_mx x1.toInt64 (-((rr_mx (rr_ab x3.toInt64) (rr_ab x4.toInt64)) - 1))) (rr_mn x2.toInt64 ((rr_mx (rr_ab x3.toInt64) (rr_ab x4.toInt64)) - 1))).1), .int ((rr_tl f n (rr_mx x1.toInt64 (-((rr_mx (rr_ab x3.toInt64) (rr_ab x4.toInt64)) - 1))) (rr_mn x2.toInt64 ((rr_mx (rr_ab x3.toInt64) (rr_ab x4.toInt64)) - 1))).2)])), (qT, .inl (cA, 187, .inl f))] H := hP
        have hD : va_D A [(h0, .inr (2, [.ref qT, .int (nI n), .int (nI t), .int ((rr_tl f n (rr_mx x1.toInt64 (-((rr_mx (rr_ab x3.toInt64) (rr_ab x4.toInt64)) - 1))) (rr_mn x2.toInt64 ((rr_mx (rr_ab x3.toInt64) (rr_ab x4.toInt64)) - 1))).1), .int ((rr_tl f n (rr_mx x1.toInt64 (-((rr_mx (rr_ab x3.toInt64) (rr_ab x4.toInt64)) - 1))) (rr_mn x2.toInt64 ((rr_mx (rr_ab x3.toInt64) (rr_ab x4.toInt64)) - 1))).2)])), (qT, .inl (cA, 187, .inl f))] := hD
        subst e72
        have ee : (if x3 = 0 ∧ x4 = 0 then ((0 : Int32), lo, hi) else ((1 : Int32), rr_tl f n (rr_rs x1.toInt64 x2.toInt64 x3.toInt64 x4.toInt64).1 (rr_rs x1.toInt64 x2.toInt64 x3.toInt64 x4.toInt64).2)) = ((1 : Int32), rr_tl f n (rr_rs x1.toInt64 x2.toInt64 x3.toInt64 x4.toInt64).1 (rr_rs x1.toInt64 x2.toInt64 x3.toInt64 x4.toInt64).2) := if_neg hz
        rw [er] at ee
        exact W.iret (v := 1) hx hb hr (fun tt ht hW => ⟨⟨_, (), rfl, by rw [er, ee], by dsimp only; rw [ht, er, ee]; exact hP⟩, hS.F ht⟩) hS.2.2 dX2_rest_75
      · skip
        refine lv_lconst (v := 0) hx hb dX2_rest_61 (by decide) ?_
        refine lv_goto (tgt := 72) hx hb dX2_rest_62 (by decide) ?_
        have er : (rr_rs x1.toInt64 x2.toInt64 x3.toInt64 x4.toInt64) = (rr_mx x1.toInt64 (-(rr_mx (rr_ab x3.toInt64) (rr_ab x4.toInt64) - 1)), 0) := (if_neg (fun z => rr_ge64.mp z c32)).trans (if_pos (rr_le64.mpr c58))
        have hz2 := rr_le4 hlh hz
        rw [er] at hz2
        refine rr_wi (wr := []) [0, 1] [] (va_runV (As := [.long (rr_mx x1.toInt64 (-((rr_mx (rr_ab x3.toInt64) (rr_ab x4.toInt64)) - 1))), .long 0]) (rest := []) ⟨hx, hb, hml, hown, hts⟩ (c_X2_tell l D h0 qT s.heap.size cA f n t lo hi (rr_mx x1.toInt64 (-((rr_mx (rr_ab x3.toInt64) (rr_ab x4.toInt64)) - 1))) 0 hn hz2) (cwV 2 hts gX2_rest_X2_tell rfl rfl rfl (by decide +kernel) ⟨Nat.le_of_ble_eq_true rfl, Nat.le_of_ble_eq_true rfl⟩) (rr_vW hK hP hD (va_recv hK hP (ci := 2) (q0 := 0) rfl rfl)) rfl rfl hl.1 rfl (lv_room (Nat.le_of_ble_eq_true rfl)) dX2_rest_72 ⟨Nat.le_of_ble_eq_true rfl, Nat.le_of_ble_eq_true rfl⟩) hS hA hP hD rfl rfl (by decide) (by decide) (by decide) (fun _ => by simp only [rr_wx, rr_wm, List.map_cons, List.map_nil]) (fun r72 u72 H locs e72 hP hD hS => ?_)
        have hP : va_P D vwCl [(h0, .inr (2, [.ref qT, .int (nI n), .int (nI t), .int ((rr_tl f n (rr_mx x1.toInt64 (-((rr_mx (rr_ab x3.toInt64) (rr_ab x4.toInt64)) - 1))) 0).1), .int ((rr_tl f n (rr_mx x1.toInt64 (-((rr_mx (rr_ab x3.toInt64) (rr_ab x4.toInt64)) - 1))) 0).2)])), (qT, .inl (cA, 187, .inl f))] H := hP
        have hD : va_D A [(h0, .inr (2, [.ref qT, .int (nI n), .int (nI t), .int ((rr_tl f n (rr_mx x1.toInt64 (-((rr_mx (rr_ab x3.toInt64) (rr_ab x4.toInt64)) - 1))) 0).1), .int ((rr_tl f n (rr_mx x1.toInt64 (-((rr_mx (rr_ab x3.toInt64) (rr_ab x4.toInt64)) - 1))) 0).2)])), (qT, .inl (cA, 187, .inl f))] := hD
        subst e72
        have ee : (if x3 = 0 ∧ x4 = 0 then ((0 : Int32), lo, hi) else ((1 : Int32), rr_tl f n (rr_rs x1.toInt64 x2.toInt64 x3.toInt64 x4.toInt64).1 (rr_rs x1.toInt64 x2.toInt64 x3.toInt64 x4.toInt64).2)) = ((1 : Int32), rr_tl f n (rr_rs x1.toInt64 x2.toInt64 x3.toInt64 x4.toInt64).1 (rr_rs x1.toInt64 x2.toInt64 x3.toInt64 x4.toInt64).2) := if_neg hz
        rw [er] at ee
        exact W.iret (v := 1) hx hb hr (fun tt ht hW => ⟨⟨_, (), rfl, by rw [er, ee], by dsimp only; rw [ht, er, ee]; exact hP⟩, hS.F ht⟩) hS.2.2 dX2_rest_75
    · skip
      refine lv_aload_n hx hb dX2_rest_35 rfl (lv_at hl 1 rfl) ?_
      refine lv_lconst (v := 0) hx hb dX2_rest_36 (by decide) ?_
      refine lv_iload_n hx hb dX2_rest_37 rfl (lv_at hl 3 rfl) ?_
      refine lv_i2l (v := x2.toInt64) hx hb dX2_rest_38 rfl ?_
      refine lv_lload hx hb dX2_rest_39 (lv_at hl 0 rfl) ?_
      refine va_mmin_long hx hb (hml.trans hl.1.symm) hown (hts (.methodLink RX2 63 Lib.MathLoose.min_long.x) (by decide +kernel)) (hts (.static Lib.MathLoose.min_long.x) (by decide +kernel)) (hts (.initialized "java/lang/Math") (by decide +kernel)) (hts (.code Lib.MathLoose.min_long.x Lib.MathLoose.min_long.code 4 (some .long)) (by decide +kernel)) (Nat.le_of_ble_eq_true rfl) (Nat.le_of_ble_eq_true rfl) (Nat.le_of_ble_eq_true rfl) (Nat.le_of_ble_eq_true rfl) dX2_rest_41 ?_
      refine W.eq (g2 := F0 m 44 ls [.long (rr_mn x2.toInt64 ((rr_mx (rr_ab x3.toInt64) (rr_ab x4.toInt64)) - 1)), .long 0, .ref h0]) rfl ?_
      have er : (rr_rs x1.toInt64 x2.toInt64 x3.toInt64 x4.toInt64) = (0, rr_mn x2.toInt64 (rr_mx (rr_ab x3.toInt64) (rr_ab x4.toInt64) - 1)) := if_pos (rr_ge64.mpr c32)
      have hz2 := rr_le4 hlh hz
      rw [er] at hz2
      refine rr_wi (wr := []) [0, 1] [] (va_runV (As := [.long 0, .long (rr_mn x2.toInt64 ((rr_mx (rr_ab x3.toInt64) (rr_ab x4.toInt64)) - 1))]) (rest := []) ⟨hx, hb, hml, hown, hts⟩ (c_X2_tell l D h0 qT s.heap.size cA f n t lo hi 0 (rr_mn x2.toInt64 ((rr_mx (rr_ab x3.toInt64) (rr_ab x4.toInt64)) - 1)) hn hz2) (cwV 2 hts gX2_rest_X2_tell rfl rfl rfl (by decide +kernel) ⟨Nat.le_of_ble_eq_true rfl, Nat.le_of_ble_eq_true rfl⟩) (rr_vW hK hP hD (va_recv hK hP (ci := 2) (q0 := 0) rfl rfl)) rfl rfl hl.1 rfl (lv_room (Nat.le_of_ble_eq_true rfl)) dX2_rest_44 ⟨Nat.le_of_ble_eq_true rfl, Nat.le_of_ble_eq_true rfl⟩) hS hA hP hD rfl rfl (by decide) (by decide) (by decide) (fun _ => by simp only [rr_wx, rr_wm, List.map_cons, List.map_nil]) (fun r44 u44 H locs e44 hP hD hS => ?_)
      have hP : va_P D vwCl [(h0, .inr (2, [.ref qT, .int (nI n), .int (nI t), .int ((rr_tl f n 0 (rr_mn x2.toInt64 ((rr_mx (rr_ab x3.toInt64) (rr_ab x4.toInt64)) - 1))).1), .int ((rr_tl f n 0 (rr_mn x2.toInt64 ((rr_mx (rr_ab x3.toInt64) (rr_ab x4.toInt64)) - 1))).2)])), (qT, .inl (cA, 187, .inl f))] H := hP
      have hD : va_D A [(h0, .inr (2, [.ref qT, .int (nI n), .int (nI t), .int ((rr_tl f n 0 (rr_mn x2.toInt64 ((rr_mx (rr_ab x3.toInt64) (rr_ab x4.toInt64)) - 1))).1), .int ((rr_tl f n 0 (rr_mn x2.toInt64 ((rr_mx (rr_ab x3.toInt64) (rr_ab x4.toInt64)) - 1))).2)])), (qT, .inl (cA, 187, .inl f))] := hD
      subst e44
      have ee : (if x3 = 0 ∧ x4 = 0 then ((0 : Int32), lo, hi) else ((1 : Int32), rr_tl f n (rr_rs x1.toInt64 x2.toInt64 x3.toInt64 x4.toInt64).1 (rr_rs x1.toInt64 x2.toInt64 x3.toInt64 x4.toInt64).2)) = ((1 : Int32), rr_tl f n (rr_rs x1.toInt64 x2.toInt64 x3.toInt64 x4.toInt64).1 (rr_rs x1.toInt64 x2.toInt64 x3.toInt64 x4.toInt64).2) := if_neg hz
      rw [er] at ee
      exact W.iret (v := 1) hx hb hr (fun tt ht hW => ⟨⟨_, (), rfl, by rw [er, ee], by dsimp only; rw [ht, er, ee]; exact hP⟩, hS.F ht⟩) hS.2.2 dX2_rest_47
  · skip
    refine lv_lload hx hb dX2_rest_6 (lv_at hl 4 rfl) ?_
    refine lv_lconst (v := 0) hx hb dX2_rest_8 (by decide) ?_
    refine W.lcmp hx hb dX2_rest_9 ?_
    refine lv_if_ne (tgt := 15) hx hb dX2_rest_10 (by decide) (fun c10 => ?_) (fun c10 => ?_)
    · skip
      have hz : ¬ (x3 = 0 ∧ x4 = 0) := (fun z => c10 ((lg_cmp_eq _ _).mpr (rr_z64.mpr z.2)))
      refine lv_lload_n hx hb dX2_rest_15 rfl (lv_at hl 3 rfl) ?_
      refine va_mabs_long hx hb (hml.trans hl.1.symm) hown (hts (.methodLink RX2 100 Lib.MathLoose.abs_long.x) (by decide +kernel)) (hts (.static Lib.MathLoose.abs_long.x) (by decide +kernel)) (hts (.initialized "java/lang/Math") (by decide +kernel)) (hts (.code Lib.MathLoose.abs_long.x Lib.MathLoose.abs_long.code 2 (some .long)) (by decide +kernel)) (Nat.le_of_ble_eq_true rfl) (Nat.le_of_ble_eq_true rfl) (Nat.le_of_ble_eq_true rfl) (Nat.le_of_ble_eq_true rfl) dX2_rest_16 ?_
      refine W.eq (g2 := F0 m 19 ls [.long (rr_ab x3.toInt64)]) rfl ?_
      refine lv_lload hx hb dX2_rest_19 (lv_at hl 4 rfl) ?_
      refine va_mabs_long hx hb (hml.trans hl.1.symm) hown (hts (.methodLink RX2 100 Lib.MathLoose.abs_long.x) (by decide +kernel)) (hts (.static Lib.MathLoose.abs_long.x) (by decide +kernel)) (hts (.initialized "java/lang/Math") (by decide +kernel)) (hts (.code Lib.MathLoose.abs_long.x Lib.MathLoose.abs_long.code 2 (some .long)) (by decide +kernel)) (Nat.le_of_ble_eq_true rfl) (Nat.le_of_ble_eq_true rfl) (Nat.le_of_ble_eq_true rfl) (Nat.le_of_ble_eq_true rfl) dX2_rest_21 ?_
      refine W.eq (g2 := F0 m 24 ls [.long (rr_ab x4.toInt64), .long (rr_ab x3.toInt64)]) rfl ?_
      refine va_mmax_long hx hb (hml.trans hl.1.symm) hown (hts (.methodLink RX2 66 Lib.MathLoose.max_long.x) (by decide +kernel)) (hts (.static Lib.MathLoose.max_long.x) (by decide +kernel)) (hts (.initialized "java/lang/Math") (by decide +kernel)) (hts (.code Lib.MathLoose.max_long.x Lib.MathLoose.max_long.code 4 (some .long)) (by decide +kernel)) (Nat.le_of_ble_eq_true rfl) (Nat.le_of_ble_eq_true rfl) (Nat.le_of_ble_eq_true rfl) (Nat.le_of_ble_eq_true rfl) dX2_rest_24 ?_
      refine W.eq (g2 := F0 m 27 ls [.long (rr_mx (rr_ab x3.toInt64) (rr_ab x4.toInt64))]) rfl ?_
      refine lv_lconst (v := 1) hx hb dX2_rest_27 (by decide) ?_
      refine lv_lsub hx hb dX2_rest_28 ?_
      refine lv_lstore (lv' := [(7, .long ((rr_mx (rr_ab x3.toInt64) (rr_ab x4.toInt64)) - 1)), (0, .ref h0), (1, .int x1), (2, .int x2), (3, .long x3.toInt64), (5, .long x4.toInt64)]) hx hb dX2_rest_29 hl (by decide) rfl (fun ls hl => ?_)
      refine lv_iload_n hx hb dX2_rest_31 rfl (lv_at hl 2 rfl) ?_
      refine lv_if_lt (tgt := 48) hx hb dX2_rest_32 (by decide) (fun c32 => ?_) (fun c32 => ?_)
      · skip
        refine lv_aload_n hx hb dX2_rest_48 rfl (lv_at hl 1 rfl) ?_
        refine lv_iload_n hx hb dX2_rest_49 rfl (lv_at hl 2 rfl) ?_
        refine lv_i2l (v := x1.toInt64) hx hb dX2_rest_50 rfl ?_
        refine lv_lload hx hb dX2_rest_51 (lv_at hl 0 rfl) ?_
        refine lv_lneg hx hb dX2_rest_53 ?_
        refine va_mmax_long hx hb (hml.trans hl.1.symm) hown (hts (.methodLink RX2 66 Lib.MathLoose.max_long.x) (by decide +kernel)) (hts (.static Lib.MathLoose.max_long.x) (by decide +kernel)) (hts (.initialized "java/lang/Math") (by decide +kernel)) (hts (.code Lib.MathLoose.max_long.x Lib.MathLoose.max_long.code 4 (some .long)) (by decide +kernel)) (Nat.le_of_ble_eq_true rfl) (Nat.le_of_ble_eq_true rfl) (Nat.le_of_ble_eq_true rfl) (Nat.le_of_ble_eq_true rfl) dX2_rest_54 ?_
        refine W.eq (g2 := F0 m 57 ls [.long (rr_mx x1.toInt64 (-((rr_mx (rr_ab x3.toInt64) (rr_ab x4.toInt64)) - 1))), .ref h0]) rfl ?_
        refine lv_iload_n hx hb dX2_rest_57 rfl (lv_at hl 3 rfl) ?_
        refine lv_if_gt (tgt := 65) hx hb dX2_rest_58 (by decide) (fun c58 => ?_) (fun c58 => ?_)
        · skip
          refine lv_iload_n hx hb dX2_rest_65 rfl (lv_at hl 3 rfl) ?_
          refine lv_i2l (v := x2.toInt64) hx hb dX2_rest_66 rfl ?_
          refine lv_lload hx hb dX2_rest_67 (lv_at hl 0 rfl) ?_
          refine va_mmin_long hx hb (hml.trans hl.1.symm) hown (hts (.methodLink RX2 63 Lib.MathLoose.min_long.x) (by decide +kernel)) (hts (.static Lib.MathLoose.min_long.x) (by decide +kernel)) (hts (.initialized "java/lang/Math") (by decide +kernel)) (hts (.code Lib.MathLoose.min_long.x Lib.MathLoose.min_long.code 4 (some .long)) (by decide +kernel)) (Nat.le_of_ble_eq_true rfl) (Nat.le_of_ble_eq_true rfl) (Nat.le_of_ble_eq_true rfl) (Nat.le_of_ble_eq_true rfl) dX2_rest_69 ?_
          refine W.eq (g2 := F0 m 72 ls [.long (rr_mn x2.toInt64 ((rr_mx (rr_ab x3.toInt64) (rr_ab x4.toInt64)) - 1)), .long (rr_mx x1.toInt64 (-((rr_mx (rr_ab x3.toInt64) (rr_ab x4.toInt64)) - 1))), .ref h0]) rfl ?_
          have er : (rr_rs x1.toInt64 x2.toInt64 x3.toInt64 x4.toInt64) = (rr_mx x1.toInt64 (-(rr_mx (rr_ab x3.toInt64) (rr_ab x4.toInt64) - 1)), rr_mn x2.toInt64 (rr_mx (rr_ab x3.toInt64) (rr_ab x4.toInt64) - 1)) := (if_neg (fun z => rr_ge64.mp z c32)).trans (if_neg (fun z => rr_le64.mp z c58))
          have hz2 := rr_le4 hlh hz
          rw [er] at hz2
          refine rr_wi (wr := []) [0, 1] [] (va_runV (As := [.long (rr_mx x1.toInt64 (-((rr_mx (rr_ab x3.toInt64) (rr_ab x4.toInt64)) - 1))), .long (rr_mn x2.toInt64 ((rr_mx (rr_ab x3.toInt64) (rr_ab x4.toInt64)) - 1))]) (rest := []) ⟨hx, hb, hml, hown, hts⟩ (c_X2_tell l D h0 qT s.heap.size cA f n t lo hi (rr_mx x1.toInt64 (-((rr_mx (rr_ab x3.toInt64) (rr_ab x4.toInt64)) - 1))) (rr_mn x2.toInt64 ((rr_mx (rr_ab x3.toInt64) (rr_ab x4.toInt64)) - 1)) hn hz2) (cwV 2 hts gX2_rest_X2_tell rfl rfl rfl (by decide +kernel) ⟨Nat.le_of_ble_eq_true rfl, Nat.le_of_ble_eq_true rfl⟩) (rr_vW hK hP hD (va_recv hK hP (ci := 2) (q0 := 0) rfl rfl)) rfl rfl hl.1 rfl (lv_room (Nat.le_of_ble_eq_true rfl)) dX2_rest_72 ⟨Nat.le_of_ble_eq_true rfl, Nat.le_of_ble_eq_true rfl⟩) hS hA hP hD rfl rfl (by decide) (by decide) (by decide) (fun _ => by simp only [rr_wx, rr_wm, List.map_cons, List.map_nil]) (fun r72 u72 H locs e72 hP hD hS => ?_)
          have hP : va_P D vwCl [(h0, .inr (2, [.ref qT, .int (nI n), .int (nI t), .int ((rr_tl f n (rr_mx x1.toInt64 (-((rr_mx (rr_ab x3.toInt64) (rr_ab x4.toInt64)) - 1))) (rr_mn x2.toInt64 ((rr_mx (rr_ab x3.toInt64) (rr_ab x4.toInt64)) - 1))).1), .int ((rr_tl f n (rr_mx x1.toInt64 (-((rr_mx (rr_ab x3.toInt64) (rr_ab x4.toInt64)) - 1))) (rr_mn x2.toInt64 ((rr_mx (rr_ab x3.toInt64) (rr_ab x4.toInt64)) - 1))).2)])), (qT, .inl (cA, 187, .inl f))] H := hP
          have hD : va_D A [(h0, .inr (2, [.ref qT, .int (nI n), .int (nI t), .int ((rr_tl f n (rr_mx x1.toInt64 (-((rr_mx (rr_ab x3.toInt64) (rr_ab x4.toInt64)) - 1))) (rr_mn x2.toInt64 ((rr_mx (rr_ab x3.toInt64) (rr_ab x4.toInt64)) - 1))).1), .int ((rr_tl f n (rr_mx x1.toInt64 (-((rr_mx (rr_ab x3.toInt64) (rr_ab x4.toInt64)) - 1))) (rr_mn x2.toInt64 ((rr_mx (rr_ab x3.toInt64) (rr_ab x4.toInt64)) - 1))).2)])), (qT, .inl (cA, 187, .inl f))] := hD
          subst e72
          have ee : (if x3 = 0 ∧ x4 = 0 then ((0 : Int32), lo, hi) else ((1 : Int32), rr_tl f n (rr_rs x1.toInt64 x2.toInt64 x3.toInt64 x4.toInt64).1 (rr_rs x1.toInt64 x2.toInt64 x3.toInt64 x4.toInt64).2)) = ((1 : Int32), rr_tl f n (rr_rs x1.toInt64 x2.toInt64 x3.toInt64 x4.toInt64).1 (rr_rs x1.toInt64 x2.toInt64 x3.toInt64 x4.toInt64).2) := if_neg hz
          rw [er] at ee
          exact W.iret (v := 1) hx hb hr (fun tt ht hW => ⟨⟨_, (), rfl, by rw [er, ee], by dsimp only; rw [ht, er, ee]; exact hP⟩, hS.F ht⟩) hS.2.2 dX2_rest_75
        · skip
          refine lv_lconst (v := 0) hx hb dX2_rest_61 (by decide) ?_
          refine lv_goto (tgt := 72) hx hb dX2_rest_62 (by decide) ?_
          have er : (rr_rs x1.toInt64 x2.toInt64 x3.toInt64 x4.toInt64) = (rr_mx x1.toInt64 (-(rr_mx (rr_ab x3.toInt64) (rr_ab x4.toInt64) - 1)), 0) := (if_neg (fun z => rr_ge64.mp z c32)).trans (if_pos (rr_le64.mpr c58))
          have hz2 := rr_le4 hlh hz
          rw [er] at hz2
          refine rr_wi (wr := []) [0, 1] [] (va_runV (As := [.long (rr_mx x1.toInt64 (-((rr_mx (rr_ab x3.toInt64) (rr_ab x4.toInt64)) - 1))), .long 0]) (rest := []) ⟨hx, hb, hml, hown, hts⟩ (c_X2_tell l D h0 qT s.heap.size cA f n t lo hi (rr_mx x1.toInt64 (-((rr_mx (rr_ab x3.toInt64) (rr_ab x4.toInt64)) - 1))) 0 hn hz2) (cwV 2 hts gX2_rest_X2_tell rfl rfl rfl (by decide +kernel) ⟨Nat.le_of_ble_eq_true rfl, Nat.le_of_ble_eq_true rfl⟩) (rr_vW hK hP hD (va_recv hK hP (ci := 2) (q0 := 0) rfl rfl)) rfl rfl hl.1 rfl (lv_room (Nat.le_of_ble_eq_true rfl)) dX2_rest_72 ⟨Nat.le_of_ble_eq_true rfl, Nat.le_of_ble_eq_true rfl⟩) hS hA hP hD rfl rfl (by decide) (by decide) (by decide) (fun _ => by simp only [rr_wx, rr_wm, List.map_cons, List.map_nil]) (fun r72 u72 H locs e72 hP hD hS => ?_)
          have hP : va_P D vwCl [(h0, .inr (2, [.ref qT, .int (nI n), .int (nI t), .int ((rr_tl f n (rr_mx x1.toInt64 (-((rr_mx (rr_ab x3.toInt64) (rr_ab x4.toInt64)) - 1))) 0).1), .int ((rr_tl f n (rr_mx x1.toInt64 (-((rr_mx (rr_ab x3.toInt64) (rr_ab x4.toInt64)) - 1))) 0).2)])), (qT, .inl (cA, 187, .inl f))] H := hP
          have hD : va_D A [(h0, .inr (2, [.ref qT, .int (nI n), .int (nI t), .int ((rr_tl f n (rr_mx x1.toInt64 (-((rr_mx (rr_ab x3.toInt64) (rr_ab x4.toInt64)) - 1))) 0).1), .int ((rr_tl f n (rr_mx x1.toInt64 (-((rr_mx (rr_ab x3.toInt64) (rr_ab x4.toInt64)) - 1))) 0).2)])), (qT, .inl (cA, 187, .inl f))] := hD
          subst e72
          have ee : (if x3 = 0 ∧ x4 = 0 then ((0 : Int32), lo, hi) else ((1 : Int32), rr_tl f n (rr_rs x1.toInt64 x2.toInt64 x3.toInt64 x4.toInt64).1 (rr_rs x1.toInt64 x2.toInt64 x3.toInt64 x4.toInt64).2)) = ((1 : Int32), rr_tl f n (rr_rs x1.toInt64 x2.toInt64 x3.toInt64 x4.toInt64).1 (rr_rs x1.toInt64 x2.toInt64 x3.toInt64 x4.toInt64).2) := if_neg hz
          rw [er] at ee
          exact W.iret (v := 1) hx hb hr (fun tt ht hW => ⟨⟨_, (), rfl, by rw [er, ee], by dsimp only; rw [ht, er, ee]; exact hP⟩, hS.F ht⟩) hS.2.2 dX2_rest_75
      · skip
        refine lv_aload_n hx hb dX2_rest_35 rfl (lv_at hl 1 rfl) ?_
        refine lv_lconst (v := 0) hx hb dX2_rest_36 (by decide) ?_
        refine lv_iload_n hx hb dX2_rest_37 rfl (lv_at hl 3 rfl) ?_
        refine lv_i2l (v := x2.toInt64) hx hb dX2_rest_38 rfl ?_
        refine lv_lload hx hb dX2_rest_39 (lv_at hl 0 rfl) ?_
        refine va_mmin_long hx hb (hml.trans hl.1.symm) hown (hts (.methodLink RX2 63 Lib.MathLoose.min_long.x) (by decide +kernel)) (hts (.static Lib.MathLoose.min_long.x) (by decide +kernel)) (hts (.initialized "java/lang/Math") (by decide +kernel)) (hts (.code Lib.MathLoose.min_long.x Lib.MathLoose.min_long.code 4 (some .long)) (by decide +kernel)) (Nat.le_of_ble_eq_true rfl) (Nat.le_of_ble_eq_true rfl) (Nat.le_of_ble_eq_true rfl) (Nat.le_of_ble_eq_true rfl) dX2_rest_41 ?_
        refine W.eq (g2 := F0 m 44 ls [.long (rr_mn x2.toInt64 ((rr_mx (rr_ab x3.toInt64) (rr_ab x4.toInt64)) - 1)), .long 0, .ref h0]) rfl ?_
        have er : (rr_rs x1.toInt64 x2.toInt64 x3.toInt64 x4.toInt64) = (0, rr_mn x2.toInt64 (rr_mx (rr_ab x3.toInt64) (rr_ab x4.toInt64) - 1)) := if_pos (rr_ge64.mpr c32)
        have hz2 := rr_le4 hlh hz
        rw [er] at hz2
        refine rr_wi (wr := []) [0, 1] [] (va_runV (As := [.long 0, .long (rr_mn x2.toInt64 ((rr_mx (rr_ab x3.toInt64) (rr_ab x4.toInt64)) - 1))]) (rest := []) ⟨hx, hb, hml, hown, hts⟩ (c_X2_tell l D h0 qT s.heap.size cA f n t lo hi 0 (rr_mn x2.toInt64 ((rr_mx (rr_ab x3.toInt64) (rr_ab x4.toInt64)) - 1)) hn hz2) (cwV 2 hts gX2_rest_X2_tell rfl rfl rfl (by decide +kernel) ⟨Nat.le_of_ble_eq_true rfl, Nat.le_of_ble_eq_true rfl⟩) (rr_vW hK hP hD (va_recv hK hP (ci := 2) (q0 := 0) rfl rfl)) rfl rfl hl.1 rfl (lv_room (Nat.le_of_ble_eq_true rfl)) dX2_rest_44 ⟨Nat.le_of_ble_eq_true rfl, Nat.le_of_ble_eq_true rfl⟩) hS hA hP hD rfl rfl (by decide) (by decide) (by decide) (fun _ => by simp only [rr_wx, rr_wm, List.map_cons, List.map_nil]) (fun r44 u44 H locs e44 hP hD hS => ?_)
        have hP : va_P D vwCl [(h0, .inr (2, [.ref qT, .int (nI n), .int (nI t), .int ((rr_tl f n 0 (rr_mn x2.toInt64 ((rr_mx (rr_ab x3.toInt64) (rr_ab x4.toInt64)) - 1))).1), .int ((rr_tl f n 0 (rr_mn x2.toInt64 ((rr_mx (rr_ab x3.toInt64) (rr_ab x4.toInt64)) - 1))).2)])), (qT, .inl (cA, 187, .inl f))] H := hP
        have hD : va_D A [(h0, .inr (2, [.ref qT, .int (nI n), .int (nI t), .int ((rr_tl f n 0 (rr_mn x2.toInt64 ((rr_mx (rr_ab x3.toInt64) (rr_ab x4.toInt64)) - 1))).1), .int ((rr_tl f n 0 (rr_mn x2.toInt64 ((rr_mx (rr_ab x3.toInt64) (rr_ab x4.toInt64)) - 1))).2)])), (qT, .inl (cA, 187, .inl f))] := hD
        subst e44
        have ee : (if x3 = 0 ∧ x4 = 0 then ((0 : Int32), lo, hi) else ((1 : Int32), rr_tl f n (rr_rs x1.toInt64 x2.toInt64 x3.toInt64 x4.toInt64).1 (rr_rs x1.toInt64 x2.toInt64 x3.toInt64 x4.toInt64).2)) = ((1 : Int32), rr_tl f n (rr_rs x1.toInt64 x2.toInt64 x3.toInt64 x4.toInt64).1 (rr_rs x1.toInt64 x2.toInt64 x3.toInt64 x4.toInt64).2) := if_neg hz
        rw [er] at ee
        exact W.iret (v := 1) hx hb hr (fun tt ht hW => ⟨⟨_, (), rfl, by rw [er, ee], by dsimp only; rw [ht, er, ee]; exact hP⟩, hS.F ht⟩) hS.2.2 dX2_rest_47
    · skip
      refine lv_iconst (v := 0) hx hb dX2_rest_13 (by decide) ?_
      have ee : (if x3 = 0 ∧ x4 = 0 then ((0 : Int32), lo, hi) else ((1 : Int32), rr_tl f n (rr_rs x1.toInt64 x2.toInt64 x3.toInt64 x4.toInt64).1 (rr_rs x1.toInt64 x2.toInt64 x3.toInt64 x4.toInt64).2)) = ((0 : Int32), lo, hi) := if_pos ⟨rr_z64.mp ((lg_cmp_eq _ _).mp c3), rr_z64.mp ((lg_cmp_eq _ _).mp c10)⟩
      exact W.iret (v := 0) hx hb hr (fun tt ht hW => ⟨⟨_, (), rfl, by first | rw [ee] | (rw [er, ee]), by dsimp only; rw [ht, ee]; exact hP⟩, hS.F ht⟩) hS.2.2 dX2_rest_14
