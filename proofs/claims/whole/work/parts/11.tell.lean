set_option maxHeartbeats 1000000 in
set_option maxRecDepth 100000 in
/-- onesNotBelow(v) -/
theorem c_X1_onesNotBelow (l : Launch) (sz : Nat) (v : Int32)  : Met l yX1_onesNotBelow wsX1_onesNotBelow ({ frames := 0, cells := 0, slots := 0, locals := 0 }) (rr_p0 [.int v] sz) (va_Qi (fun r (_ : Unit) => r = nI (rr_on v 31 0)) (fun _ _ => True) (va_A [] sz)) 0 0 (va_A [] sz) := by
  refine Met.ofW (cc := cX1_onesNotBelow) (maxL := 3) (ret := (some .int)) (by decide) rfl ?_
  intro p e s m args below meth c s₁ B hml hv
  obtain ⟨rfl, hsz⟩ := hv
  have hx := B.exec
  have hb := B.bytes
  have hr := B.returns
  have hts := atoms_spec (ws := wsX1_onesNotBelow) B.pre
  have hown : s.vm.findClass RX1 = some m.cls := findClass_of_methodNamed B.named
  have hlocks := B.notSynchronized
  subst hsz
  generalize hAe : va_A [] s.heap.size = A
  have hA : ∀ q : Nat, s.heap.size ≤ q → A q := fun q h => by rw [← hAe]; exact Or.inr h
  have hS : va_S A s.heap s.heap [] := va_S.rf
  have hP : va_P (fun _ => 0, fun _ _ => 0) vwCl [] s.heap := fun k q h => by simp at h
  have hl := lv_entry ([.int v]) (n := 3) (Nat.le_of_ble_eq_true rfl)
  rw [lg_entry_eq]
  generalize (lg_sl ([.int v]) ++ List.replicate (3 - (lg_sl ([.int v])).length) Slot.unset).toArray = ls at hl ⊢
  have hl : lv_has ls 3 [(0, .int v)] := hl
  refine lv_iconst (v := 0) hx hb dX1_onesNotBelow_0 (by decide) ?_
  refine lv_istore_n (lv' := [(1, .int 0), (0, .int v)]) hx hb dX1_onesNotBelow_1 rfl hl (by decide) rfl (fun ls hl => ?_)
  refine lv_iconst (v := 0) hx hb dX1_onesNotBelow_2 (by decide) ?_
  refine lv_istore_n (lv' := [(2, .int 0), (1, .int 0), (0, .int v)]) hx hb dX1_onesNotBelow_3 rfl hl (by decide) rfl (fun ls hl => ?_)
  obtain ⟨j, hj0⟩ : ∃ j : Nat, j = 0 := ⟨_, rfl⟩
  obtain ⟨x, hx0⟩ : ∃ x : Nat, x = 0 := ⟨_, rfl⟩
  obtain ⟨k, hk0⟩ : ∃ k : Nat, k = 31 := ⟨_, rfl⟩
  replace hl : lv_has ls 3 [(2, .int (nI j)), (1, .int (nI x)), (0, .int v)] := by rw [hj0, hx0]; exact hl
  have hjk : j + k = 31 := by omega
  have hon : rr_on v 31 0 = rr_on v k x := by rw [hk0, hx0]
  clear hj0 hx0 hk0
  induction k generalizing j x ls with
  | zero =>
    refine lv_iload_n hx hb dX1_onesNotBelow_4 rfl (lv_at hl 0 rfl) ?_
    refine lv_bipush (v := 31) hx hb dX1_onesNotBelow_5 (by decide) ?_
    refine lv_icmp_ge (tgt := 27) hx hb dX1_onesNotBelow_7 (by decide) (fun c7 => ?_) (fun c7 => ?_)
    · skip
      refine lv_iload_n hx hb dX1_onesNotBelow_27 rfl (lv_at hl 1 rfl) ?_
      exact W.iret (v := nI x) hx hb hr (fun tt ht hW => ⟨⟨_, (), rfl, by rw [hon]; rfl, trivial⟩, hS.F ht⟩) hS.2.2 dX1_onesNotBelow_28
    · skip
      exact absurd (nI_le (a := 31) (b := j) (by omega) (by omega)) c7
  | succ k ih =>
    refine lv_iload_n hx hb dX1_onesNotBelow_4 rfl (lv_at hl 0 rfl) ?_
    refine lv_bipush (v := 31) hx hb dX1_onesNotBelow_5 (by decide) ?_
    refine lv_icmp_ge (tgt := 27) hx hb dX1_onesNotBelow_7 (by decide) (fun c7 => ?_) (fun c7 => ?_)
    · skip
      exact absurd c7 (nI_ge (a := j) (b := 31) (by omega) (by decide))
    · skip
      refine lv_iload_n hx hb dX1_onesNotBelow_10 rfl (lv_at hl 1 rfl) ?_
      refine lv_iload_n hx hb dX1_onesNotBelow_11 rfl (lv_at hl 2 rfl) ?_
      refine lv_icmp_ge (tgt := 27) hx hb dX1_onesNotBelow_12 (by decide) (fun c12 => ?_) (fun c12 => ?_)
      · skip
        refine lv_iload_n hx hb dX1_onesNotBelow_27 rfl (lv_at hl 1 rfl) ?_
        exact W.iret (v := nI x) hx hb hr (fun tt ht hW => ⟨⟨_, (), rfl, by rw [hon]; exact congrArg nI (if_neg (c := nI x < v) (Int32.not_lt.mpr c12)).symm, trivial⟩, hS.F ht⟩) hS.2.2 dX1_onesNotBelow_28
      · skip
        refine lv_iconst (v := 2) hx hb dX1_onesNotBelow_15 (by decide) ?_
        refine lv_iload_n hx hb dX1_onesNotBelow_16 rfl (lv_at hl 1 rfl) ?_
        refine lv_imul hx hb dX1_onesNotBelow_17 ?_
        refine lv_iconst (v := 1) hx hb dX1_onesNotBelow_18 (by decide) ?_
        refine lv_iadd hx hb dX1_onesNotBelow_19 ?_
        refine W.eq (congrArg (fun z => F0 m 20 ls (.int z :: [])) (show (2 : Int32) * nI x + 1 = nI (2 * x + 1) by rw [show (2 : Int32) = nI 2 from rfl, pk_mul, nI_1])) ?_
        refine lv_istore_n (lv' := [(1, .int (nI (2 * x + 1))), (2, .int (nI j)), (0, .int v)]) hx hb dX1_onesNotBelow_20 rfl hl (by decide) rfl (fun ls hl => ?_)
        refine lv_iinc (v := nI (j + 1)) (lv' := [(2, .int (nI (j + 1))), (1, .int (nI (2 * x + 1))), (0, .int v)]) hx hb dX1_onesNotBelow_21 hl (k := 1) rfl (nI_1 j) (by decide) rfl (fun ls hl => ?_)
        refine lv_goto (tgt := 4) hx hb dX1_onesNotBelow_24 (by decide) ?_
        exact ih ls (j + 1) (2 * x + 1) (lv_sub hl [0, 1, 2] rfl) (by omega) (by rw [hon]; exact if_pos (c := nI x < v) (Int32.not_le.mp c12))
set_option maxHeartbeats 1000000 in
set_option maxRecDepth 100000 in
/-- tell(x, y) -/
theorem c_X1_tell (l : Launch) (D : va_G) (h0 qT qS sz : Nat) (cA : ClassId) (f : Nat → Int32) (n t : Nat) (lo hi : Int32) (a b : Int64) (x y : Int64) (hn : n ≤ 187) : Met l yX1_tell wsX1_tell ({ frames := 1, cells := 0, slots := 0, locals := 30 }) (rr_pW D (rr_wx h0 qT qS cA f n t lo hi a b) [(cA, .int)] [.ref h0, .long x, .long y] sz) (va_Qv (fun (_ : Unit) => True) (fun _ tt => va_P D vwCl (rr_wx h0 qT qS cA f n t (rr_tl f n x y).1 (rr_tl f n x y).2 a b) tt.heap) (va_A (rr_wx h0 qT qS cA f n t lo hi a b) sz)) 0 0 (va_A (rr_wx h0 qT qS cA f n t lo hi a b) sz) := by
  refine Met.ofW (cc := cX1_tell) (maxL := 5) (ret := none) (by decide) rfl ?_
  intro p e s m args below meth c s₁ B hml hv
  obtain ⟨rfl, hsz, hP, hK, hD0⟩ := hv
  have hx := B.exec
  have hb := B.bytes
  have hr := B.returns
  have hts := atoms_spec (ws := wsX1_tell) B.pre
  have hown : s.vm.findClass RX1 = some m.cls := findClass_of_methodNamed B.named
  have hlocks := B.notSynchronized
  subst hsz
  have hD := hD0.self (sz := s.heap.size)
  generalize hAe : va_A [(h0, .inr (1, [.ref qT, .int (nI n), .int (nI t), .int lo, .int hi, .ref qS])), (qT, .inl (cA, 187, .inl f)), (qS, .inr (0, [.long a, .long b]))] s.heap.size = A at hD ⊢
  have hA : ∀ q : Nat, s.heap.size ≤ q → A q := fun q h => by rw [← hAe]; exact Or.inr h
  have hS : va_S A s.heap s.heap [] := va_S.rf
  have hP : va_P D vwCl [(h0, .inr (1, [.ref qT, .int (nI n), .int (nI t), .int lo, .int hi, .ref qS])), (qT, .inl (cA, 187, .inl f)), (qS, .inr (0, [.long a, .long b]))] s.heap := hP
  have hiX1 : ∀ w ∈ wsX10, w ∈ wsX1_tell := by decide +kernel
  have hl := lv_entry ([.ref h0, .long x, .long y]) (n := 5) (Nat.le_of_ble_eq_true rfl)
  rw [lg_entry_eq]
  generalize (lg_sl ([.ref h0, .long x, .long y]) ++ List.replicate (5 - (lg_sl ([.ref h0, .long x, .long y])).length) Slot.unset).toArray = ls at hl ⊢
  have hl : lv_has ls 5 [(0, .ref h0), (1, .long x), (3, .long y)] := hl
  refine lv_lload_n hx hb dX1_tell_0 rfl (lv_at hl 1 rfl) ?_
  refine rr_ri (va_runS (As := [.long x]) (rest := []) ⟨hx, hb, hml, hown, hts⟩ (c_X1_isInt l s.heap.size x) (va_cwS 1 hts gX1_tell_X1_isInt rfl rfl rfl (by decide +kernel) ⟨Nat.le_of_ble_eq_true rfl, Nat.le_of_ble_eq_true rfl⟩) rr_v0 rfl rfl hl.1 rfl (lv_room (Nat.le_of_ble_eq_true rfl)) dX1_tell_1 ⟨Nat.le_of_ble_eq_true rfl, Nat.le_of_ble_eq_true rfl⟩) hS hA hP (fun r1 H locs e1 hP hS => ?_)
  by_cases b1 : -2147483648 ≤ x ∧ x ≤ 2147483647
  · rw [if_pos b1] at e1
    subst e1
    refine lv_if_eq (tgt := 37) hx hb dX1_tell_4 (by decide) (fun c4 => ?_) (fun c4 => ?_)
    · skip
      exact absurd c4 (by decide)
    · skip
      refine lv_lload_n hx hb dX1_tell_7 rfl (lv_at hl 2 rfl) ?_
      refine rr_ri (va_runS (As := [.long y]) (rest := []) ⟨hx, hb, hml, hown, hts⟩ (c_X1_isInt l H.size y) (va_cwS 1 hts gX1_tell_X1_isInt rfl rfl rfl (by decide +kernel) ⟨Nat.le_of_ble_eq_true rfl, Nat.le_of_ble_eq_true rfl⟩) rr_v0 rfl rfl hl.1 rfl (lv_room (Nat.le_of_ble_eq_true rfl)) dX1_tell_8 ⟨Nat.le_of_ble_eq_true rfl, Nat.le_of_ble_eq_true rfl⟩) hS hA hP (fun r8 H locs e8 hP hS => ?_)
      by_cases b8 : -2147483648 ≤ y ∧ y ≤ 2147483647
      · rw [if_pos b8] at e8
        subst e8
        refine lv_if_eq (tgt := 37) hx hb dX1_tell_11 (by decide) (fun c11 => ?_) (fun c11 => ?_)
        · skip
          exact absurd c11 (by decide)
        · skip
          refine lv_aload_n hx hb dX1_tell_14 rfl (lv_at hl 0 rfl) ?_
          refine lv_aload_n hx hb dX1_tell_15 rfl (lv_at hl 0 rfl) ?_
          refine lv_lload_n hx hb dX1_tell_16 rfl (lv_at hl 1 rfl) ?_
          refine lv_l2i (v := x.toInt32) hx hb dX1_tell_17 rfl ?_
          refine rr_ri (va_runV (As := [.int x.toInt32]) (rest := [.ref h0]) ⟨hx, hb, hml, hown, hts⟩ (c_X1_down l D h0 qT qS H.size cA f n t lo hi a b x.toInt32 hn) (cwV 1 hts gX1_tell_X1_down rfl rfl rfl (by decide +kernel) ⟨Nat.le_of_ble_eq_true rfl, Nat.le_of_ble_eq_true rfl⟩) (rr_vR hK hP (va_recv hK hP (ci := 1) (q0 := 0) rfl rfl)) rfl rfl hl.1 rfl (lv_room (Nat.le_of_ble_eq_true rfl)) dX1_tell_18 ⟨Nat.le_of_ble_eq_true rfl, Nat.le_of_ble_eq_true rfl⟩) hS hA hP (fun r18 H locs e18 hP hS => ?_)
          subst e18
          refine va_put (D := D) (ci := 1) (v := .int (rr_dn f x.toInt32 n)) (ty := .int) (C := RX1) (T := TX1) (N := 6) hx hb hts hiX1 tyX1 tyX1_ok nmX1 hown hK hP hD hS 0 rfl rfl 3 (by decide) (hts (.fieldLink RX1 29 "RangeRules" "resultLow" "I") (by decide +kernel)) (fun _ h9 => h9) rfl (by decide +kernel) rfl rfl (Nat.le_of_ble_eq_true rfl) dX1_tell_21 (fun H locs hP hD hS => ?_)
          have hP : va_P D vwCl [(h0, .inr (1, [.ref qT, .int (nI n), .int (nI t), .int (rr_dn f x.toInt32 n), .int hi, .ref qS])), (qT, .inl (cA, 187, .inl f)), (qS, .inr (0, [.long a, .long b]))] H := hP
          have hD : va_D A [(h0, .inr (1, [.ref qT, .int (nI n), .int (nI t), .int (rr_dn f x.toInt32 n), .int hi, .ref qS])), (qT, .inl (cA, 187, .inl f)), (qS, .inr (0, [.long a, .long b]))] := hD
          refine lv_aload_n hx hb dX1_tell_24 rfl (lv_at hl 0 rfl) ?_
          refine lv_aload_n hx hb dX1_tell_25 rfl (lv_at hl 0 rfl) ?_
          refine lv_lload_n hx hb dX1_tell_26 rfl (lv_at hl 2 rfl) ?_
          refine lv_l2i (v := y.toInt32) hx hb dX1_tell_27 rfl ?_
          refine rr_ri (va_runV (As := [.int y.toInt32]) (rest := [.ref h0]) ⟨hx, hb, hml, hown, hts⟩ (c_X1_up l D h0 qT qS H.size cA f n t (rr_dn f x.toInt32 n) hi a b y.toInt32 hn) (cwV 1 hts gX1_tell_X1_up rfl rfl rfl (by decide +kernel) ⟨Nat.le_of_ble_eq_true rfl, Nat.le_of_ble_eq_true rfl⟩) (rr_vR hK hP (va_recv hK hP (ci := 1) (q0 := 0) rfl rfl)) rfl rfl hl.1 rfl (lv_room (Nat.le_of_ble_eq_true rfl)) dX1_tell_28 ⟨Nat.le_of_ble_eq_true rfl, Nat.le_of_ble_eq_true rfl⟩) hS hA hP (fun r28 H locs e28 hP hS => ?_)
          subst e28
          refine va_put (D := D) (ci := 1) (v := .int (rr_up f y.toInt32 n)) (ty := .int) (C := RX1) (T := TX1) (N := 6) hx hb hts hiX1 tyX1 tyX1_ok nmX1 hown hK hP hD hS 0 rfl rfl 4 (by decide) (hts (.fieldLink RX1 32 "RangeRules" "resultHigh" "I") (by decide +kernel)) (fun _ h9 => h9) rfl (by decide +kernel) rfl rfl (Nat.le_of_ble_eq_true rfl) dX1_tell_31 (fun H locs hP hD hS => ?_)
          have hP : va_P D vwCl [(h0, .inr (1, [.ref qT, .int (nI n), .int (nI t), .int (rr_dn f x.toInt32 n), .int (rr_up f y.toInt32 n), .ref qS])), (qT, .inl (cA, 187, .inl f)), (qS, .inr (0, [.long a, .long b]))] H := hP
          have hD : va_D A [(h0, .inr (1, [.ref qT, .int (nI n), .int (nI t), .int (rr_dn f x.toInt32 n), .int (rr_up f y.toInt32 n), .ref qS])), (qT, .inl (cA, 187, .inl f)), (qS, .inr (0, [.long a, .long b]))] := hD
          refine lv_goto (tgt := 41) hx hb dX1_tell_34 (by decide) ?_
          have ee : rr_tl f n x y = (rr_dn f x.toInt32 n, rr_up f y.toInt32 n) := if_pos ⟨b1, b8⟩
          exact W.vret hx hb hr (fun tt ht hW => ⟨⟨(), rfl, trivial, by dsimp only; rw [ht, ee]; exact hP⟩, hS.F ht⟩) hS.2.2 dX1_tell_41
      · rw [if_neg b8] at e8
        subst e8
        refine lv_if_eq (tgt := 37) hx hb dX1_tell_11 (by decide) (fun c11 => ?_) (fun c11 => ?_)
        · skip
          refine lv_aload_n hx hb dX1_tell_37 rfl (lv_at hl 0 rfl) ?_
          refine rr_wv (wr := []) [0, 1, 2] [] (va_runV (As := []) (rest := []) ⟨hx, hb, hml, hown, hts⟩ (c_X1_tellAllInts l D h0 qT qS H.size cA f n t lo hi a b) (cwV 0 hts gX1_tell_X1_tellAllInts rfl rfl rfl (by decide +kernel) ⟨Nat.le_of_ble_eq_true rfl, Nat.le_of_ble_eq_true rfl⟩) (rr_vW hK hP hD (va_recv hK hP (ci := 1) (q0 := 0) rfl rfl)) rfl rfl hl.1 rfl (lv_room (Nat.le_of_ble_eq_true rfl)) dX1_tell_38 ⟨Nat.le_of_ble_eq_true rfl, Nat.le_of_ble_eq_true rfl⟩) hS hA hP hD rfl rfl (by decide) (by decide) (by decide) (fun _ => by simp only [rr_wx, rr_wm, List.map_cons, List.map_nil]) (fun u38 H locs e38 hP hD hS => ?_)
          have hP : va_P D vwCl [(h0, .inr (1, [.ref qT, .int (nI n), .int (nI t), .int ((-2147483648)), .int 2147483647, .ref qS])), (qT, .inl (cA, 187, .inl f)), (qS, .inr (0, [.long a, .long b]))] H := hP
          have hD : va_D A [(h0, .inr (1, [.ref qT, .int (nI n), .int (nI t), .int ((-2147483648)), .int 2147483647, .ref qS])), (qT, .inl (cA, 187, .inl f)), (qS, .inr (0, [.long a, .long b]))] := hD
          have ee : rr_tl f n x y = (-2147483648, 2147483647) := if_neg (fun z => by first | exact b1 z.1 | exact b8 z.2)
          exact W.vret hx hb hr (fun tt ht hW => ⟨⟨(), rfl, trivial, by dsimp only; rw [ht, ee]; exact hP⟩, hS.F ht⟩) hS.2.2 dX1_tell_41
        · skip
          exact absurd c11 (by decide)
  · rw [if_neg b1] at e1
    subst e1
    refine lv_if_eq (tgt := 37) hx hb dX1_tell_4 (by decide) (fun c4 => ?_) (fun c4 => ?_)
    · skip
      refine lv_aload_n hx hb dX1_tell_37 rfl (lv_at hl 0 rfl) ?_
      refine rr_wv (wr := []) [0, 1, 2] [] (va_runV (As := []) (rest := []) ⟨hx, hb, hml, hown, hts⟩ (c_X1_tellAllInts l D h0 qT qS H.size cA f n t lo hi a b) (cwV 0 hts gX1_tell_X1_tellAllInts rfl rfl rfl (by decide +kernel) ⟨Nat.le_of_ble_eq_true rfl, Nat.le_of_ble_eq_true rfl⟩) (rr_vW hK hP hD (va_recv hK hP (ci := 1) (q0 := 0) rfl rfl)) rfl rfl hl.1 rfl (lv_room (Nat.le_of_ble_eq_true rfl)) dX1_tell_38 ⟨Nat.le_of_ble_eq_true rfl, Nat.le_of_ble_eq_true rfl⟩) hS hA hP hD rfl rfl (by decide) (by decide) (by decide) (fun _ => by simp only [rr_wx, rr_wm, List.map_cons, List.map_nil]) (fun u38 H locs e38 hP hD hS => ?_)
      have hP : va_P D vwCl [(h0, .inr (1, [.ref qT, .int (nI n), .int (nI t), .int ((-2147483648)), .int 2147483647, .ref qS])), (qT, .inl (cA, 187, .inl f)), (qS, .inr (0, [.long a, .long b]))] H := hP
      have hD : va_D A [(h0, .inr (1, [.ref qT, .int (nI n), .int (nI t), .int ((-2147483648)), .int 2147483647, .ref qS])), (qT, .inl (cA, 187, .inl f)), (qS, .inr (0, [.long a, .long b]))] := hD
      have ee : rr_tl f n x y = (-2147483648, 2147483647) := if_neg (fun z => by first | exact b1 z.1 | exact b8 z.2)
      exact W.vret hx hb hr (fun tt ht hW => ⟨⟨(), rfl, trivial, by dsimp only; rw [ht, ee]; exact hP⟩, hS.F ht⟩) hS.2.2 dX1_tell_41
    · skip
      exact absurd c4 (by decide)
set_option maxHeartbeats 1000000 in
set_option maxRecDepth 100000 in
/-- addThreshold(v) -/
theorem c_X1_addThreshold (l : Launch) (D : va_G) (h0 qT qS sz : Nat) (cA : ClassId) (f : Nat → Int32) (n t : Nat) (lo hi : Int32) (a b : Int64) (v : Int32) (hn : n < 187) (hk : rr_ok f n) : Met l yX1_addThreshold wsX1_addThreshold ({ frames := 2, cells := 0, slots := 0, locals := 51 }) (rr_pW D (rr_wx h0 qT qS cA f n t lo hi a b) [(cA, .int)] [.ref h0, .int v] sz) (va_Qv (fun (_ : Unit) => True) (fun _ tt => va_P D vwCl (rr_wx h0 qT qS cA (rr_ad f n v).1 (rr_ad f n v).2 t lo hi a b) tt.heap) (va_A (rr_wx h0 qT qS cA f n t lo hi a b) sz)) 0 0 (va_A (rr_wx h0 qT qS cA f n t lo hi a b) sz) := by
  refine Met.ofW (cc := cX1_addThreshold) (maxL := 2) (ret := none) (by decide) rfl ?_
  intro p e s m args below meth c s₁ B hml hv
  obtain ⟨rfl, hsz, hP, hK, hD0⟩ := hv
  have hx := B.exec
  have hb := B.bytes
  have hr := B.returns
  have hts := atoms_spec (ws := wsX1_addThreshold) B.pre
  have hown : s.vm.findClass RX1 = some m.cls := findClass_of_methodNamed B.named
  have hlocks := B.notSynchronized
  subst hsz
  have hD := hD0.self (sz := s.heap.size)
  generalize hAe : va_A [(h0, .inr (1, [.ref qT, .int (nI n), .int (nI t), .int lo, .int hi, .ref qS])), (qT, .inl (cA, 187, .inl f)), (qS, .inr (0, [.long a, .long b]))] s.heap.size = A at hD ⊢
  have hA : ∀ q : Nat, s.heap.size ≤ q → A q := fun q h => by rw [← hAe]; exact Or.inr h
  have hS : va_S A s.heap s.heap [] := va_S.rf
  have hP : va_P D vwCl [(h0, .inr (1, [.ref qT, .int (nI n), .int (nI t), .int lo, .int hi, .ref qS])), (qT, .inl (cA, 187, .inl f)), (qS, .inr (0, [.long a, .long b]))] s.heap := hP
  have hiX1 : ∀ w ∈ wsX10, w ∈ wsX1_addThreshold := by decide +kernel
  have hl := lv_entry ([.ref h0, .int v]) (n := 2) (Nat.le_of_ble_eq_true rfl)
  rw [lg_entry_eq]
  generalize (lg_sl ([.ref h0, .int v]) ++ List.replicate (2 - (lg_sl ([.ref h0, .int v])).length) Slot.unset).toArray = ls at hl ⊢
  have hl : lv_has ls 2 [(0, .ref h0), (1, .int v)] := hl
  refine lv_aload_n hx hb dX1_addThreshold_0 rfl (lv_at hl 0 rfl) ?_
  refine lv_iload_n hx hb dX1_addThreshold_1 rfl (lv_at hl 1 rfl) ?_
  refine rr_ri (va_runV (As := [.int v]) (rest := []) ⟨hx, hb, hml, hown, hts⟩ (c_X1_isThreshold l D h0 qT qS s.heap.size cA f n t lo hi a b v (Nat.le_of_lt hn) hk) (cwV 1 hts gX1_addThreshold_X1_isThreshold rfl rfl rfl (by decide +kernel) ⟨Nat.le_of_ble_eq_true rfl, Nat.le_of_ble_eq_true rfl⟩) (rr_vR hK hP (va_recv hK hP (ci := 1) (q0 := 0) rfl rfl)) rfl rfl hl.1 rfl (lv_room (Nat.le_of_ble_eq_true rfl)) dX1_addThreshold_2 ⟨Nat.le_of_ble_eq_true rfl, Nat.le_of_ble_eq_true rfl⟩) hS hA hP (fun r2 H locs e2 hP hS => ?_)
  by_cases b2 : rr_fd f v n = true
  · rw [if_pos b2] at e2
    subst e2
    refine lv_if_ne (tgt := 40) hx hb dX1_addThreshold_5 (by decide) (fun c5 => ?_) (fun c5 => ?_)
    · skip
      have ee : rr_ad f n v = (f, n) := if_pos b2
      exact W.vret hx hb hr (fun tt ht hW => ⟨⟨(), rfl, trivial, by dsimp only; rw [ht, ee]; exact hP⟩, hS.F ht⟩) hS.2.2 dX1_addThreshold_40
    · skip
      exact absurd c5 (by decide)
  · rw [if_neg b2] at e2
    subst e2
    refine lv_if_ne (tgt := 40) hx hb dX1_addThreshold_5 (by decide) (fun c5 => ?_) (fun c5 => ?_)
    · skip
      exact absurd c5 (by decide)
    · skip
      refine lv_aload_n hx hb dX1_addThreshold_8 rfl (lv_at hl 0 rfl) ?_
      refine va_get (D := D) (ci := 1) (v := .int (nI n)) (C := RX1) (T := TX1) (N := 6) hx hb hts hiX1 hown hK hP 0 rfl rfl 1 (by decide) (hts (.fieldLink RX1 22 "RangeRules" "thresholdCount" "I") (by decide +kernel)) (fun _ h9 => h9) rfl dX1_addThreshold_9 ?_
      refine lv_aload_n hx hb dX1_addThreshold_12 rfl (lv_at hl 0 rfl) ?_
      refine va_get (D := D) (ci := 1) (v := .ref qT) (C := RX1) (T := TX1) (N := 6) hx hb hts hiX1 hown hK hP 0 rfl rfl 0 (by decide) (hts (.fieldLink RX1 13 "RangeRules" "thresholds" "[I") (by decide +kernel)) (fun _ h9 => h9) rfl dX1_addThreshold_13 ?_
      refine va_alen (v := 187) hx hb hK hP 1 0 rfl rfl rfl dX1_addThreshold_16 ?_
      refine lv_icmp_ge (tgt := 40) hx hb dX1_addThreshold_17 (by decide) (fun c17 => ?_) (fun c17 => ?_)
      · skip
        exact absurd c17 (nI_ge (a := n) (b := 187) hn (by decide))
      · skip
        refine lv_aload_n hx hb dX1_addThreshold_20 rfl (lv_at hl 0 rfl) ?_
        refine va_get (D := D) (ci := 1) (v := .ref qT) (C := RX1) (T := TX1) (N := 6) hx hb hts hiX1 hown hK hP 0 rfl rfl 0 (by decide) (hts (.fieldLink RX1 13 "RangeRules" "thresholds" "[I") (by decide +kernel)) (fun _ h9 => h9) rfl dX1_addThreshold_21 ?_
        refine lv_aload_n hx hb dX1_addThreshold_24 rfl (lv_at hl 0 rfl) ?_
        refine va_get (D := D) (ci := 1) (v := .int (nI n)) (C := RX1) (T := TX1) (N := 6) hx hb hts hiX1 hown hK hP 0 rfl rfl 1 (by decide) (hts (.fieldLink RX1 22 "RangeRules" "thresholdCount" "I") (by decide +kernel)) (fun _ h9 => h9) rfl dX1_addThreshold_25 ?_
        refine lv_iload_n hx hb dX1_addThreshold_28 rfl (lv_at hl 1 rfl) ?_
        refine va_iast hx hb hK hP hD hS 1 0 rfl rfl (vp_in_nI hn (by decide)) dX1_addThreshold_29 (fun H locs hP hD hS => ?_)
        rw [nI_clamp (by omega)] at hP hD
        have hP : va_P D vwCl [(h0, .inr (1, [.ref qT, .int (nI n), .int (nI t), .int lo, .int hi, .ref qS])), (qT, .inl (cA, 187, .inl (upd f n v))), (qS, .inr (0, [.long a, .long b]))] H := hP
        have hD : va_D A [(h0, .inr (1, [.ref qT, .int (nI n), .int (nI t), .int lo, .int hi, .ref qS])), (qT, .inl (cA, 187, .inl (upd f n v))), (qS, .inr (0, [.long a, .long b]))] := hD
        refine lv_aload_n hx hb dX1_addThreshold_30 rfl (lv_at hl 0 rfl) ?_
        refine lv_dup hx hb dX1_addThreshold_31 rfl ?_
        refine va_get (D := D) (ci := 1) (v := .int (nI n)) (C := RX1) (T := TX1) (N := 6) hx hb hts hiX1 hown hK hP 0 rfl rfl 1 (by decide) (hts (.fieldLink RX1 22 "RangeRules" "thresholdCount" "I") (by decide +kernel)) (fun _ h9 => h9) rfl dX1_addThreshold_32 ?_
        refine lv_iconst (v := 1) hx hb dX1_addThreshold_35 (by decide) ?_
        refine lv_iadd hx hb dX1_addThreshold_36 ?_
        refine W.eq (congrArg (fun z => F0 m 37 ls (.int z :: [.ref h0])) (nI_1 n)) ?_
        refine va_put (D := D) (ci := 1) (v := .int (nI (n + 1))) (ty := .int) (C := RX1) (T := TX1) (N := 6) hx hb hts hiX1 tyX1 tyX1_ok nmX1 hown hK hP hD hS 0 rfl rfl 1 (by decide) (hts (.fieldLink RX1 22 "RangeRules" "thresholdCount" "I") (by decide +kernel)) (fun _ h9 => h9) rfl (by decide +kernel) rfl rfl (Nat.le_of_ble_eq_true rfl) dX1_addThreshold_37 (fun H locs hP hD hS => ?_)
        have hP : va_P D vwCl [(h0, .inr (1, [.ref qT, .int (nI (n + 1)), .int (nI t), .int lo, .int hi, .ref qS])), (qT, .inl (cA, 187, .inl (upd f n v))), (qS, .inr (0, [.long a, .long b]))] H := hP
        have hD : va_D A [(h0, .inr (1, [.ref qT, .int (nI (n + 1)), .int (nI t), .int lo, .int hi, .ref qS])), (qT, .inl (cA, 187, .inl (upd f n v))), (qS, .inr (0, [.long a, .long b]))] := hD
        have ee : rr_ad f n v = (upd f n v, n + 1) := if_neg b2
        exact W.vret hx hb hr (fun tt ht hW => ⟨⟨(), rfl, trivial, by dsimp only; rw [ht, ee]; exact hP⟩, hS.F ht⟩) hS.2.2 dX1_addThreshold_40
set_option maxHeartbeats 1000000 in
set_option maxRecDepth 100000 in
/-- around(v) -/
theorem c_X1_around (l : Launch) (D : va_G) (h0 qT qS sz : Nat) (cA : ClassId) (f : Nat → Int32) (n t : Nat) (lo hi : Int32) (a b : Int64) (v : Int32) (hk : rr_ok f n) (ht6 : t ≤ 60) (hnt : n ≤ 7 + 3 * t) : Met l yX1_around wsX1_around ({ frames := 3, cells := 0, slots := 0, locals := 72 }) (rr_pW D (rr_wx h0 qT qS cA f n t lo hi a b) [(cA, .int)] [.ref h0, .int v] sz) (va_Qi (fun r (_ : Unit) => r = if t = 60 then -1 else nI (rr_ar f n v).2) (fun _ tt => va_P D vwCl (rr_wx h0 qT qS cA (if t = 60 then f else (rr_ar f n v).1) (if t = 60 then n else (rr_ar f n v).2) (if t = 60 then t else t + 1) lo hi a b) tt.heap) (va_A (rr_wx h0 qT qS cA f n t lo hi a b) sz)) 0 0 (va_A (rr_wx h0 qT qS cA f n t lo hi a b) sz) := by
  refine Met.ofW (cc := cX1_around) (maxL := 2) (ret := (some .int)) (by decide) rfl ?_
  intro p e s m args below meth c s₁ B hml hv
  obtain ⟨rfl, hsz, hP, hK, hD0⟩ := hv
  have hx := B.exec
  have hb := B.bytes
  have hr := B.returns
  have hts := atoms_spec (ws := wsX1_around) B.pre
  have hown : s.vm.findClass RX1 = some m.cls := findClass_of_methodNamed B.named
  have hlocks := B.notSynchronized
  subst hsz
  have hD := hD0.self (sz := s.heap.size)
  generalize hAe : va_A [(h0, .inr (1, [.ref qT, .int (nI n), .int (nI t), .int lo, .int hi, .ref qS])), (qT, .inl (cA, 187, .inl f)), (qS, .inr (0, [.long a, .long b]))] s.heap.size = A at hD ⊢
  have hA : ∀ q : Nat, s.heap.size ≤ q → A q := fun q h => by rw [← hAe]; exact Or.inr h
  have hS : va_S A s.heap s.heap [] := va_S.rf
  have hP : va_P D vwCl [(h0, .inr (1, [.ref qT, .int (nI n), .int (nI t), .int lo, .int hi, .ref qS])), (qT, .inl (cA, 187, .inl f)), (qS, .inr (0, [.long a, .long b]))] s.heap := hP
  have hiX1 : ∀ w ∈ wsX10, w ∈ wsX1_around := by decide +kernel
  have hl := lv_entry ([.ref h0, .int v]) (n := 2) (Nat.le_of_ble_eq_true rfl)
  rw [lg_entry_eq]
  generalize (lg_sl ([.ref h0, .int v]) ++ List.replicate (2 - (lg_sl ([.ref h0, .int v])).length) Slot.unset).toArray = ls at hl ⊢
  have hl : lv_has ls 2 [(0, .ref h0), (1, .int v)] := hl
  refine lv_aload_n hx hb dX1_around_0 rfl (lv_at hl 0 rfl) ?_
  refine va_get (D := D) (ci := 1) (v := .int (nI t)) (C := RX1) (T := TX1) (N := 6) hx hb hts hiX1 hown hK hP 0 rfl rfl 2 (by decide) (hts (.fieldLink RX1 26 "RangeRules" "aroundCount" "I") (by decide +kernel)) (fun _ h9 => h9) rfl dX1_around_1 ?_
  refine lv_bipush (v := 60) hx hb dX1_around_4 (by decide) ?_
  refine lv_icmp_lt (tgt := 11) hx hb dX1_around_6 (by decide) (fun c6 => ?_) (fun c6 => ?_)
  · skip
    have h6 : t < 60 := by rcases Nat.lt_or_ge t 60 with q | q; exact q; exact absurd c6 (nI_nlt (a := t) (b := 60) q (by omega))
    have h7 : ¬ t = 60 := by omega
    refine lv_aload_n hx hb dX1_around_11 rfl (lv_at hl 0 rfl) ?_
    refine lv_dup hx hb dX1_around_12 rfl ?_
    refine va_get (D := D) (ci := 1) (v := .int (nI t)) (C := RX1) (T := TX1) (N := 6) hx hb hts hiX1 hown hK hP 0 rfl rfl 2 (by decide) (hts (.fieldLink RX1 26 "RangeRules" "aroundCount" "I") (by decide +kernel)) (fun _ h9 => h9) rfl dX1_around_13 ?_
    refine lv_iconst (v := 1) hx hb dX1_around_16 (by decide) ?_
    refine lv_iadd hx hb dX1_around_17 ?_
    refine W.eq (congrArg (fun z => F0 m 18 ls (.int z :: [.ref h0])) (nI_1 t)) ?_
    refine va_put (D := D) (ci := 1) (v := .int (nI (t + 1))) (ty := .int) (C := RX1) (T := TX1) (N := 6) hx hb hts hiX1 tyX1 tyX1_ok nmX1 hown hK hP hD hS 0 rfl rfl 2 (by decide) (hts (.fieldLink RX1 26 "RangeRules" "aroundCount" "I") (by decide +kernel)) (fun _ h9 => h9) rfl (by decide +kernel) rfl rfl (Nat.le_of_ble_eq_true rfl) dX1_around_18 (fun H locs hP hD hS => ?_)
    have hP : va_P D vwCl [(h0, .inr (1, [.ref qT, .int (nI n), .int (nI (t + 1)), .int lo, .int hi, .ref qS])), (qT, .inl (cA, 187, .inl f)), (qS, .inr (0, [.long a, .long b]))] H := hP
    have hD : va_D A [(h0, .inr (1, [.ref qT, .int (nI n), .int (nI (t + 1)), .int lo, .int hi, .ref qS])), (qT, .inl (cA, 187, .inl f)), (qS, .inr (0, [.long a, .long b]))] := hD
    refine lv_iload_n hx hb dX1_around_21 rfl (lv_at hl 1 rfl) ?_
    refine lv_ldc (v := (-2147483648)) hx hb hown (hts (.constant RX1 42 (-2147483648)) (by decide +kernel)) dX1_around_22 ?_
    refine lv_icmp_le (tgt := 34) hx hb dX1_around_24 (by decide) (fun c24 => ?_) (fun c24 => ?_)
    · skip
      refine lv_aload_n hx hb dX1_around_34 rfl (lv_at hl 0 rfl) ?_
      refine lv_iload_n hx hb dX1_around_35 rfl (lv_at hl 1 rfl) ?_
      refine rr_wv (wr := []) [0, 1, 2] [] (va_runV (As := [.int v]) (rest := []) ⟨hx, hb, hml, hown, hts⟩ (c_X1_addThreshold l D h0 qT qS H.size cA f n (t + 1) lo hi a b v (by omega) hk) (cwV 1 hts gX1_around_X1_addThreshold rfl rfl rfl (by decide +kernel) ⟨Nat.le_of_ble_eq_true rfl, Nat.le_of_ble_eq_true rfl⟩) (rr_vW hK hP hD (va_recv hK hP (ci := 1) (q0 := 0) rfl rfl)) rfl rfl hl.1 rfl (lv_room (Nat.le_of_ble_eq_true rfl)) dX1_around_36 ⟨Nat.le_of_ble_eq_true rfl, Nat.le_of_ble_eq_true rfl⟩) hS hA hP hD rfl rfl (by decide) (by decide) (by decide) (fun _ => by simp only [rr_wx, rr_wm, List.map_cons, List.map_nil]) (fun u36 H locs e36 hP hD hS => ?_)
      have hP : va_P D vwCl [(h0, .inr (1, [.ref qT, .int (nI (rr_ad f n v).2), .int (nI (t + 1)), .int lo, .int hi, .ref qS])), (qT, .inl (cA, 187, .inl ((rr_ad f n v).1))), (qS, .inr (0, [.long a, .long b]))] H := hP
      have hD : va_D A [(h0, .inr (1, [.ref qT, .int (nI (rr_ad f n v).2), .int (nI (t + 1)), .int lo, .int hi, .ref qS])), (qT, .inl (cA, 187, .inl ((rr_ad f n v).1))), (qS, .inr (0, [.long a, .long b]))] := hD
      obtain ⟨f1, n1, g1⟩ : ∃ (fz : Nat → Int32) (nz : Nat), rr_ad f n v = (fz, nz) := ⟨_, _, rfl⟩
      rw [g1] at hP hD
      obtain ⟨hk1, hq1, hr1⟩ := rr_ad_of hk g1
      have hP : va_P D vwCl [(h0, .inr (1, [.ref qT, .int (nI n1), .int (nI (t + 1)), .int lo, .int hi, .ref qS])), (qT, .inl (cA, 187, .inl f1)), (qS, .inr (0, [.long a, .long b]))] H := hP
      have hD : va_D A [(h0, .inr (1, [.ref qT, .int (nI n1), .int (nI (t + 1)), .int lo, .int hi, .ref qS])), (qT, .inl (cA, 187, .inl f1)), (qS, .inr (0, [.long a, .long b]))] := hD
      refine lv_iload_n hx hb dX1_around_39 rfl (lv_at hl 1 rfl) ?_
      refine lv_ldc (v := 2147483647) hx hb hown (hts (.constant RX1 47 2147483647) (by decide +kernel)) dX1_around_40 ?_
      refine lv_icmp_ge (tgt := 52) hx hb dX1_around_42 (by decide) (fun c42 => ?_) (fun c42 => ?_)
      · skip
        refine lv_aload_n hx hb dX1_around_52 rfl (lv_at hl 0 rfl) ?_
        refine va_get (D := D) (ci := 1) (v := .int (nI n1)) (C := RX1) (T := TX1) (N := 6) hx hb hts hiX1 hown hK hP 0 rfl rfl 1 (by decide) (hts (.fieldLink RX1 22 "RangeRules" "thresholdCount" "I") (by decide +kernel)) (fun _ h9 => h9) rfl dX1_around_53 ?_
        have ee : rr_ar f n v = (f1, n1) := by
          unfold rr_ar
          rw [rr_e1 c24]
          dsimp only
          rw [rr_e3, g1]
          dsimp only
          rw [rr_e4 c42]
        exact W.iret (v := nI n1) hx hb hr (fun tt ht hW => ⟨⟨_, (), rfl, by rw [if_neg h7, ee], by dsimp only; rw [ht, if_neg h7, if_neg h7, if_neg h7, ee]; exact hP⟩, hS.F ht⟩) hS.2.2 dX1_around_56
      · skip
        refine lv_aload_n hx hb dX1_around_45 rfl (lv_at hl 0 rfl) ?_
        refine lv_iload_n hx hb dX1_around_46 rfl (lv_at hl 1 rfl) ?_
        refine lv_iconst (v := 1) hx hb dX1_around_47 (by decide) ?_
        refine lv_iadd hx hb dX1_around_48 ?_
        refine rr_wv (wr := []) [0, 1, 2] [] (va_runV (As := [.int (v + 1)]) (rest := []) ⟨hx, hb, hml, hown, hts⟩ (c_X1_addThreshold l D h0 qT qS H.size cA f1 n1 (t + 1) lo hi a b (v + 1) (by omega) hk1) (cwV 1 hts gX1_around_X1_addThreshold rfl rfl rfl (by decide +kernel) ⟨Nat.le_of_ble_eq_true rfl, Nat.le_of_ble_eq_true rfl⟩) (rr_vW hK hP hD (va_recv hK hP (ci := 1) (q0 := 0) rfl rfl)) rfl rfl hl.1 rfl (lv_room (Nat.le_of_ble_eq_true rfl)) dX1_around_49 ⟨Nat.le_of_ble_eq_true rfl, Nat.le_of_ble_eq_true rfl⟩) hS hA hP hD rfl rfl (by decide) (by decide) (by decide) (fun _ => by simp only [rr_wx, rr_wm, List.map_cons, List.map_nil]) (fun u49 H locs e49 hP hD hS => ?_)
        have hP : va_P D vwCl [(h0, .inr (1, [.ref qT, .int (nI (rr_ad f1 n1 (v + 1)).2), .int (nI (t + 1)), .int lo, .int hi, .ref qS])), (qT, .inl (cA, 187, .inl ((rr_ad f1 n1 (v + 1)).1))), (qS, .inr (0, [.long a, .long b]))] H := hP
        have hD : va_D A [(h0, .inr (1, [.ref qT, .int (nI (rr_ad f1 n1 (v + 1)).2), .int (nI (t + 1)), .int lo, .int hi, .ref qS])), (qT, .inl (cA, 187, .inl ((rr_ad f1 n1 (v + 1)).1))), (qS, .inr (0, [.long a, .long b]))] := hD
        obtain ⟨f2, n2, g2⟩ : ∃ (fz : Nat → Int32) (nz : Nat), rr_ad f1 n1 (v + 1) = (fz, nz) := ⟨_, _, rfl⟩
        rw [g2] at hP hD
        obtain ⟨hk2, hq2, hr2⟩ := rr_ad_of hk1 g2
        have hP : va_P D vwCl [(h0, .inr (1, [.ref qT, .int (nI n2), .int (nI (t + 1)), .int lo, .int hi, .ref qS])), (qT, .inl (cA, 187, .inl f2)), (qS, .inr (0, [.long a, .long b]))] H := hP
        have hD : va_D A [(h0, .inr (1, [.ref qT, .int (nI n2), .int (nI (t + 1)), .int lo, .int hi, .ref qS])), (qT, .inl (cA, 187, .inl f2)), (qS, .inr (0, [.long a, .long b]))] := hD
        refine lv_aload_n hx hb dX1_around_52 rfl (lv_at hl 0 rfl) ?_
        refine va_get (D := D) (ci := 1) (v := .int (nI n2)) (C := RX1) (T := TX1) (N := 6) hx hb hts hiX1 hown hK hP 0 rfl rfl 1 (by decide) (hts (.fieldLink RX1 22 "RangeRules" "thresholdCount" "I") (by decide +kernel)) (fun _ h9 => h9) rfl dX1_around_53 ?_
        have ee : rr_ar f n v = (f2, n2) := by
          unfold rr_ar
          rw [rr_e1 c24]
          dsimp only
          rw [rr_e3, g1]
          dsimp only
          rw [rr_e5 c42, g2]
        exact W.iret (v := nI n2) hx hb hr (fun tt ht hW => ⟨⟨_, (), rfl, by rw [if_neg h7, ee], by dsimp only; rw [ht, if_neg h7, if_neg h7, if_neg h7, ee]; exact hP⟩, hS.F ht⟩) hS.2.2 dX1_around_56
    · skip
      refine lv_aload_n hx hb dX1_around_27 rfl (lv_at hl 0 rfl) ?_
      refine lv_iload_n hx hb dX1_around_28 rfl (lv_at hl 1 rfl) ?_
      refine lv_iconst (v := 1) hx hb dX1_around_29 (by decide) ?_
      refine lv_isub hx hb dX1_around_30 ?_
      refine rr_wv (wr := []) [0, 1, 2] [] (va_runV (As := [.int (v - 1)]) (rest := []) ⟨hx, hb, hml, hown, hts⟩ (c_X1_addThreshold l D h0 qT qS H.size cA f n (t + 1) lo hi a b (v - 1) (by omega) hk) (cwV 1 hts gX1_around_X1_addThreshold rfl rfl rfl (by decide +kernel) ⟨Nat.le_of_ble_eq_true rfl, Nat.le_of_ble_eq_true rfl⟩) (rr_vW hK hP hD (va_recv hK hP (ci := 1) (q0 := 0) rfl rfl)) rfl rfl hl.1 rfl (lv_room (Nat.le_of_ble_eq_true rfl)) dX1_around_31 ⟨Nat.le_of_ble_eq_true rfl, Nat.le_of_ble_eq_true rfl⟩) hS hA hP hD rfl rfl (by decide) (by decide) (by decide) (fun _ => by simp only [rr_wx, rr_wm, List.map_cons, List.map_nil]) (fun u31 H locs e31 hP hD hS => ?_)
      have hP : va_P D vwCl [(h0, .inr (1, [.ref qT, .int (nI (rr_ad f n (v - 1)).2), .int (nI (t + 1)), .int lo, .int hi, .ref qS])), (qT, .inl (cA, 187, .inl ((rr_ad f n (v - 1)).1))), (qS, .inr (0, [.long a, .long b]))] H := hP
      have hD : va_D A [(h0, .inr (1, [.ref qT, .int (nI (rr_ad f n (v - 1)).2), .int (nI (t + 1)), .int lo, .int hi, .ref qS])), (qT, .inl (cA, 187, .inl ((rr_ad f n (v - 1)).1))), (qS, .inr (0, [.long a, .long b]))] := hD
      obtain ⟨f1, n1, g1⟩ : ∃ (fz : Nat → Int32) (nz : Nat), rr_ad f n (v - 1) = (fz, nz) := ⟨_, _, rfl⟩
      rw [g1] at hP hD
      obtain ⟨hk1, hq1, hr1⟩ := rr_ad_of hk g1
      have hP : va_P D vwCl [(h0, .inr (1, [.ref qT, .int (nI n1), .int (nI (t + 1)), .int lo, .int hi, .ref qS])), (qT, .inl (cA, 187, .inl f1)), (qS, .inr (0, [.long a, .long b]))] H := hP
      have hD : va_D A [(h0, .inr (1, [.ref qT, .int (nI n1), .int (nI (t + 1)), .int lo, .int hi, .ref qS])), (qT, .inl (cA, 187, .inl f1)), (qS, .inr (0, [.long a, .long b]))] := hD
      refine lv_aload_n hx hb dX1_around_34 rfl (lv_at hl 0 rfl) ?_
      refine lv_iload_n hx hb dX1_around_35 rfl (lv_at hl 1 rfl) ?_
      refine rr_wv (wr := []) [0, 1, 2] [] (va_runV (As := [.int v]) (rest := []) ⟨hx, hb, hml, hown, hts⟩ (c_X1_addThreshold l D h0 qT qS H.size cA f1 n1 (t + 1) lo hi a b v (by omega) hk1) (cwV 1 hts gX1_around_X1_addThreshold rfl rfl rfl (by decide +kernel) ⟨Nat.le_of_ble_eq_true rfl, Nat.le_of_ble_eq_true rfl⟩) (rr_vW hK hP hD (va_recv hK hP (ci := 1) (q0 := 0) rfl rfl)) rfl rfl hl.1 rfl (lv_room (Nat.le_of_ble_eq_true rfl)) dX1_around_36 ⟨Nat.le_of_ble_eq_true rfl, Nat.le_of_ble_eq_true rfl⟩) hS hA hP hD rfl rfl (by decide) (by decide) (by decide) (fun _ => by simp only [rr_wx, rr_wm, List.map_cons, List.map_nil]) (fun u36 H locs e36 hP hD hS => ?_)
      have hP : va_P D vwCl [(h0, .inr (1, [.ref qT, .int (nI (rr_ad f1 n1 v).2), .int (nI (t + 1)), .int lo, .int hi, .ref qS])), (qT, .inl (cA, 187, .inl ((rr_ad f1 n1 v).1))), (qS, .inr (0, [.long a, .long b]))] H := hP
      have hD : va_D A [(h0, .inr (1, [.ref qT, .int (nI (rr_ad f1 n1 v).2), .int (nI (t + 1)), .int lo, .int hi, .ref qS])), (qT, .inl (cA, 187, .inl ((rr_ad f1 n1 v).1))), (qS, .inr (0, [.long a, .long b]))] := hD
      obtain ⟨f2, n2, g2⟩ : ∃ (fz : Nat → Int32) (nz : Nat), rr_ad f1 n1 v = (fz, nz) := ⟨_, _, rfl⟩
      rw [g2] at hP hD
      obtain ⟨hk2, hq2, hr2⟩ := rr_ad_of hk1 g2
      have hP : va_P D vwCl [(h0, .inr (1, [.ref qT, .int (nI n2), .int (nI (t + 1)), .int lo, .int hi, .ref qS])), (qT, .inl (cA, 187, .inl f2)), (qS, .inr (0, [.long a, .long b]))] H := hP
      have hD : va_D A [(h0, .inr (1, [.ref qT, .int (nI n2), .int (nI (t + 1)), .int lo, .int hi, .ref qS])), (qT, .inl (cA, 187, .inl f2)), (qS, .inr (0, [.long a, .long b]))] := hD
      refine lv_iload_n hx hb dX1_around_39 rfl (lv_at hl 1 rfl) ?_
      refine lv_ldc (v := 2147483647) hx hb hown (hts (.constant RX1 47 2147483647) (by decide +kernel)) dX1_around_40 ?_
      refine lv_icmp_ge (tgt := 52) hx hb dX1_around_42 (by decide) (fun c42 => ?_) (fun c42 => ?_)
      · skip
        refine lv_aload_n hx hb dX1_around_52 rfl (lv_at hl 0 rfl) ?_
        refine va_get (D := D) (ci := 1) (v := .int (nI n2)) (C := RX1) (T := TX1) (N := 6) hx hb hts hiX1 hown hK hP 0 rfl rfl 1 (by decide) (hts (.fieldLink RX1 22 "RangeRules" "thresholdCount" "I") (by decide +kernel)) (fun _ h9 => h9) rfl dX1_around_53 ?_
        have ee : rr_ar f n v = (f2, n2) := by
          unfold rr_ar
          rw [rr_e2 c24, g1]
          dsimp only
          rw [rr_e3, g2]
          dsimp only
          rw [rr_e4 c42]
        exact W.iret (v := nI n2) hx hb hr (fun tt ht hW => ⟨⟨_, (), rfl, by rw [if_neg h7, ee], by dsimp only; rw [ht, if_neg h7, if_neg h7, if_neg h7, ee]; exact hP⟩, hS.F ht⟩) hS.2.2 dX1_around_56
      · skip
        refine lv_aload_n hx hb dX1_around_45 rfl (lv_at hl 0 rfl) ?_
        refine lv_iload_n hx hb dX1_around_46 rfl (lv_at hl 1 rfl) ?_
        refine lv_iconst (v := 1) hx hb dX1_around_47 (by decide) ?_
        refine lv_iadd hx hb dX1_around_48 ?_
        refine rr_wv (wr := []) [0, 1, 2] [] (va_runV (As := [.int (v + 1)]) (rest := []) ⟨hx, hb, hml, hown, hts⟩ (c_X1_addThreshold l D h0 qT qS H.size cA f2 n2 (t + 1) lo hi a b (v + 1) (by omega) hk2) (cwV 1 hts gX1_around_X1_addThreshold rfl rfl rfl (by decide +kernel) ⟨Nat.le_of_ble_eq_true rfl, Nat.le_of_ble_eq_true rfl⟩) (rr_vW hK hP hD (va_recv hK hP (ci := 1) (q0 := 0) rfl rfl)) rfl rfl hl.1 rfl (lv_room (Nat.le_of_ble_eq_true rfl)) dX1_around_49 ⟨Nat.le_of_ble_eq_true rfl, Nat.le_of_ble_eq_true rfl⟩) hS hA hP hD rfl rfl (by decide) (by decide) (by decide) (fun _ => by simp only [rr_wx, rr_wm, List.map_cons, List.map_nil]) (fun u49 H locs e49 hP hD hS => ?_)
        have hP : va_P D vwCl [(h0, .inr (1, [.ref qT, .int (nI (rr_ad f2 n2 (v + 1)).2), .int (nI (t + 1)), .int lo, .int hi, .ref qS])), (qT, .inl (cA, 187, .inl ((rr_ad f2 n2 (v + 1)).1))), (qS, .inr (0, [.long a, .long b]))] H := hP
        have hD : va_D A [(h0, .inr (1, [.ref qT, .int (nI (rr_ad f2 n2 (v + 1)).2), .int (nI (t + 1)), .int lo, .int hi, .ref qS])), (qT, .inl (cA, 187, .inl ((rr_ad f2 n2 (v + 1)).1))), (qS, .inr (0, [.long a, .long b]))] := hD
        obtain ⟨f3, n3, g3⟩ : ∃ (fz : Nat → Int32) (nz : Nat), rr_ad f2 n2 (v + 1) = (fz, nz) := ⟨_, _, rfl⟩
        rw [g3] at hP hD
        obtain ⟨hk3, hq3, hr3⟩ := rr_ad_of hk2 g3
        have hP : va_P D vwCl [(h0, .inr (1, [.ref qT, .int (nI n3), .int (nI (t + 1)), .int lo, .int hi, .ref qS])), (qT, .inl (cA, 187, .inl f3)), (qS, .inr (0, [.long a, .long b]))] H := hP
        have hD : va_D A [(h0, .inr (1, [.ref qT, .int (nI n3), .int (nI (t + 1)), .int lo, .int hi, .ref qS])), (qT, .inl (cA, 187, .inl f3)), (qS, .inr (0, [.long a, .long b]))] := hD
        refine lv_aload_n hx hb dX1_around_52 rfl (lv_at hl 0 rfl) ?_
        refine va_get (D := D) (ci := 1) (v := .int (nI n3)) (C := RX1) (T := TX1) (N := 6) hx hb hts hiX1 hown hK hP 0 rfl rfl 1 (by decide) (hts (.fieldLink RX1 22 "RangeRules" "thresholdCount" "I") (by decide +kernel)) (fun _ h9 => h9) rfl dX1_around_53 ?_
        have ee : rr_ar f n v = (f3, n3) := by
          unfold rr_ar
          rw [rr_e2 c24, g1]
          dsimp only
          rw [rr_e3, g2]
          dsimp only
          rw [rr_e5 c42, g3]
        exact W.iret (v := nI n3) hx hb hr (fun tt ht hW => ⟨⟨_, (), rfl, by rw [if_neg h7, ee], by dsimp only; rw [ht, if_neg h7, if_neg h7, if_neg h7, ee]; exact hP⟩, hS.F ht⟩) hS.2.2 dX1_around_56
  · skip
    have h7 : t = 60 := by rcases Nat.lt_or_ge t 60 with q | q; exact absurd (nI_lt (a := t) (b := 60) q (by decide)) c6; omega
    refine lv_iconst (v := (-1)) hx hb dX1_around_9 (by decide) ?_
    exact W.iret (v := -1) hx hb hr (fun tt ht hW => ⟨⟨_, (), rfl, by rw [if_pos h7], by dsimp only; rw [ht, if_pos h7, if_pos h7, if_pos h7]; exact hP⟩, hS.F ht⟩) hS.2.2 dX1_around_10
