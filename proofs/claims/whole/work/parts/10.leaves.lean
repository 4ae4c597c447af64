set_option maxHeartbeats 1000000 in
set_option maxRecDepth 100000 in
/-- Span.empty() -/
theorem c_X0_empty (l : Launch) (D : va_G) (h0 sz : Nat) (a b : Int64)   : Met l yX0_empty wsX0_empty ({ frames := 0, cells := 0, slots := 0, locals := 0 }) (rr_pW D [(h0, .inr (0, [.long a, .long b]))] [] [.ref h0] sz) (va_Qv (fun (_ : Unit) => True) (fun _ tt => va_P D vwCl [(h0, .inr (0, [.long 9223372036854775807, .long (-9223372036854775808)]))] tt.heap) (va_A [(h0, .inr (0, [.long a, .long b]))] sz)) 0 0 (va_A [(h0, .inr (0, [.long a, .long b]))] sz) := by
  refine Met.ofW (cc := cX0_empty) (maxL := 1) (ret := none) (by decide) rfl ?_
  intro p e s m args below meth c s₁ B hml hv
  obtain ⟨rfl, hsz, hP, hK, hD0⟩ := hv
  have hx := B.exec
  have hb := B.bytes
  have hr := B.returns
  have hts := atoms_spec (ws := wsX0_empty) B.pre
  have hown : s.vm.findClass RX0 = some m.cls := findClass_of_methodNamed B.named
  have hlocks := B.notSynchronized
  subst hsz
  have hD := hD0.self (sz := s.heap.size)
  generalize hAe : va_A [(h0, .inr (0, [.long a, .long b]))] s.heap.size = A at hD ⊢
  have hA : ∀ q : Nat, s.heap.size ≤ q → A q := fun q h => by rw [← hAe]; exact Or.inr h
  have hS : va_S A s.heap s.heap [] := va_S.rf
  have hP : va_P D vwCl [(h0, .inr (0, [.long a, .long b]))] s.heap := hP
  have hiX0 : ∀ w ∈ wsX00, w ∈ wsX0_empty := by decide +kernel
  have hl := lv_entry ([.ref h0]) (n := 1) (Nat.le_of_ble_eq_true rfl)
  rw [lg_entry_eq]
  generalize (lg_sl ([.ref h0]) ++ List.replicate (1 - (lg_sl ([.ref h0])).length) Slot.unset).toArray = ls at hl ⊢
  have hl : lv_has ls 1 [(0, .ref h0)] := hl
  refine lv_aload_n hx hb dX0_empty_0 rfl (lv_at hl 0 rfl) ?_
  refine lv_ldc2 (v := 9223372036854775807) hx hb hown (hts (.constantLong RX0 9 9223372036854775807) (by decide +kernel)) dX0_empty_1 ?_
  refine va_put (D := D) (ci := 0) (v := .long 9223372036854775807) (ty := .long) (C := RX0) (T := TX0) (N := 2) hx hb hts hiX0 tyX0 tyX0_ok nmX0 hown hK hP hD hS 0 rfl rfl 0 (by decide) (hts (.fieldLink RX0 11 "RangeRules$Span" "least" "J") (by decide +kernel)) (fun _ h9 => h9) rfl (by decide +kernel) rfl rfl (Nat.le_of_ble_eq_true rfl) dX0_empty_4 (fun H locs hP hD hS => ?_)
  have hP : va_P D vwCl [(h0, .inr (0, [.long 9223372036854775807, .long b]))] H := hP
  have hD : va_D A [(h0, .inr (0, [.long 9223372036854775807, .long b]))] := hD
  refine lv_aload_n hx hb dX0_empty_7 rfl (lv_at hl 0 rfl) ?_
  refine lv_ldc2 (v := (-9223372036854775808)) hx hb hown (hts (.constantLong RX0 15 (-9223372036854775808)) (by decide +kernel)) dX0_empty_8 ?_
  refine va_put (D := D) (ci := 0) (v := .long ((-9223372036854775808))) (ty := .long) (C := RX0) (T := TX0) (N := 2) hx hb hts hiX0 tyX0 tyX0_ok nmX0 hown hK hP hD hS 0 rfl rfl 1 (by decide) (hts (.fieldLink RX0 17 "RangeRules$Span" "greatest" "J") (by decide +kernel)) (fun _ h9 => h9) rfl (by decide +kernel) rfl rfl (Nat.le_of_ble_eq_true rfl) dX0_empty_11 (fun H locs hP hD hS => ?_)
  have hP : va_P D vwCl [(h0, .inr (0, [.long 9223372036854775807, .long ((-9223372036854775808))]))] H := hP
  have hD : va_D A [(h0, .inr (0, [.long 9223372036854775807, .long ((-9223372036854775808))]))] := hD
  exact W.vret hx hb hr (fun tt ht hW => ⟨⟨(), rfl, trivial, by dsimp only; rw [ht]; exact hP⟩, hS.F ht⟩) hS.2.2 dX0_empty_14
set_option maxHeartbeats 1000000 in
set_option maxRecDepth 100000 in
/-- Span.take(x) -/
theorem c_X0_take (l : Launch) (D : va_G) (h0 sz : Nat) (a b : Int64) (x : Int64)  : Met l yX0_take wsX0_take ({ frames := 1, cells := 0, slots := 0, locals := 20 }) (rr_pW D [(h0, .inr (0, [.long a, .long b]))] [] [.ref h0, .long x] sz) (va_Qv (fun (_ : Unit) => True) (fun _ tt => va_P D vwCl [(h0, .inr (0, [.long (rr_mn a x), .long (rr_mx b x)]))] tt.heap) (va_A [(h0, .inr (0, [.long a, .long b]))] sz)) 0 0 (va_A [(h0, .inr (0, [.long a, .long b]))] sz) := by
  refine Met.ofW (cc := cX0_take) (maxL := 3) (ret := none) (by decide) rfl ?_
  intro p e s m args below meth c s₁ B hml hv
  obtain ⟨rfl, hsz, hP, hK, hD0⟩ := hv
  have hx := B.exec
  have hb := B.bytes
  have hr := B.returns
  have hts := atoms_spec (ws := wsX0_take) B.pre
  have hown : s.vm.findClass RX0 = some m.cls := findClass_of_methodNamed B.named
  have hlocks := B.notSynchronized
  subst hsz
  have hD := hD0.self (sz := s.heap.size)
  generalize hAe : va_A [(h0, .inr (0, [.long a, .long b]))] s.heap.size = A at hD ⊢
  have hA : ∀ q : Nat, s.heap.size ≤ q → A q := fun q h => by rw [← hAe]; exact Or.inr h
  have hS : va_S A s.heap s.heap [] := va_S.rf
  have hP : va_P D vwCl [(h0, .inr (0, [.long a, .long b]))] s.heap := hP
  have hiX0 : ∀ w ∈ wsX00, w ∈ wsX0_take := by decide +kernel
  have hl := lv_entry ([.ref h0, .long x]) (n := 3) (Nat.le_of_ble_eq_true rfl)
  rw [lg_entry_eq]
  generalize (lg_sl ([.ref h0, .long x]) ++ List.replicate (3 - (lg_sl ([.ref h0, .long x])).length) Slot.unset).toArray = ls at hl ⊢
  have hl : lv_has ls 3 [(0, .ref h0), (1, .long x)] := hl
  refine lv_aload_n hx hb dX0_take_0 rfl (lv_at hl 0 rfl) ?_
  refine lv_aload_n hx hb dX0_take_1 rfl (lv_at hl 0 rfl) ?_
  refine va_get (D := D) (ci := 0) (v := .long a) (C := RX0) (T := TX0) (N := 2) hx hb hts hiX0 hown hK hP 0 rfl rfl 0 (by decide) (hts (.fieldLink RX0 11 "RangeRules$Span" "least" "J") (by decide +kernel)) (fun _ h9 => h9) rfl dX0_take_2 ?_
  refine lv_lload_n hx hb dX0_take_5 rfl (lv_at hl 1 rfl) ?_
  refine va_mmin_long hx hb (hml.trans hl.1.symm) hown (hts (.methodLink RX0 20 Lib.MathLoose.min_long.x) (by decide +kernel)) (hts (.static Lib.MathLoose.min_long.x) (by decide +kernel)) (hts (.initialized "java/lang/Math") (by decide +kernel)) (hts (.code Lib.MathLoose.min_long.x Lib.MathLoose.min_long.code 4 (some .long)) (by decide +kernel)) (Nat.le_of_ble_eq_true rfl) (Nat.le_of_ble_eq_true rfl) (Nat.le_of_ble_eq_true rfl) (Nat.le_of_ble_eq_true rfl) dX0_take_6 ?_
  refine W.eq (g2 := F0 m 9 ls [.long (rr_mn a x), .ref h0]) rfl ?_
  refine va_put (D := D) (ci := 0) (v := .long (rr_mn a x)) (ty := .long) (C := RX0) (T := TX0) (N := 2) hx hb hts hiX0 tyX0 tyX0_ok nmX0 hown hK hP hD hS 0 rfl rfl 0 (by decide) (hts (.fieldLink RX0 11 "RangeRules$Span" "least" "J") (by decide +kernel)) (fun _ h9 => h9) rfl (by decide +kernel) rfl rfl (Nat.le_of_ble_eq_true rfl) dX0_take_9 (fun H locs hP hD hS => ?_)
  have hP : va_P D vwCl [(h0, .inr (0, [.long (rr_mn a x), .long b]))] H := hP
  have hD : va_D A [(h0, .inr (0, [.long (rr_mn a x), .long b]))] := hD
  refine lv_aload_n hx hb dX0_take_12 rfl (lv_at hl 0 rfl) ?_
  refine lv_aload_n hx hb dX0_take_13 rfl (lv_at hl 0 rfl) ?_
  refine va_get (D := D) (ci := 0) (v := .long b) (C := RX0) (T := TX0) (N := 2) hx hb hts hiX0 hown hK hP 0 rfl rfl 1 (by decide) (hts (.fieldLink RX0 17 "RangeRules$Span" "greatest" "J") (by decide +kernel)) (fun _ h9 => h9) rfl dX0_take_14 ?_
  refine lv_lload_n hx hb dX0_take_17 rfl (lv_at hl 1 rfl) ?_
  refine va_mmax_long hx hb (hml.trans hl.1.symm) hown (hts (.methodLink RX0 26 Lib.MathLoose.max_long.x) (by decide +kernel)) (hts (.static Lib.MathLoose.max_long.x) (by decide +kernel)) (hts (.initialized "java/lang/Math") (by decide +kernel)) (hts (.code Lib.MathLoose.max_long.x Lib.MathLoose.max_long.code 4 (some .long)) (by decide +kernel)) (Nat.le_of_ble_eq_true rfl) (Nat.le_of_ble_eq_true rfl) (Nat.le_of_ble_eq_true rfl) (Nat.le_of_ble_eq_true rfl) dX0_take_18 ?_
  refine W.eq (g2 := F0 m 21 ls [.long (rr_mx b x), .ref h0]) rfl ?_
  refine va_put (D := D) (ci := 0) (v := .long (rr_mx b x)) (ty := .long) (C := RX0) (T := TX0) (N := 2) hx hb hts hiX0 tyX0 tyX0_ok nmX0 hown hK hP hD hS 0 rfl rfl 1 (by decide) (hts (.fieldLink RX0 17 "RangeRules$Span" "greatest" "J") (by decide +kernel)) (fun _ h9 => h9) rfl (by decide +kernel) rfl rfl (Nat.le_of_ble_eq_true rfl) dX0_take_21 (fun H locs hP hD hS => ?_)
  have hP : va_P D vwCl [(h0, .inr (0, [.long (rr_mn a x), .long (rr_mx b x)]))] H := hP
  have hD : va_D A [(h0, .inr (0, [.long (rr_mn a x), .long (rr_mx b x)]))] := hD
  exact W.vret hx hb hr (fun tt ht hW => ⟨⟨(), rfl, trivial, by dsimp only; rw [ht]; exact hP⟩, hS.F ht⟩) hS.2.2 dX0_take_24
set_option maxHeartbeats 1000000 in
set_option maxRecDepth 100000 in
/-- size -/
theorem c_X1_size (l : Launch) (D : va_G) (h0 qT qS sz : Nat) (cA : ClassId) (f : Nat → Int32) (n t : Nat) (lo hi : Int32) (a b : Int64)   : Met l yX1_size wsX1_size ({ frames := 0, cells := 0, slots := 0, locals := 0 }) (rr_pR D (rr_wx h0 qT qS cA f n t lo hi a b) [(cA, .int)] [.ref h0] sz) (va_Qi (fun r (_ : Unit) => r = nI n) (fun _ _ => True) (va_A [] sz)) 0 0 (va_A [] sz) := by
  refine Met.ofW (cc := cX1_size) (maxL := 1) (ret := (some .int)) (by decide) rfl ?_
  intro p e s m args below meth c s₁ B hml hv
  obtain ⟨rfl, hsz, hP, hK⟩ := hv
  have hx := B.exec
  have hb := B.bytes
  have hr := B.returns
  have hts := atoms_spec (ws := wsX1_size) B.pre
  have hown : s.vm.findClass RX1 = some m.cls := findClass_of_methodNamed B.named
  have hlocks := B.notSynchronized
  subst hsz
  generalize hAe : va_A [] s.heap.size = A
  have hA : ∀ q : Nat, s.heap.size ≤ q → A q := fun q h => by rw [← hAe]; exact Or.inr h
  have hS : va_S A s.heap s.heap [] := va_S.rf
  have hP : va_P D vwCl [(h0, .inr (1, [.ref qT, .int (nI n), .int (nI t), .int lo, .int hi, .ref qS])), (qT, .inl (cA, 187, .inl f)), (qS, .inr (0, [.long a, .long b]))] s.heap := hP
  have hiX1 : ∀ w ∈ wsX10, w ∈ wsX1_size := by decide +kernel
  have hl := lv_entry ([.ref h0]) (n := 1) (Nat.le_of_ble_eq_true rfl)
  rw [lg_entry_eq]
  generalize (lg_sl ([.ref h0]) ++ List.replicate (1 - (lg_sl ([.ref h0])).length) Slot.unset).toArray = ls at hl ⊢
  have hl : lv_has ls 1 [(0, .ref h0)] := hl
  refine lv_aload_n hx hb dX1_size_0 rfl (lv_at hl 0 rfl) ?_
  refine va_get (D := D) (ci := 1) (v := .int (nI n)) (C := RX1) (T := TX1) (N := 6) hx hb hts hiX1 hown hK hP 0 rfl rfl 1 (by decide) (hts (.fieldLink RX1 22 "RangeRules" "thresholdCount" "I") (by decide +kernel)) (fun _ h9 => h9) rfl dX1_size_1 ?_
  exact W.iret (v := nI n) hx hb hr (fun tt ht hW => ⟨⟨_, (), rfl, rfl, trivial⟩, hS.F ht⟩) hS.2.2 dX1_size_4
set_option maxHeartbeats 1000000 in
set_option maxRecDepth 100000 in
/-- low -/
theorem c_X1_low (l : Launch) (D : va_G) (h0 qT qS sz : Nat) (cA : ClassId) (f : Nat → Int32) (n t : Nat) (lo hi : Int32) (a b : Int64)   : Met l yX1_low wsX1_low ({ frames := 0, cells := 0, slots := 0, locals := 0 }) (rr_pR D (rr_wx h0 qT qS cA f n t lo hi a b) [(cA, .int)] [.ref h0] sz) (va_Qi (fun r (_ : Unit) => r = lo) (fun _ _ => True) (va_A [] sz)) 0 0 (va_A [] sz) := by
  refine Met.ofW (cc := cX1_low) (maxL := 1) (ret := (some .int)) (by decide) rfl ?_
  intro p e s m args below meth c s₁ B hml hv
  obtain ⟨rfl, hsz, hP, hK⟩ := hv
  have hx := B.exec
  have hb := B.bytes
  have hr := B.returns
  have hts := atoms_spec (ws := wsX1_low) B.pre
  have hown : s.vm.findClass RX1 = some m.cls := findClass_of_methodNamed B.named
  have hlocks := B.notSynchronized
  subst hsz
  generalize hAe : va_A [] s.heap.size = A
  have hA : ∀ q : Nat, s.heap.size ≤ q → A q := fun q h => by rw [← hAe]; exact Or.inr h
  have hS : va_S A s.heap s.heap [] := va_S.rf
  have hP : va_P D vwCl [(h0, .inr (1, [.ref qT, .int (nI n), .int (nI t), .int lo, .int hi, .ref qS])), (qT, .inl (cA, 187, .inl f)), (qS, .inr (0, [.long a, .long b]))] s.heap := hP
  have hiX1 : ∀ w ∈ wsX10, w ∈ wsX1_low := by decide +kernel
  have hl := lv_entry ([.ref h0]) (n := 1) (Nat.le_of_ble_eq_true rfl)
  rw [lg_entry_eq]
  generalize (lg_sl ([.ref h0]) ++ List.replicate (1 - (lg_sl ([.ref h0])).length) Slot.unset).toArray = ls at hl ⊢
  have hl : lv_has ls 1 [(0, .ref h0)] := hl
  refine lv_aload_n hx hb dX1_low_0 rfl (lv_at hl 0 rfl) ?_
  refine va_get (D := D) (ci := 1) (v := .int lo) (C := RX1) (T := TX1) (N := 6) hx hb hts hiX1 hown hK hP 0 rfl rfl 3 (by decide) (hts (.fieldLink RX1 29 "RangeRules" "resultLow" "I") (by decide +kernel)) (fun _ h9 => h9) rfl dX1_low_1 ?_
  exact W.iret (v := lo) hx hb hr (fun tt ht hW => ⟨⟨_, (), rfl, rfl, trivial⟩, hS.F ht⟩) hS.2.2 dX1_low_4
set_option maxHeartbeats 1000000 in
set_option maxRecDepth 100000 in
/-- high -/
theorem c_X1_high (l : Launch) (D : va_G) (h0 qT qS sz : Nat) (cA : ClassId) (f : Nat → Int32) (n t : Nat) (lo hi : Int32) (a b : Int64)   : Met l yX1_high wsX1_high ({ frames := 0, cells := 0, slots := 0, locals := 0 }) (rr_pR D (rr_wx h0 qT qS cA f n t lo hi a b) [(cA, .int)] [.ref h0] sz) (va_Qi (fun r (_ : Unit) => r = hi) (fun _ _ => True) (va_A [] sz)) 0 0 (va_A [] sz) := by
  refine Met.ofW (cc := cX1_high) (maxL := 1) (ret := (some .int)) (by decide) rfl ?_
  intro p e s m args below meth c s₁ B hml hv
  obtain ⟨rfl, hsz, hP, hK⟩ := hv
  have hx := B.exec
  have hb := B.bytes
  have hr := B.returns
  have hts := atoms_spec (ws := wsX1_high) B.pre
  have hown : s.vm.findClass RX1 = some m.cls := findClass_of_methodNamed B.named
  have hlocks := B.notSynchronized
  subst hsz
  generalize hAe : va_A [] s.heap.size = A
  have hA : ∀ q : Nat, s.heap.size ≤ q → A q := fun q h => by rw [← hAe]; exact Or.inr h
  have hS : va_S A s.heap s.heap [] := va_S.rf
  have hP : va_P D vwCl [(h0, .inr (1, [.ref qT, .int (nI n), .int (nI t), .int lo, .int hi, .ref qS])), (qT, .inl (cA, 187, .inl f)), (qS, .inr (0, [.long a, .long b]))] s.heap := hP
  have hiX1 : ∀ w ∈ wsX10, w ∈ wsX1_high := by decide +kernel
  have hl := lv_entry ([.ref h0]) (n := 1) (Nat.le_of_ble_eq_true rfl)
  rw [lg_entry_eq]
  generalize (lg_sl ([.ref h0]) ++ List.replicate (1 - (lg_sl ([.ref h0])).length) Slot.unset).toArray = ls at hl ⊢
  have hl : lv_has ls 1 [(0, .ref h0)] := hl
  refine lv_aload_n hx hb dX1_high_0 rfl (lv_at hl 0 rfl) ?_
  refine va_get (D := D) (ci := 1) (v := .int hi) (C := RX1) (T := TX1) (N := 6) hx hb hts hiX1 hown hK hP 0 rfl rfl 4 (by decide) (hts (.fieldLink RX1 32 "RangeRules" "resultHigh" "I") (by decide +kernel)) (fun _ h9 => h9) rfl dX1_high_1 ?_
  exact W.iret (v := hi) hx hb hr (fun tt ht hW => ⟨⟨_, (), rfl, rfl, trivial⟩, hS.F ht⟩) hS.2.2 dX1_high_4
set_option maxHeartbeats 1000000 in
set_option maxRecDepth 100000 in
/-- down(v) -/
theorem c_X1_down (l : Launch) (D : va_G) (h0 qT qS sz : Nat) (cA : ClassId) (f : Nat → Int32) (n t : Nat) (lo hi : Int32) (a b : Int64) (v : Int32) (hn : n ≤ 187) : Met l yX1_down wsX1_down ({ frames := 0, cells := 0, slots := 0, locals := 0 }) (rr_pR D (rr_wx h0 qT qS cA f n t lo hi a b) [(cA, .int)] [.ref h0, .int v] sz) (va_Qi (fun r (_ : Unit) => r = rr_dn f v n) (fun _ _ => True) (va_A [] sz)) 0 0 (va_A [] sz) := by
  refine Met.ofW (cc := cX1_down) (maxL := 5) (ret := (some .int)) (by decide) rfl ?_
  intro p e s m args below meth c s₁ B hml hv
  obtain ⟨rfl, hsz, hP, hK⟩ := hv
  have hx := B.exec
  have hb := B.bytes
  have hr := B.returns
  have hts := atoms_spec (ws := wsX1_down) B.pre
  have hown : s.vm.findClass RX1 = some m.cls := findClass_of_methodNamed B.named
  have hlocks := B.notSynchronized
  subst hsz
  generalize hAe : va_A [] s.heap.size = A
  have hA : ∀ q : Nat, s.heap.size ≤ q → A q := fun q h => by rw [← hAe]; exact Or.inr h
  have hS : va_S A s.heap s.heap [] := va_S.rf
  have hP : va_P D vwCl [(h0, .inr (1, [.ref qT, .int (nI n), .int (nI t), .int lo, .int hi, .ref qS])), (qT, .inl (cA, 187, .inl f)), (qS, .inr (0, [.long a, .long b]))] s.heap := hP
  have hiX1 : ∀ w ∈ wsX10, w ∈ wsX1_down := by decide +kernel
  have hl := lv_entry ([.ref h0, .int v]) (n := 5) (Nat.le_of_ble_eq_true rfl)
  rw [lg_entry_eq]
  generalize (lg_sl ([.ref h0, .int v]) ++ List.replicate (5 - (lg_sl ([.ref h0, .int v])).length) Slot.unset).toArray = ls at hl ⊢
  have hl : lv_has ls 5 [(0, .ref h0), (1, .int v)] := hl
  refine lv_ldc (v := (-2147483648)) hx hb hown (hts (.constant RX1 42 (-2147483648)) (by decide +kernel)) dX1_down_0 ?_
  refine lv_istore_n (lv' := [(2, .int ((-2147483648))), (0, .ref h0), (1, .int v)]) hx hb dX1_down_2 rfl hl (by decide) rfl (fun ls hl => ?_)
  refine lv_iconst (v := 0) hx hb dX1_down_3 (by decide) ?_
  refine lv_istore_n (lv' := [(3, .int 0), (2, .int ((-2147483648))), (0, .ref h0), (1, .int v)]) hx hb dX1_down_4 rfl hl (by decide) rfl (fun ls hl => ?_)
  obtain ⟨i, hi0⟩ : ∃ i : Nat, i = 0 := ⟨_, rfl⟩
  replace hl : lv_has ls 5 [(3, .int (nI i)), (2, .int (rr_dn f v i)), (0, .ref h0), (1, .int v)] := by rw [hi0]; exact hl
  obtain ⟨k, hk⟩ : ∃ k : Nat, i + k = n := ⟨n, by omega⟩
  clear hi0
  induction k generalizing i ls with
  | zero =>
    refine lv_iload_n hx hb dX1_down_5 rfl (lv_at hl 0 rfl) ?_
    refine lv_aload_n hx hb dX1_down_6 rfl (lv_at hl 2 rfl) ?_
    refine va_get (D := D) (ci := 1) (v := .int (nI n)) (C := RX1) (T := TX1) (N := 6) hx hb hts hiX1 hown hK hP 0 rfl rfl 1 (by decide) (hts (.fieldLink RX1 22 "RangeRules" "thresholdCount" "I") (by decide +kernel)) (fun _ h9 => h9) rfl dX1_down_7 ?_
    refine lv_icmp_ge (tgt := 42) hx hb dX1_down_10 (by decide) (fun c10 => ?_) (fun c10 => ?_)
    · skip
      refine lv_iload_n hx hb dX1_down_42 rfl (lv_at hl 1 rfl) ?_
      exact W.iret (v := rr_dn f v i) hx hb hr (fun tt ht hW => ⟨⟨_, (), rfl, by rw [← hk]; rfl, trivial⟩, hS.F ht⟩) hS.2.2 dX1_down_43
    · skip
      exact absurd (nI_le (by omega) (by omega)) c10
  | succ k ih =>
    refine lv_iload_n hx hb dX1_down_5 rfl (lv_at hl 0 rfl) ?_
    refine lv_aload_n hx hb dX1_down_6 rfl (lv_at hl 2 rfl) ?_
    refine va_get (D := D) (ci := 1) (v := .int (nI n)) (C := RX1) (T := TX1) (N := 6) hx hb hts hiX1 hown hK hP 0 rfl rfl 1 (by decide) (hts (.fieldLink RX1 22 "RangeRules" "thresholdCount" "I") (by decide +kernel)) (fun _ h9 => h9) rfl dX1_down_7 ?_
    refine lv_icmp_ge (tgt := 42) hx hb dX1_down_10 (by decide) (fun c10 => ?_) (fun c10 => ?_)
    · skip
      exact absurd c10 (nI_ge (by omega) (by omega))
    · skip
      refine lv_aload_n hx hb dX1_down_13 rfl (lv_at hl 2 rfl) ?_
      refine va_get (D := D) (ci := 1) (v := .ref qT) (C := RX1) (T := TX1) (N := 6) hx hb hts hiX1 hown hK hP 0 rfl rfl 0 (by decide) (hts (.fieldLink RX1 13 "RangeRules" "thresholds" "[I") (by decide +kernel)) (fun _ h9 => h9) rfl dX1_down_14 ?_
      refine lv_iload_n hx hb dX1_down_17 rfl (lv_at hl 0 rfl) ?_
      refine va_iald hx hb hK hP 1 0 rfl rfl (vp_in_nI (by omega) (by omega)) dX1_down_18 ?_
      refine W.eq (congrArg (fun z => F0 m 19 ls (.int z :: [])) (congrArg f (nI_clamp (by omega)))) ?_
      refine lv_istore (lv' := [(4, .int (f i)), (3, .int (nI i)), (2, .int (rr_dn f v i)), (0, .ref h0), (1, .int v)]) hx hb dX1_down_19 hl (by decide) rfl (fun ls hl => ?_)
      refine lv_iload hx hb dX1_down_21 (lv_at hl 0 rfl) ?_
      refine lv_iload_n hx hb dX1_down_23 rfl (lv_at hl 4 rfl) ?_
      refine lv_icmp_gt (tgt := 36) hx hb dX1_down_24 (by decide) (fun c24 => ?_) (fun c24 => ?_)
      · skip
        refine lv_iinc (v := nI (i + 1)) (lv' := [(3, .int (nI (i + 1))), (4, .int (f i)), (2, .int (rr_dn f v i)), (0, .ref h0), (1, .int v)]) hx hb dX1_down_36 hl (k := 1) rfl (nI_1 i) (by decide) rfl (fun ls hl => ?_)
        refine lv_goto (tgt := 5) hx hb dX1_down_39 (by decide) ?_
        have ee : rr_dn f v (i + 1) = rr_dn f v i := if_neg (c := f i ≤ v ∧ rr_dn f v i < f i) (fun z => by first | exact c24 z.1 | exact absurd z.1 (Int32.not_le.mpr c24) | exact absurd z.2 (Int32.not_lt.mpr c30))
        refine ih ls (i + 1) ?_ (by omega)
        rw [ee]
        exact lv_sub hl [0, 2, 3, 4] rfl
      · skip
        refine lv_iload hx hb dX1_down_27 (lv_at hl 0 rfl) ?_
        refine lv_iload_n hx hb dX1_down_29 rfl (lv_at hl 2 rfl) ?_
        refine lv_icmp_le (tgt := 36) hx hb dX1_down_30 (by decide) (fun c30 => ?_) (fun c30 => ?_)
        · skip
          refine lv_iinc (v := nI (i + 1)) (lv' := [(3, .int (nI (i + 1))), (4, .int (f i)), (2, .int (rr_dn f v i)), (0, .ref h0), (1, .int v)]) hx hb dX1_down_36 hl (k := 1) rfl (nI_1 i) (by decide) rfl (fun ls hl => ?_)
          refine lv_goto (tgt := 5) hx hb dX1_down_39 (by decide) ?_
          have ee : rr_dn f v (i + 1) = rr_dn f v i := if_neg (c := f i ≤ v ∧ rr_dn f v i < f i) (fun z => by first | exact c24 z.1 | exact absurd z.1 (Int32.not_le.mpr c24) | exact absurd z.2 (Int32.not_lt.mpr c30))
          refine ih ls (i + 1) ?_ (by omega)
          rw [ee]
          exact lv_sub hl [0, 2, 3, 4] rfl
        · skip
          refine lv_iload hx hb dX1_down_33 (lv_at hl 0 rfl) ?_
          refine lv_istore_n (lv' := [(2, .int (f i)), (4, .int (f i)), (3, .int (nI i)), (0, .ref h0), (1, .int v)]) hx hb dX1_down_35 rfl hl (by decide) rfl (fun ls hl => ?_)
          refine lv_iinc (v := nI (i + 1)) (lv' := [(3, .int (nI (i + 1))), (2, .int (f i)), (4, .int (f i)), (0, .ref h0), (1, .int v)]) hx hb dX1_down_36 hl (k := 2) rfl (nI_1 i) (by decide) rfl (fun ls hl => ?_)
          refine lv_goto (tgt := 5) hx hb dX1_down_39 (by decide) ?_
          have ee : rr_dn f v (i + 1) = f i := if_pos (c := f i ≤ v ∧ rr_dn f v i < f i) ⟨Int32.not_lt.mp c24, Int32.not_le.mp c30⟩
          refine ih ls (i + 1) ?_ (by omega)
          rw [ee]
          exact lv_sub hl [0, 1, 3, 4] rfl
set_option maxHeartbeats 1000000 in
set_option maxRecDepth 100000 in
/-- up(v) -/
theorem c_X1_up (l : Launch) (D : va_G) (h0 qT qS sz : Nat) (cA : ClassId) (f : Nat → Int32) (n t : Nat) (lo hi : Int32) (a b : Int64) (v : Int32) (hn : n ≤ 187) : Met l yX1_up wsX1_up ({ frames := 0, cells := 0, slots := 0, locals := 0 }) (rr_pR D (rr_wx h0 qT qS cA f n t lo hi a b) [(cA, .int)] [.ref h0, .int v] sz) (va_Qi (fun r (_ : Unit) => r = rr_up f v n) (fun _ _ => True) (va_A [] sz)) 0 0 (va_A [] sz) := by
  refine Met.ofW (cc := cX1_up) (maxL := 5) (ret := (some .int)) (by decide) rfl ?_
  intro p e s m args below meth c s₁ B hml hv
  obtain ⟨rfl, hsz, hP, hK⟩ := hv
  have hx := B.exec
  have hb := B.bytes
  have hr := B.returns
  have hts := atoms_spec (ws := wsX1_up) B.pre
  have hown : s.vm.findClass RX1 = some m.cls := findClass_of_methodNamed B.named
  have hlocks := B.notSynchronized
  subst hsz
  generalize hAe : va_A [] s.heap.size = A
  have hA : ∀ q : Nat, s.heap.size ≤ q → A q := fun q h => by rw [← hAe]; exact Or.inr h
  have hS : va_S A s.heap s.heap [] := va_S.rf
  have hP : va_P D vwCl [(h0, .inr (1, [.ref qT, .int (nI n), .int (nI t), .int lo, .int hi, .ref qS])), (qT, .inl (cA, 187, .inl f)), (qS, .inr (0, [.long a, .long b]))] s.heap := hP
  have hiX1 : ∀ w ∈ wsX10, w ∈ wsX1_up := by decide +kernel
  have hl := lv_entry ([.ref h0, .int v]) (n := 5) (Nat.le_of_ble_eq_true rfl)
  rw [lg_entry_eq]
  generalize (lg_sl ([.ref h0, .int v]) ++ List.replicate (5 - (lg_sl ([.ref h0, .int v])).length) Slot.unset).toArray = ls at hl ⊢
  have hl : lv_has ls 5 [(0, .ref h0), (1, .int v)] := hl
  refine lv_ldc (v := 2147483647) hx hb hown (hts (.constant RX1 47 2147483647) (by decide +kernel)) dX1_up_0 ?_
  refine lv_istore_n (lv' := [(2, .int 2147483647), (0, .ref h0), (1, .int v)]) hx hb dX1_up_2 rfl hl (by decide) rfl (fun ls hl => ?_)
  refine lv_iconst (v := 0) hx hb dX1_up_3 (by decide) ?_
  refine lv_istore_n (lv' := [(3, .int 0), (2, .int 2147483647), (0, .ref h0), (1, .int v)]) hx hb dX1_up_4 rfl hl (by decide) rfl (fun ls hl => ?_)
  obtain ⟨i, hi0⟩ : ∃ i : Nat, i = 0 := ⟨_, rfl⟩
  replace hl : lv_has ls 5 [(3, .int (nI i)), (2, .int (rr_up f v i)), (0, .ref h0), (1, .int v)] := by rw [hi0]; exact hl
  obtain ⟨k, hk⟩ : ∃ k : Nat, i + k = n := ⟨n, by omega⟩
  clear hi0
  induction k generalizing i ls with
  | zero =>
    refine lv_iload_n hx hb dX1_up_5 rfl (lv_at hl 0 rfl) ?_
    refine lv_aload_n hx hb dX1_up_6 rfl (lv_at hl 2 rfl) ?_
    refine va_get (D := D) (ci := 1) (v := .int (nI n)) (C := RX1) (T := TX1) (N := 6) hx hb hts hiX1 hown hK hP 0 rfl rfl 1 (by decide) (hts (.fieldLink RX1 22 "RangeRules" "thresholdCount" "I") (by decide +kernel)) (fun _ h9 => h9) rfl dX1_up_7 ?_
    refine lv_icmp_ge (tgt := 42) hx hb dX1_up_10 (by decide) (fun c10 => ?_) (fun c10 => ?_)
    · skip
      refine lv_iload_n hx hb dX1_up_42 rfl (lv_at hl 1 rfl) ?_
      exact W.iret (v := rr_up f v i) hx hb hr (fun tt ht hW => ⟨⟨_, (), rfl, by rw [← hk]; rfl, trivial⟩, hS.F ht⟩) hS.2.2 dX1_up_43
    · skip
      exact absurd (nI_le (by omega) (by omega)) c10
  | succ k ih =>
    refine lv_iload_n hx hb dX1_up_5 rfl (lv_at hl 0 rfl) ?_
    refine lv_aload_n hx hb dX1_up_6 rfl (lv_at hl 2 rfl) ?_
    refine va_get (D := D) (ci := 1) (v := .int (nI n)) (C := RX1) (T := TX1) (N := 6) hx hb hts hiX1 hown hK hP 0 rfl rfl 1 (by decide) (hts (.fieldLink RX1 22 "RangeRules" "thresholdCount" "I") (by decide +kernel)) (fun _ h9 => h9) rfl dX1_up_7 ?_
    refine lv_icmp_ge (tgt := 42) hx hb dX1_up_10 (by decide) (fun c10 => ?_) (fun c10 => ?_)
    · skip
      exact absurd c10 (nI_ge (by omega) (by omega))
    · skip
      refine lv_aload_n hx hb dX1_up_13 rfl (lv_at hl 2 rfl) ?_
      refine va_get (D := D) (ci := 1) (v := .ref qT) (C := RX1) (T := TX1) (N := 6) hx hb hts hiX1 hown hK hP 0 rfl rfl 0 (by decide) (hts (.fieldLink RX1 13 "RangeRules" "thresholds" "[I") (by decide +kernel)) (fun _ h9 => h9) rfl dX1_up_14 ?_
      refine lv_iload_n hx hb dX1_up_17 rfl (lv_at hl 0 rfl) ?_
      refine va_iald hx hb hK hP 1 0 rfl rfl (vp_in_nI (by omega) (by omega)) dX1_up_18 ?_
      refine W.eq (congrArg (fun z => F0 m 19 ls (.int z :: [])) (congrArg f (nI_clamp (by omega)))) ?_
      refine lv_istore (lv' := [(4, .int (f i)), (3, .int (nI i)), (2, .int (rr_up f v i)), (0, .ref h0), (1, .int v)]) hx hb dX1_up_19 hl (by decide) rfl (fun ls hl => ?_)
      refine lv_iload hx hb dX1_up_21 (lv_at hl 0 rfl) ?_
      refine lv_iload_n hx hb dX1_up_23 rfl (lv_at hl 4 rfl) ?_
      refine lv_icmp_lt (tgt := 36) hx hb dX1_up_24 (by decide) (fun c24 => ?_) (fun c24 => ?_)
      · skip
        refine lv_iinc (v := nI (i + 1)) (lv' := [(3, .int (nI (i + 1))), (4, .int (f i)), (2, .int (rr_up f v i)), (0, .ref h0), (1, .int v)]) hx hb dX1_up_36 hl (k := 1) rfl (nI_1 i) (by decide) rfl (fun ls hl => ?_)
        refine lv_goto (tgt := 5) hx hb dX1_up_39 (by decide) ?_
        have ee : rr_up f v (i + 1) = rr_up f v i := if_neg (c := v ≤ f i ∧ f i < rr_up f v i) (fun z => by first | exact absurd z.1 (Int32.not_le.mpr c24) | exact absurd z.2 (Int32.not_lt.mpr c30))
        refine ih ls (i + 1) ?_ (by omega)
        rw [ee]
        exact lv_sub hl [0, 2, 3, 4] rfl
      · skip
        refine lv_iload hx hb dX1_up_27 (lv_at hl 0 rfl) ?_
        refine lv_iload_n hx hb dX1_up_29 rfl (lv_at hl 2 rfl) ?_
        refine lv_icmp_ge (tgt := 36) hx hb dX1_up_30 (by decide) (fun c30 => ?_) (fun c30 => ?_)
        · skip
          refine lv_iinc (v := nI (i + 1)) (lv' := [(3, .int (nI (i + 1))), (4, .int (f i)), (2, .int (rr_up f v i)), (0, .ref h0), (1, .int v)]) hx hb dX1_up_36 hl (k := 1) rfl (nI_1 i) (by decide) rfl (fun ls hl => ?_)
          refine lv_goto (tgt := 5) hx hb dX1_up_39 (by decide) ?_
          have ee : rr_up f v (i + 1) = rr_up f v i := if_neg (c := v ≤ f i ∧ f i < rr_up f v i) (fun z => by first | exact absurd z.1 (Int32.not_le.mpr c24) | exact absurd z.2 (Int32.not_lt.mpr c30))
          refine ih ls (i + 1) ?_ (by omega)
          rw [ee]
          exact lv_sub hl [0, 2, 3, 4] rfl
        · skip
          refine lv_iload hx hb dX1_up_33 (lv_at hl 0 rfl) ?_
          refine lv_istore_n (lv' := [(2, .int (f i)), (4, .int (f i)), (3, .int (nI i)), (0, .ref h0), (1, .int v)]) hx hb dX1_up_35 rfl hl (by decide) rfl (fun ls hl => ?_)
          refine lv_iinc (v := nI (i + 1)) (lv' := [(3, .int (nI (i + 1))), (2, .int (f i)), (4, .int (f i)), (0, .ref h0), (1, .int v)]) hx hb dX1_up_36 hl (k := 2) rfl (nI_1 i) (by decide) rfl (fun ls hl => ?_)
          refine lv_goto (tgt := 5) hx hb dX1_up_39 (by decide) ?_
          have ee : rr_up f v (i + 1) = f i := if_pos (c := v ≤ f i ∧ f i < rr_up f v i) ⟨Int32.not_lt.mp c24, Int32.not_le.mp c30⟩
          refine ih ls (i + 1) ?_ (by omega)
          rw [ee]
          exact lv_sub hl [0, 1, 3, 4] rfl
set_option maxHeartbeats 1000000 in
set_option maxRecDepth 100000 in
/-- isThreshold(v) -/
theorem c_X1_isThreshold (l : Launch) (D : va_G) (h0 qT qS sz : Nat) (cA : ClassId) (f : Nat → Int32) (n t : Nat) (lo hi : Int32) (a b : Int64) (v : Int32) (hn : n ≤ 187) (hk : rr_ok f n) : Met l yX1_isThreshold wsX1_isThreshold ({ frames := 1, cells := 0, slots := 0, locals := 30 }) (rr_pR D (rr_wx h0 qT qS cA f n t lo hi a b) [(cA, .int)] [.ref h0, .int v] sz) (va_Qi (fun r (_ : Unit) => r = if rr_fd f v n = true then 1 else 0) (fun _ _ => True) (va_A [] sz)) 0 0 (va_A [] sz) := by
  refine Met.ofW (cc := cX1_isThreshold) (maxL := 2) (ret := (some .boolean)) (by decide) rfl ?_
  intro p e s m args below meth c s₁ B hml hv
  obtain ⟨rfl, hsz, hP, hK⟩ := hv
  have hx := B.exec
  have hb := B.bytes
  have hr := B.returns
  have hts := atoms_spec (ws := wsX1_isThreshold) B.pre
  have hown : s.vm.findClass RX1 = some m.cls := findClass_of_methodNamed B.named
  have hlocks := B.notSynchronized
  subst hsz
  generalize hAe : va_A [] s.heap.size = A
  have hA : ∀ q : Nat, s.heap.size ≤ q → A q := fun q h => by rw [← hAe]; exact Or.inr h
  have hS : va_S A s.heap s.heap [] := va_S.rf
  have hP : va_P D vwCl [(h0, .inr (1, [.ref qT, .int (nI n), .int (nI t), .int lo, .int hi, .ref qS])), (qT, .inl (cA, 187, .inl f)), (qS, .inr (0, [.long a, .long b]))] s.heap := hP
  have hiX1 : ∀ w ∈ wsX10, w ∈ wsX1_isThreshold := by decide +kernel
  have hl := lv_entry ([.ref h0, .int v]) (n := 2) (Nat.le_of_ble_eq_true rfl)
  rw [lg_entry_eq]
  generalize (lg_sl ([.ref h0, .int v]) ++ List.replicate (2 - (lg_sl ([.ref h0, .int v])).length) Slot.unset).toArray = ls at hl ⊢
  have hl : lv_has ls 2 [(0, .ref h0), (1, .int v)] := hl
  refine lv_aload_n hx hb dX1_isThreshold_0 rfl (lv_at hl 0 rfl) ?_
  refine lv_iload_n hx hb dX1_isThreshold_1 rfl (lv_at hl 1 rfl) ?_
  refine rr_ri (va_runV (As := [.int v]) (rest := []) ⟨hx, hb, hml, hown, hts⟩ (c_X1_down l D h0 qT qS s.heap.size cA f n t lo hi a b v hn) (cwV 1 hts gX1_isThreshold_X1_down rfl rfl rfl (by decide +kernel) ⟨Nat.le_of_ble_eq_true rfl, Nat.le_of_ble_eq_true rfl⟩) (rr_vR hK hP (va_recv hK hP (ci := 1) (q0 := 0) rfl rfl)) rfl rfl hl.1 rfl (lv_room (Nat.le_of_ble_eq_true rfl)) dX1_isThreshold_2 ⟨Nat.le_of_ble_eq_true rfl, Nat.le_of_ble_eq_true rfl⟩) hS hA hP (fun r2 H locs e2 hP hS => ?_)
  subst e2
  refine lv_iload_n hx hb dX1_isThreshold_5 rfl (lv_at hl 1 rfl) ?_
  refine lv_icmp_ne (tgt := 13) hx hb dX1_isThreshold_6 (by decide) (fun c6 => ?_) (fun c6 => ?_)
  · skip
    refine lv_iconst (v := 0) hx hb dX1_isThreshold_13 (by decide) ?_
    exact W.zret (v := 0) hx hb hr rfl (fun tt ht hW => ⟨⟨_, (), rfl, by rw [if_neg (fun z => c6 ((rr_dn_iff hk v).mpr z))], trivial⟩, hS.F ht⟩) hS.2.2 dX1_isThreshold_14
  · skip
    refine lv_iconst (v := 1) hx hb dX1_isThreshold_9 (by decide) ?_
    refine lv_goto (tgt := 14) hx hb dX1_isThreshold_10 (by decide) ?_
    exact W.zret (v := 1) hx hb hr rfl (fun tt ht hW => ⟨⟨_, (), rfl, by rw [if_pos ((rr_dn_iff hk v).mp c6)], trivial⟩, hS.F ht⟩) hS.2.2 dX1_isThreshold_14
set_option maxHeartbeats 1000000 in
set_option maxRecDepth 100000 in
/-- isRange(x, y) -/
theorem c_X1_isRange (l : Launch) (D : va_G) (h0 qT qS sz : Nat) (cA : ClassId) (f : Nat → Int32) (n t : Nat) (lo hi : Int32) (a b : Int64) (x y : Int32) (hn : n ≤ 187) (hk : rr_ok f n) : Met l yX1_isRange wsX1_isRange ({ frames := 2, cells := 0, slots := 0, locals := 51 }) (rr_pR D (rr_wx h0 qT qS cA f n t lo hi a b) [(cA, .int)] [.ref h0, .int x, .int y] sz) (va_Qi (fun r (_ : Unit) => r = if rr_rg f n x y = true then 1 else 0) (fun _ _ => True) (va_A [] sz)) 0 0 (va_A [] sz) := by
  refine Met.ofW (cc := cX1_isRange) (maxL := 3) (ret := (some .boolean)) (by decide) rfl ?_
  intro p e s m args below meth c s₁ B hml hv
  obtain ⟨rfl, hsz, hP, hK⟩ := hv
  have hx := B.exec
  have hb := B.bytes
  have hr := B.returns
  have hts := atoms_spec (ws := wsX1_isRange) B.pre
  have hown : s.vm.findClass RX1 = some m.cls := findClass_of_methodNamed B.named
  have hlocks := B.notSynchronized
  subst hsz
  generalize hAe : va_A [] s.heap.size = A
  have hA : ∀ q : Nat, s.heap.size ≤ q → A q := fun q h => by rw [← hAe]; exact Or.inr h
  have hS : va_S A s.heap s.heap [] := va_S.rf
  have hP : va_P D vwCl [(h0, .inr (1, [.ref qT, .int (nI n), .int (nI t), .int lo, .int hi, .ref qS])), (qT, .inl (cA, 187, .inl f)), (qS, .inr (0, [.long a, .long b]))] s.heap := hP
  have hiX1 : ∀ w ∈ wsX10, w ∈ wsX1_isRange := by decide +kernel
  have hl := lv_entry ([.ref h0, .int x, .int y]) (n := 3) (Nat.le_of_ble_eq_true rfl)
  rw [lg_entry_eq]
  generalize (lg_sl ([.ref h0, .int x, .int y]) ++ List.replicate (3 - (lg_sl ([.ref h0, .int x, .int y])).length) Slot.unset).toArray = ls at hl ⊢
  have hl : lv_has ls 3 [(0, .ref h0), (1, .int x), (2, .int y)] := hl
  refine lv_iload_n hx hb dX1_isRange_0 rfl (lv_at hl 1 rfl) ?_
  refine lv_iload_n hx hb dX1_isRange_1 rfl (lv_at hl 2 rfl) ?_
  refine lv_icmp_gt (tgt := 25) hx hb dX1_isRange_2 (by decide) (fun c2 => ?_) (fun c2 => ?_)
  · skip
    refine lv_iconst (v := 0) hx hb dX1_isRange_25 (by decide) ?_
    exact W.zret (v := 0) hx hb hr rfl (fun tt ht hW => ⟨⟨_, (), rfl, by rw [if_neg (fun z => by have z := rr_rg_iff.mp z; first | exact absurd z.1 (Int32.not_le.mpr c2) | exact b7 z.2.1 | exact b15 z.2.2)], trivial⟩, hS.F ht⟩) hS.2.2 dX1_isRange_26
  · skip
    refine lv_aload_n hx hb dX1_isRange_5 rfl (lv_at hl 0 rfl) ?_
    refine lv_iload_n hx hb dX1_isRange_6 rfl (lv_at hl 1 rfl) ?_
    refine rr_ri (va_runV (As := [.int x]) (rest := []) ⟨hx, hb, hml, hown, hts⟩ (c_X1_isThreshold l D h0 qT qS s.heap.size cA f n t lo hi a b x hn hk) (cwV 1 hts gX1_isRange_X1_isThreshold rfl rfl rfl (by decide +kernel) ⟨Nat.le_of_ble_eq_true rfl, Nat.le_of_ble_eq_true rfl⟩) (rr_vR hK hP (va_recv hK hP (ci := 1) (q0 := 0) rfl rfl)) rfl rfl hl.1 rfl (lv_room (Nat.le_of_ble_eq_true rfl)) dX1_isRange_7 ⟨Nat.le_of_ble_eq_true rfl, Nat.le_of_ble_eq_true rfl⟩) hS hA hP (fun r7 H locs e7 hP hS => ?_)
    by_cases b7 : rr_fd f x n = true
    · rw [if_pos b7] at e7
      subst e7
      refine lv_if_eq (tgt := 25) hx hb dX1_isRange_10 (by decide) (fun c10 => ?_) (fun c10 => ?_)
      · skip
        exact absurd c10 (by decide)
      · skip
        refine lv_aload_n hx hb dX1_isRange_13 rfl (lv_at hl 0 rfl) ?_
        refine lv_iload_n hx hb dX1_isRange_14 rfl (lv_at hl 2 rfl) ?_
        refine rr_ri (va_runV (As := [.int y]) (rest := []) ⟨hx, hb, hml, hown, hts⟩ (c_X1_isThreshold l D h0 qT qS H.size cA f n t lo hi a b y hn hk) (cwV 1 hts gX1_isRange_X1_isThreshold rfl rfl rfl (by decide +kernel) ⟨Nat.le_of_ble_eq_true rfl, Nat.le_of_ble_eq_true rfl⟩) (rr_vR hK hP (va_recv hK hP (ci := 1) (q0 := 0) rfl rfl)) rfl rfl hl.1 rfl (lv_room (Nat.le_of_ble_eq_true rfl)) dX1_isRange_15 ⟨Nat.le_of_ble_eq_true rfl, Nat.le_of_ble_eq_true rfl⟩) hS hA hP (fun r15 H locs e15 hP hS => ?_)
        by_cases b15 : rr_fd f y n = true
        · rw [if_pos b15] at e15
          subst e15
          refine lv_if_eq (tgt := 25) hx hb dX1_isRange_18 (by decide) (fun c18 => ?_) (fun c18 => ?_)
          · skip
            exact absurd c18 (by decide)
          · skip
            refine lv_iconst (v := 1) hx hb dX1_isRange_21 (by decide) ?_
            refine lv_goto (tgt := 26) hx hb dX1_isRange_22 (by decide) ?_
            exact W.zret (v := 1) hx hb hr rfl (fun tt ht hW => ⟨⟨_, (), rfl, by rw [if_pos (rr_rg_iff.mpr ⟨Int32.not_lt.mp c2, b7, b15⟩)], trivial⟩, hS.F ht⟩) hS.2.2 dX1_isRange_26
        · rw [if_neg b15] at e15
          subst e15
          refine lv_if_eq (tgt := 25) hx hb dX1_isRange_18 (by decide) (fun c18 => ?_) (fun c18 => ?_)
          · skip
            refine lv_iconst (v := 0) hx hb dX1_isRange_25 (by decide) ?_
            exact W.zret (v := 0) hx hb hr rfl (fun tt ht hW => ⟨⟨_, (), rfl, by rw [if_neg (fun z => by have z := rr_rg_iff.mp z; first | exact absurd z.1 (Int32.not_le.mpr c2) | exact b7 z.2.1 | exact b15 z.2.2)], trivial⟩, hS.F ht⟩) hS.2.2 dX1_isRange_26
          · skip
            exact absurd c18 (by decide)
    · rw [if_neg b7] at e7
      subst e7
      refine lv_if_eq (tgt := 25) hx hb dX1_isRange_10 (by decide) (fun c10 => ?_) (fun c10 => ?_)
      · skip
        refine lv_iconst (v := 0) hx hb dX1_isRange_25 (by decide) ?_
        exact W.zret (v := 0) hx hb hr rfl (fun tt ht hW => ⟨⟨_, (), rfl, by rw [if_neg (fun z => by have z := rr_rg_iff.mp z; first | exact absurd z.1 (Int32.not_le.mpr c2) | exact b7 z.2.1 | exact b15 z.2.2)], trivial⟩, hS.F ht⟩) hS.2.2 dX1_isRange_26
      · skip
        exact absurd c10 (by decide)
set_option maxHeartbeats 1000000 in
set_option maxRecDepth 100000 in
/-- isInt(x) -/
theorem c_X1_isInt (l : Launch) (sz : Nat) (x : Int64)  : Met l yX1_isInt wsX1_isInt ({ frames := 0, cells := 0, slots := 0, locals := 0 }) (rr_p0 [.long x] sz) (va_Qi (fun r (_ : Unit) => r = if (-2147483648 ≤ x ∧ x ≤ 2147483647) then 1 else 0) (fun _ _ => True) (va_A [] sz)) 0 0 (va_A [] sz) := by
  refine Met.ofW (cc := cX1_isInt) (maxL := 2) (ret := (some .boolean)) (by decide) rfl ?_
  intro p e s m args below meth c s₁ B hml hv
  obtain ⟨rfl, hsz⟩ := hv
  have hx := B.exec
  have hb := B.bytes
  have hr := B.returns
  have hts := atoms_spec (ws := wsX1_isInt) B.pre
  have hown : s.vm.findClass RX1 = some m.cls := findClass_of_methodNamed B.named
  have hlocks := B.notSynchronized
  subst hsz
  generalize hAe : va_A [] s.heap.size = A
  have hA : ∀ q : Nat, s.heap.size ≤ q → A q := fun q h => by rw [← hAe]; exact Or.inr h
  have hS : va_S A s.heap s.heap [] := va_S.rf
  have hP : va_P (fun _ => 0, fun _ _ => 0) vwCl [] s.heap := fun k q h => by simp at h
  have hl := lv_entry ([.long x]) (n := 2) (Nat.le_of_ble_eq_true rfl)
  rw [lg_entry_eq]
  generalize (lg_sl ([.long x]) ++ List.replicate (2 - (lg_sl ([.long x])).length) Slot.unset).toArray = ls at hl ⊢
  have hl : lv_has ls 2 [(0, .long x)] := hl
  refine lv_lload_n hx hb dX1_isInt_0 rfl (lv_at hl 0 rfl) ?_
  refine lv_ldc2 (v := (-2147483648)) hx hb hown (hts (.constantLong RX1 97 (-2147483648)) (by decide +kernel)) dX1_isInt_1 ?_
  refine W.lcmp hx hb dX1_isInt_4 ?_
  refine lv_if_lt (tgt := 20) hx hb dX1_isInt_5 (by decide) (fun c5 => ?_) (fun c5 => ?_)
  · skip
    refine lv_iconst (v := 0) hx hb dX1_isInt_20 (by decide) ?_
    exact W.zret (v := 0) hx hb hr rfl (fun tt ht hW => ⟨⟨_, (), rfl, by simp only [lg_cmp_lt, lg_cmp_gt, Int64.not_lt] at *; rw [if_neg (fun z => by first | exact absurd z.1 (Int64.not_le.mpr c5) | exact absurd z.2 (Int64.not_le.mpr c13))], trivial⟩, hS.F ht⟩) hS.2.2 dX1_isInt_21
  · skip
    refine lv_lload_n hx hb dX1_isInt_8 rfl (lv_at hl 0 rfl) ?_
    refine lv_ldc2 (v := 2147483647) hx hb hown (hts (.constantLong RX1 99 2147483647) (by decide +kernel)) dX1_isInt_9 ?_
    refine W.lcmp hx hb dX1_isInt_12 ?_
    refine lv_if_gt (tgt := 20) hx hb dX1_isInt_13 (by decide) (fun c13 => ?_) (fun c13 => ?_)
    · skip
      refine lv_iconst (v := 0) hx hb dX1_isInt_20 (by decide) ?_
      exact W.zret (v := 0) hx hb hr rfl (fun tt ht hW => ⟨⟨_, (), rfl, by simp only [lg_cmp_lt, lg_cmp_gt, Int64.not_lt] at *; rw [if_neg (fun z => by first | exact absurd z.1 (Int64.not_le.mpr c5) | exact absurd z.2 (Int64.not_le.mpr c13))], trivial⟩, hS.F ht⟩) hS.2.2 dX1_isInt_21
    · skip
      refine lv_iconst (v := 1) hx hb dX1_isInt_16 (by decide) ?_
      refine lv_goto (tgt := 21) hx hb dX1_isInt_17 (by decide) ?_
      exact W.zret (v := 1) hx hb hr rfl (fun tt ht hW => ⟨⟨_, (), rfl, by simp only [lg_cmp_lt, lg_cmp_gt, Int64.not_lt] at *; rw [if_pos ⟨c5, c13⟩], trivial⟩, hS.F ht⟩) hS.2.2 dX1_isInt_21
set_option maxHeartbeats 1000000 in
set_option maxRecDepth 100000 in
/-- tellAllInts() -/
theorem c_X1_tellAllInts (l : Launch) (D : va_G) (h0 qT qS sz : Nat) (cA : ClassId) (f : Nat → Int32) (n t : Nat) (lo hi : Int32) (a b : Int64)   : Met l yX1_tellAllInts wsX1_tellAllInts ({ frames := 0, cells := 0, slots := 0, locals := 0 }) (rr_pW D (rr_wx h0 qT qS cA f n t lo hi a b) [(cA, .int)] [.ref h0] sz) (va_Qv (fun (_ : Unit) => True) (fun _ tt => va_P D vwCl (rr_wx h0 qT qS cA f n t (-2147483648) 2147483647 a b) tt.heap) (va_A (rr_wx h0 qT qS cA f n t lo hi a b) sz)) 0 0 (va_A (rr_wx h0 qT qS cA f n t lo hi a b) sz) := by
  refine Met.ofW (cc := cX1_tellAllInts) (maxL := 1) (ret := none) (by decide) rfl ?_
  intro p e s m args below meth c s₁ B hml hv
  obtain ⟨rfl, hsz, hP, hK, hD0⟩ := hv
  have hx := B.exec
  have hb := B.bytes
  have hr := B.returns
  have hts := atoms_spec (ws := wsX1_tellAllInts) B.pre
  have hown : s.vm.findClass RX1 = some m.cls := findClass_of_methodNamed B.named
  have hlocks := B.notSynchronized
  subst hsz
  have hD := hD0.self (sz := s.heap.size)
  generalize hAe : va_A [(h0, .inr (1, [.ref qT, .int (nI n), .int (nI t), .int lo, .int hi, .ref qS])), (qT, .inl (cA, 187, .inl f)), (qS, .inr (0, [.long a, .long b]))] s.heap.size = A at hD ⊢
  have hA : ∀ q : Nat, s.heap.size ≤ q → A q := fun q h => by rw [← hAe]; exact Or.inr h
  have hS : va_S A s.heap s.heap [] := va_S.rf
  have hP : va_P D vwCl [(h0, .inr (1, [.ref qT, .int (nI n), .int (nI t), .int lo, .int hi, .ref qS])), (qT, .inl (cA, 187, .inl f)), (qS, .inr (0, [.long a, .long b]))] s.heap := hP
  have hiX1 : ∀ w ∈ wsX10, w ∈ wsX1_tellAllInts := by decide +kernel
  have hl := lv_entry ([.ref h0]) (n := 1) (Nat.le_of_ble_eq_true rfl)
  rw [lg_entry_eq]
  generalize (lg_sl ([.ref h0]) ++ List.replicate (1 - (lg_sl ([.ref h0])).length) Slot.unset).toArray = ls at hl ⊢
  have hl : lv_has ls 1 [(0, .ref h0)] := hl
  refine lv_aload_n hx hb dX1_tellAllInts_0 rfl (lv_at hl 0 rfl) ?_
  refine lv_ldc (v := (-2147483648)) hx hb hown (hts (.constant RX1 42 (-2147483648)) (by decide +kernel)) dX1_tellAllInts_1 ?_
  refine va_put (D := D) (ci := 1) (v := .int ((-2147483648))) (ty := .int) (C := RX1) (T := TX1) (N := 6) hx hb hts hiX1 tyX1 tyX1_ok nmX1 hown hK hP hD hS 0 rfl rfl 3 (by decide) (hts (.fieldLink RX1 29 "RangeRules" "resultLow" "I") (by decide +kernel)) (fun _ h9 => h9) rfl (by decide +kernel) rfl rfl (Nat.le_of_ble_eq_true rfl) dX1_tellAllInts_3 (fun H locs hP hD hS => ?_)
  have hP : va_P D vwCl [(h0, .inr (1, [.ref qT, .int (nI n), .int (nI t), .int ((-2147483648)), .int hi, .ref qS])), (qT, .inl (cA, 187, .inl f)), (qS, .inr (0, [.long a, .long b]))] H := hP
  have hD : va_D A [(h0, .inr (1, [.ref qT, .int (nI n), .int (nI t), .int ((-2147483648)), .int hi, .ref qS])), (qT, .inl (cA, 187, .inl f)), (qS, .inr (0, [.long a, .long b]))] := hD
  refine lv_aload_n hx hb dX1_tellAllInts_6 rfl (lv_at hl 0 rfl) ?_
  refine lv_ldc (v := 2147483647) hx hb hown (hts (.constant RX1 47 2147483647) (by decide +kernel)) dX1_tellAllInts_7 ?_
  refine va_put (D := D) (ci := 1) (v := .int 2147483647) (ty := .int) (C := RX1) (T := TX1) (N := 6) hx hb hts hiX1 tyX1 tyX1_ok nmX1 hown hK hP hD hS 0 rfl rfl 4 (by decide) (hts (.fieldLink RX1 32 "RangeRules" "resultHigh" "I") (by decide +kernel)) (fun _ h9 => h9) rfl (by decide +kernel) rfl rfl (Nat.le_of_ble_eq_true rfl) dX1_tellAllInts_9 (fun H locs hP hD hS => ?_)
  have hP : va_P D vwCl [(h0, .inr (1, [.ref qT, .int (nI n), .int (nI t), .int ((-2147483648)), .int 2147483647, .ref qS])), (qT, .inl (cA, 187, .inl f)), (qS, .inr (0, [.long a, .long b]))] H := hP
  have hD : va_D A [(h0, .inr (1, [.ref qT, .int (nI n), .int (nI t), .int ((-2147483648)), .int 2147483647, .ref qS])), (qT, .inl (cA, 187, .inl f)), (qS, .inr (0, [.long a, .long b]))] := hD
  exact W.vret hx hb hr (fun tt ht hW => ⟨⟨(), rfl, trivial, by dsimp only; rw [ht]; exact hP⟩, hS.F ht⟩) hS.2.2 dX1_tellAllInts_12
