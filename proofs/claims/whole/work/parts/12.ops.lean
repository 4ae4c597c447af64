set_option maxHeartbeats 1000000 in
set_option maxRecDepth 100000 in
/-- takeQuotients(x, y, d) -/
theorem c_X1_takeQuotients (l : Launch) (D : va_G) (h0 qT qS sz : Nat) (cA : ClassId) (f : Nat → Int32) (n t : Nat) (lo hi : Int32) (a b : Int64) (x y d : Int64)  : Met l yX1_takeQuotients wsX1_takeQuotients ({ frames := 2, cells := 0, slots := 0, locals := 42 }) (rr_pN D (rr_wx h0 qT qS cA f n t lo hi a b) [(cA, .int)] [.ref h0, .long x, .long y, .long d] sz) (va_Qv (fun (_ : Unit) => True) (fun _ tt => va_P D vwCl (rr_wx h0 qT qS cA f n t lo hi (rr_qm (decide (¬ d = 0)) x y d (a, b)).1 (rr_qm (decide (¬ d = 0)) x y d (a, b)).2) tt.heap) (va_A (rr_wx h0 qT qS cA f n t lo hi a b) sz)) 0 0 (va_A (rr_wx h0 qT qS cA f n t lo hi a b) sz) := by
  refine Met.ofW (cc := cX1_takeQuotients) (maxL := 7) (ret := none) (by decide) rfl ?_
  intro p e s m args below meth c s₁ B hml hv
  obtain ⟨rfl, hsz, hP, hK, hD0, hN⟩ := hv
  have hx := B.exec
  have hb := B.bytes
  have hr := B.returns
  have hts := atoms_spec (ws := wsX1_takeQuotients) B.pre
  have hown : s.vm.findClass RX1 = some m.cls := findClass_of_methodNamed B.named
  have hlocks := B.notSynchronized
  subst hsz
  have hD := hD0.self (sz := s.heap.size)
  generalize hAe : va_A [(h0, .inr (1, [.ref qT, .int (nI n), .int (nI t), .int lo, .int hi, .ref qS])), (qT, .inl (cA, 187, .inl f)), (qS, .inr (0, [.long a, .long b]))] s.heap.size = A at hD ⊢
  have hA : ∀ q : Nat, s.heap.size ≤ q → A q := fun q h => by rw [← hAe]; exact Or.inr h
  have hS : va_S A s.heap s.heap [] := va_S.rf
  have hP : va_P D vwCl [(h0, .inr (1, [.ref qT, .int (nI n), .int (nI t), .int lo, .int hi, .ref qS])), (qT, .inl (cA, 187, .inl f)), (qS, .inr (0, [.long a, .long b]))] s.heap := hP
  have hiX1 : ∀ w ∈ wsX10, w ∈ wsX1_takeQuotients := by decide +kernel
  have hl := lv_entry ([.ref h0, .long x, .long y, .long d]) (n := 7) (Nat.le_of_ble_eq_true rfl)
  rw [lg_entry_eq]
  generalize (lg_sl ([.ref h0, .long x, .long y, .long d]) ++ List.replicate (7 - (lg_sl ([.ref h0, .long x, .long y, .long d])).length) Slot.unset).toArray = ls at hl ⊢
  have hl : lv_has ls 7 [(0, .ref h0), (1, .long x), (3, .long y), (5, .long d)] := hl
  have hiX0 : ∀ w ∈ wsX00, w ∈ wsX1_takeQuotients := by decide +kernel
  refine lv_lload hx hb dX1_takeQuotients_0 (lv_at hl 3 rfl) ?_
  refine lv_lconst (v := 0) hx hb dX1_takeQuotients_2 (by decide) ?_
  refine W.lcmp hx hb dX1_takeQuotients_3 ?_
  refine lv_if_eq (tgt := 29) hx hb dX1_takeQuotients_4 (by decide) (fun c4 => ?_) (fun c4 => ?_)
  · skip
    have ee : (rr_qm (decide (¬ d = 0)) x y d (a, b)) = (a, b) := rr_qm_f ((lg_cmp_eq _ _).mp c4)
    exact W.vret hx hb hr (fun tt ht hW => ⟨⟨(), rfl, trivial, by dsimp only; rw [ht, ee]; exact hP⟩, hS.F ht⟩) hS.2.2 dX1_takeQuotients_29
  · skip
    refine lv_aload_n hx hb dX1_takeQuotients_7 rfl (lv_at hl 0 rfl) ?_
    refine va_get (D := D) (ci := 1) (v := .ref qS) (C := RX1) (T := TX1) (N := 6) hx hb hts hiX1 hown hK hP 0 rfl rfl 5 (by decide) (hts (.fieldLink RX1 38 "RangeRules" "span" "LRangeRules$Span;") (by decide +kernel)) (fun _ h9 => h9) rfl dX1_takeQuotients_8 ?_
    refine lv_lload_n hx hb dX1_takeQuotients_11 rfl (lv_at hl 1 rfl) ?_
    refine lv_lload hx hb dX1_takeQuotients_12 (lv_at hl 3 rfl) ?_
    refine lv_ldiv hx hb dX1_takeQuotients_14 (fun z => c4 ((lg_cmp_eq _ _).mpr z)) ?_
    have hPc := hP.sub (ws' := [(qS, .inr (0, [.long a, .long b]))]) [2] rfl
    have hDc := hD.sub (ws' := [(qS, .inr (0, [.long a, .long b]))]) [2] (by decide) rfl
    have hKc := hK.sub (tys' := []) [] rfl
    refine rr_wv (wr := [(h0, .inr (1, [.ref qT, .int (nI n), .int (nI t), .int lo, .int hi, .ref qS])), (qT, .inl (cA, 187, .inl f))]) [2] [0, 1] (va_runVN (As := [.long (x / d)]) (rest := []) ⟨hx, hb, hml, hown, hts⟩ (c_X0_take l D qS s.heap.size a b (x / d)) ⟨va_cnB 1 hts gX1_takeQuotients_X0_take_n104 rfl rfl rfl hN.2.1 (hts (.initialized RX0) (by decide +kernel)) (by decide +kernel) ⟨Nat.le_of_ble_eq_true rfl, Nat.le_of_ble_eq_true rfl⟩, hts (.instanceMethod yX0_take) (by decide +kernel), hts (.selects RX0 yX0_take yX0_take) (by decide +kernel)⟩ (rr_vW hKc hPc hDc (va_recv hKc hPc (ci := 0) (q0 := 0) rfl rfl)) rfl rfl hl.1 rfl (lv_room (Nat.le_of_ble_eq_true rfl)) dX1_takeQuotients_15 ⟨Nat.le_of_ble_eq_true rfl, Nat.le_of_ble_eq_true rfl⟩) hS hA hP hD rfl rfl (by decide) (by decide) (by decide) (fun _ => by simp only [rr_wx, rr_wm, List.map_cons, List.map_nil]) (fun _ H locs _ hP hD hS => ?_)
    have hP : va_P D vwCl [(h0, .inr (1, [.ref qT, .int (nI n), .int (nI t), .int lo, .int hi, .ref qS])), (qT, .inl (cA, 187, .inl f)), (qS, .inr (0, [.long (rr_mn a (x / d)), .long (rr_mx b (x / d))]))] H := hP
    have hD : va_D A [(h0, .inr (1, [.ref qT, .int (nI n), .int (nI t), .int lo, .int hi, .ref qS])), (qT, .inl (cA, 187, .inl f)), (qS, .inr (0, [.long (rr_mn a (x / d)), .long (rr_mx b (x / d))]))] := hD
    obtain ⟨a1, ha1⟩ : ∃ z, z = rr_mn a (x / d) := ⟨_, rfl⟩
    obtain ⟨b1, hb1⟩ : ∃ z, z = rr_mx b (x / d) := ⟨_, rfl⟩
    rw [← ha1, ← hb1] at hP hD
    have hP : va_P D vwCl [(h0, .inr (1, [.ref qT, .int (nI n), .int (nI t), .int lo, .int hi, .ref qS])), (qT, .inl (cA, 187, .inl f)), (qS, .inr (0, [.long a1, .long b1]))] H := hP
    have hD : va_D A [(h0, .inr (1, [.ref qT, .int (nI n), .int (nI t), .int lo, .int hi, .ref qS])), (qT, .inl (cA, 187, .inl f)), (qS, .inr (0, [.long a1, .long b1]))] := hD
    refine lv_aload_n hx hb dX1_takeQuotients_18 rfl (lv_at hl 0 rfl) ?_
    refine va_get (D := D) (ci := 1) (v := .ref qS) (C := RX1) (T := TX1) (N := 6) hx hb hts hiX1 hown hK hP 0 rfl rfl 5 (by decide) (hts (.fieldLink RX1 38 "RangeRules" "span" "LRangeRules$Span;") (by decide +kernel)) (fun _ h9 => h9) rfl dX1_takeQuotients_19 ?_
    refine lv_lload_n hx hb dX1_takeQuotients_22 rfl (lv_at hl 2 rfl) ?_
    refine lv_lload hx hb dX1_takeQuotients_23 (lv_at hl 3 rfl) ?_
    refine lv_ldiv hx hb dX1_takeQuotients_25 (fun z => c4 ((lg_cmp_eq _ _).mpr z)) ?_
    have hPc := hP.sub (ws' := [(qS, .inr (0, [.long a1, .long b1]))]) [2] rfl
    have hDc := hD.sub (ws' := [(qS, .inr (0, [.long a1, .long b1]))]) [2] (by decide) rfl
    have hKc := hK.sub (tys' := []) [] rfl
    refine rr_wv (wr := [(h0, .inr (1, [.ref qT, .int (nI n), .int (nI t), .int lo, .int hi, .ref qS])), (qT, .inl (cA, 187, .inl f))]) [2] [0, 1] (va_runVN (As := [.long (y / d)]) (rest := []) ⟨hx, hb, hml, hown, hts⟩ (c_X0_take l D qS H.size a1 b1 (y / d)) ⟨va_cnB 1 hts gX1_takeQuotients_X0_take_n104 rfl rfl rfl hN.2.1 (hts (.initialized RX0) (by decide +kernel)) (by decide +kernel) ⟨Nat.le_of_ble_eq_true rfl, Nat.le_of_ble_eq_true rfl⟩, hts (.instanceMethod yX0_take) (by decide +kernel), hts (.selects RX0 yX0_take yX0_take) (by decide +kernel)⟩ (rr_vW hKc hPc hDc (va_recv hKc hPc (ci := 0) (q0 := 0) rfl rfl)) rfl rfl hl.1 rfl (lv_room (Nat.le_of_ble_eq_true rfl)) dX1_takeQuotients_26 ⟨Nat.le_of_ble_eq_true rfl, Nat.le_of_ble_eq_true rfl⟩) hS hA hP hD rfl rfl (by decide) (by decide) (by decide) (fun _ => by simp only [rr_wx, rr_wm, List.map_cons, List.map_nil]) (fun _ H locs _ hP hD hS => ?_)
    have hP : va_P D vwCl [(h0, .inr (1, [.ref qT, .int (nI n), .int (nI t), .int lo, .int hi, .ref qS])), (qT, .inl (cA, 187, .inl f)), (qS, .inr (0, [.long (rr_mn a1 (y / d)), .long (rr_mx b1 (y / d))]))] H := hP
    have hD : va_D A [(h0, .inr (1, [.ref qT, .int (nI n), .int (nI t), .int lo, .int hi, .ref qS])), (qT, .inl (cA, 187, .inl f)), (qS, .inr (0, [.long (rr_mn a1 (y / d)), .long (rr_mx b1 (y / d))]))] := hD
    obtain ⟨a2, ha2⟩ : ∃ z, z = rr_mn a1 (y / d) := ⟨_, rfl⟩
    obtain ⟨b2, hb2⟩ : ∃ z, z = rr_mx b1 (y / d) := ⟨_, rfl⟩
    rw [← ha2, ← hb2] at hP hD
    have hP : va_P D vwCl [(h0, .inr (1, [.ref qT, .int (nI n), .int (nI t), .int lo, .int hi, .ref qS])), (qT, .inl (cA, 187, .inl f)), (qS, .inr (0, [.long a2, .long b2]))] H := hP
    have hD : va_D A [(h0, .inr (1, [.ref qT, .int (nI n), .int (nI t), .int lo, .int hi, .ref qS])), (qT, .inl (cA, 187, .inl f)), (qS, .inr (0, [.long a2, .long b2]))] := hD
    have ee : (rr_qm (decide (¬ d = 0)) x y d (a, b)) = (a2, b2) := by rw [ha2, hb2, ha1, hb1]; exact rr_qm_t (fun z => c4 ((lg_cmp_eq _ _).mpr z))
    exact W.vret hx hb hr (fun tt ht hW => ⟨⟨(), rfl, trivial, by dsimp only; rw [ht, ee]; exact hP⟩, hS.F ht⟩) hS.2.2 dX1_takeQuotients_29
set_option maxHeartbeats 1000000 in
set_option maxRecDepth 100000 in
/-- multiply(x, y, z, w) -/
theorem c_X1_multiply (l : Launch) (D : va_G) (h0 qT qS sz : Nat) (cA : ClassId) (f : Nat → Int32) (n t : Nat) (lo hi : Int32) (a b : Int64) (x1 x2 x3 x4 : Int64) (hn : n ≤ 187) : Met l yX1_multiply wsX1_multiply ({ frames := 2, cells := 0, slots := 0, locals := 54 }) (rr_pN D (rr_wx h0 qT qS cA f n t lo hi a b) [(cA, .int)] [.ref h0, .long x1, .long x2, .long x3, .long x4] sz) (va_Qv (fun (u : Int64 × Int64) => True) (fun u tt => va_P D vwCl (rr_wx h0 qT qS cA f n t (rr_tl f n (rr_o2 x1 x2 x3 x4).1 (rr_o2 x1 x2 x3 x4).2).1 (rr_tl f n (rr_o2 x1 x2 x3 x4).1 (rr_o2 x1 x2 x3 x4).2).2 u.1 u.2) tt.heap) (va_A (rr_wx h0 qT qS cA f n t lo hi a b) sz)) 0 0 (va_A (rr_wx h0 qT qS cA f n t lo hi a b) sz) := by
  refine Met.ofW (cc := cX1_multiply) (maxL := 9) (ret := none) (by decide) rfl ?_
  intro p e s m args below meth c s₁ B hml hv
  obtain ⟨rfl, hsz, hP, hK, hD0, hN⟩ := hv
  have hx := B.exec
  have hb := B.bytes
  have hr := B.returns
  have hts := atoms_spec (ws := wsX1_multiply) B.pre
  have hown : s.vm.findClass RX1 = some m.cls := findClass_of_methodNamed B.named
  have hlocks := B.notSynchronized
  subst hsz
  have hD := hD0.self (sz := s.heap.size)
  generalize hAe : va_A [(h0, .inr (1, [.ref qT, .int (nI n), .int (nI t), .int lo, .int hi, .ref qS])), (qT, .inl (cA, 187, .inl f)), (qS, .inr (0, [.long a, .long b]))] s.heap.size = A at hD ⊢
  have hA : ∀ q : Nat, s.heap.size ≤ q → A q := fun q h => by rw [← hAe]; exact Or.inr h
  have hS : va_S A s.heap s.heap [] := va_S.rf
  have hP : va_P D vwCl [(h0, .inr (1, [.ref qT, .int (nI n), .int (nI t), .int lo, .int hi, .ref qS])), (qT, .inl (cA, 187, .inl f)), (qS, .inr (0, [.long a, .long b]))] s.heap := hP
  have hiX1 : ∀ w ∈ wsX10, w ∈ wsX1_multiply := by decide +kernel
  have hl := lv_entry ([.ref h0, .long x1, .long x2, .long x3, .long x4]) (n := 9) (Nat.le_of_ble_eq_true rfl)
  rw [lg_entry_eq]
  generalize (lg_sl ([.ref h0, .long x1, .long x2, .long x3, .long x4]) ++ List.replicate (9 - (lg_sl ([.ref h0, .long x1, .long x2, .long x3, .long x4])).length) Slot.unset).toArray = ls at hl ⊢
  have hl : lv_has ls 9 [(0, .ref h0), (1, .long x1), (3, .long x2), (5, .long x3), (7, .long x4)] := hl
  have hiX0 : ∀ w ∈ wsX00, w ∈ wsX1_multiply := by decide +kernel
  refine lv_aload_n hx hb dX1_multiply_0 rfl (lv_at hl 0 rfl) ?_
  refine va_get (D := D) (ci := 1) (v := .ref qS) (C := RX1) (T := TX1) (N := 6) hx hb hts hiX1 hown hK hP 0 rfl rfl 5 (by decide) (hts (.fieldLink RX1 38 "RangeRules" "span" "LRangeRules$Span;") (by decide +kernel)) (fun _ h9 => h9) rfl dX1_multiply_1 ?_
  have hPc := hP.sub (ws' := [(qS, .inr (0, [.long a, .long b]))]) [2] rfl
  have hDc := hD.sub (ws' := [(qS, .inr (0, [.long a, .long b]))]) [2] (by decide) rfl
  have hKc := hK.sub (tys' := []) [] rfl
  refine rr_wv (wr := [(h0, .inr (1, [.ref qT, .int (nI n), .int (nI t), .int lo, .int hi, .ref qS])), (qT, .inl (cA, 187, .inl f))]) [2] [0, 1] (va_runVN (As := []) (rest := []) ⟨hx, hb, hml, hown, hts⟩ (c_X0_empty l D qS s.heap.size a b) ⟨va_cnB 0 hts gX1_multiply_X0_empty_n101 rfl rfl rfl hN.1 (hts (.initialized RX0) (by decide +kernel)) (by decide +kernel) ⟨Nat.le_of_ble_eq_true rfl, Nat.le_of_ble_eq_true rfl⟩, hts (.instanceMethod yX0_empty) (by decide +kernel), hts (.selects RX0 yX0_empty yX0_empty) (by decide +kernel)⟩ (rr_vW hKc hPc hDc (va_recv hKc hPc (ci := 0) (q0 := 0) rfl rfl)) rfl rfl hl.1 rfl (lv_room (Nat.le_of_ble_eq_true rfl)) dX1_multiply_4 ⟨Nat.le_of_ble_eq_true rfl, Nat.le_of_ble_eq_true rfl⟩) hS hA hP hD rfl rfl (by decide) (by decide) (by decide) (fun _ => by simp only [rr_wx, rr_wm, List.map_cons, List.map_nil]) (fun _ H locs _ hP hD hS => ?_)
  have hP : va_P D vwCl [(h0, .inr (1, [.ref qT, .int (nI n), .int (nI t), .int lo, .int hi, .ref qS])), (qT, .inl (cA, 187, .inl f)), (qS, .inr (0, [.long 9223372036854775807, .long ((-9223372036854775808))]))] H := hP
  have hD : va_D A [(h0, .inr (1, [.ref qT, .int (nI n), .int (nI t), .int lo, .int hi, .ref qS])), (qT, .inl (cA, 187, .inl f)), (qS, .inr (0, [.long 9223372036854775807, .long ((-9223372036854775808))]))] := hD
  refine lv_aload_n hx hb dX1_multiply_7 rfl (lv_at hl 0 rfl) ?_
  refine va_get (D := D) (ci := 1) (v := .ref qS) (C := RX1) (T := TX1) (N := 6) hx hb hts hiX1 hown hK hP 0 rfl rfl 5 (by decide) (hts (.fieldLink RX1 38 "RangeRules" "span" "LRangeRules$Span;") (by decide +kernel)) (fun _ h9 => h9) rfl dX1_multiply_8 ?_
  refine lv_lload_n hx hb dX1_multiply_11 rfl (lv_at hl 1 rfl) ?_
  refine lv_lload hx hb dX1_multiply_12 (lv_at hl 3 rfl) ?_
  refine lv_lmul hx hb dX1_multiply_14 ?_
  have hPc := hP.sub (ws' := [(qS, .inr (0, [.long 9223372036854775807, .long ((-9223372036854775808))]))]) [2] rfl
  have hDc := hD.sub (ws' := [(qS, .inr (0, [.long 9223372036854775807, .long ((-9223372036854775808))]))]) [2] (by decide) rfl
  have hKc := hK.sub (tys' := []) [] rfl
  refine rr_wv (wr := [(h0, .inr (1, [.ref qT, .int (nI n), .int (nI t), .int lo, .int hi, .ref qS])), (qT, .inl (cA, 187, .inl f))]) [2] [0, 1] (va_runVN (As := [.long (x1 * x3)]) (rest := []) ⟨hx, hb, hml, hown, hts⟩ (c_X0_take l D qS H.size 9223372036854775807 (-9223372036854775808) (x1 * x3)) ⟨va_cnB 1 hts gX1_multiply_X0_take_n104 rfl rfl rfl hN.2.1 (hts (.initialized RX0) (by decide +kernel)) (by decide +kernel) ⟨Nat.le_of_ble_eq_true rfl, Nat.le_of_ble_eq_true rfl⟩, hts (.instanceMethod yX0_take) (by decide +kernel), hts (.selects RX0 yX0_take yX0_take) (by decide +kernel)⟩ (rr_vW hKc hPc hDc (va_recv hKc hPc (ci := 0) (q0 := 0) rfl rfl)) rfl rfl hl.1 rfl (lv_room (Nat.le_of_ble_eq_true rfl)) dX1_multiply_15 ⟨Nat.le_of_ble_eq_true rfl, Nat.le_of_ble_eq_true rfl⟩) hS hA hP hD rfl rfl (by decide) (by decide) (by decide) (fun _ => by simp only [rr_wx, rr_wm, List.map_cons, List.map_nil]) (fun _ H locs _ hP hD hS => ?_)
  have hP : va_P D vwCl [(h0, .inr (1, [.ref qT, .int (nI n), .int (nI t), .int lo, .int hi, .ref qS])), (qT, .inl (cA, 187, .inl f)), (qS, .inr (0, [.long (rr_mn 9223372036854775807 (x1 * x3)), .long (rr_mx (-9223372036854775808) (x1 * x3))]))] H := hP
  have hD : va_D A [(h0, .inr (1, [.ref qT, .int (nI n), .int (nI t), .int lo, .int hi, .ref qS])), (qT, .inl (cA, 187, .inl f)), (qS, .inr (0, [.long (rr_mn 9223372036854775807 (x1 * x3)), .long (rr_mx (-9223372036854775808) (x1 * x3))]))] := hD
  obtain ⟨a1, ha1⟩ : ∃ z, z = rr_mn 9223372036854775807 (x1 * x3) := ⟨_, rfl⟩
  obtain ⟨b1, hb1⟩ : ∃ z, z = rr_mx (-9223372036854775808) (x1 * x3) := ⟨_, rfl⟩
  rw [← ha1, ← hb1] at hP hD
  have hP : va_P D vwCl [(h0, .inr (1, [.ref qT, .int (nI n), .int (nI t), .int lo, .int hi, .ref qS])), (qT, .inl (cA, 187, .inl f)), (qS, .inr (0, [.long a1, .long b1]))] H := hP
  have hD : va_D A [(h0, .inr (1, [.ref qT, .int (nI n), .int (nI t), .int lo, .int hi, .ref qS])), (qT, .inl (cA, 187, .inl f)), (qS, .inr (0, [.long a1, .long b1]))] := hD
  refine lv_aload_n hx hb dX1_multiply_18 rfl (lv_at hl 0 rfl) ?_
  refine va_get (D := D) (ci := 1) (v := .ref qS) (C := RX1) (T := TX1) (N := 6) hx hb hts hiX1 hown hK hP 0 rfl rfl 5 (by decide) (hts (.fieldLink RX1 38 "RangeRules" "span" "LRangeRules$Span;") (by decide +kernel)) (fun _ h9 => h9) rfl dX1_multiply_19 ?_
  refine lv_lload_n hx hb dX1_multiply_22 rfl (lv_at hl 1 rfl) ?_
  refine lv_lload hx hb dX1_multiply_23 (lv_at hl 4 rfl) ?_
  refine lv_lmul hx hb dX1_multiply_25 ?_
  have hPc := hP.sub (ws' := [(qS, .inr (0, [.long a1, .long b1]))]) [2] rfl
  have hDc := hD.sub (ws' := [(qS, .inr (0, [.long a1, .long b1]))]) [2] (by decide) rfl
  have hKc := hK.sub (tys' := []) [] rfl
  refine rr_wv (wr := [(h0, .inr (1, [.ref qT, .int (nI n), .int (nI t), .int lo, .int hi, .ref qS])), (qT, .inl (cA, 187, .inl f))]) [2] [0, 1] (va_runVN (As := [.long (x1 * x4)]) (rest := []) ⟨hx, hb, hml, hown, hts⟩ (c_X0_take l D qS H.size a1 b1 (x1 * x4)) ⟨va_cnB 1 hts gX1_multiply_X0_take_n104 rfl rfl rfl hN.2.1 (hts (.initialized RX0) (by decide +kernel)) (by decide +kernel) ⟨Nat.le_of_ble_eq_true rfl, Nat.le_of_ble_eq_true rfl⟩, hts (.instanceMethod yX0_take) (by decide +kernel), hts (.selects RX0 yX0_take yX0_take) (by decide +kernel)⟩ (rr_vW hKc hPc hDc (va_recv hKc hPc (ci := 0) (q0 := 0) rfl rfl)) rfl rfl hl.1 rfl (lv_room (Nat.le_of_ble_eq_true rfl)) dX1_multiply_26 ⟨Nat.le_of_ble_eq_true rfl, Nat.le_of_ble_eq_true rfl⟩) hS hA hP hD rfl rfl (by decide) (by decide) (by decide) (fun _ => by simp only [rr_wx, rr_wm, List.map_cons, List.map_nil]) (fun _ H locs _ hP hD hS => ?_)
  have hP : va_P D vwCl [(h0, .inr (1, [.ref qT, .int (nI n), .int (nI t), .int lo, .int hi, .ref qS])), (qT, .inl (cA, 187, .inl f)), (qS, .inr (0, [.long (rr_mn a1 (x1 * x4)), .long (rr_mx b1 (x1 * x4))]))] H := hP
  have hD : va_D A [(h0, .inr (1, [.ref qT, .int (nI n), .int (nI t), .int lo, .int hi, .ref qS])), (qT, .inl (cA, 187, .inl f)), (qS, .inr (0, [.long (rr_mn a1 (x1 * x4)), .long (rr_mx b1 (x1 * x4))]))] := hD
  obtain ⟨a2, ha2⟩ : ∃ z, z = rr_mn a1 (x1 * x4) := ⟨_, rfl⟩
  obtain ⟨b2, hb2⟩ : ∃ z, z = rr_mx b1 (x1 * x4) := ⟨_, rfl⟩
  rw [← ha2, ← hb2] at hP hD
  have hP : va_P D vwCl [(h0, .inr (1, [.ref qT, .int (nI n), .int (nI t), .int lo, .int hi, .ref qS])), (qT, .inl (cA, 187, .inl f)), (qS, .inr (0, [.long a2, .long b2]))] H := hP
  have hD : va_D A [(h0, .inr (1, [.ref qT, .int (nI n), .int (nI t), .int lo, .int hi, .ref qS])), (qT, .inl (cA, 187, .inl f)), (qS, .inr (0, [.long a2, .long b2]))] := hD
  refine lv_aload_n hx hb dX1_multiply_29 rfl (lv_at hl 0 rfl) ?_
  refine va_get (D := D) (ci := 1) (v := .ref qS) (C := RX1) (T := TX1) (N := 6) hx hb hts hiX1 hown hK hP 0 rfl rfl 5 (by decide) (hts (.fieldLink RX1 38 "RangeRules" "span" "LRangeRules$Span;") (by decide +kernel)) (fun _ h9 => h9) rfl dX1_multiply_30 ?_
  refine lv_lload_n hx hb dX1_multiply_33 rfl (lv_at hl 2 rfl) ?_
  refine lv_lload hx hb dX1_multiply_34 (lv_at hl 3 rfl) ?_
  refine lv_lmul hx hb dX1_multiply_36 ?_
  have hPc := hP.sub (ws' := [(qS, .inr (0, [.long a2, .long b2]))]) [2] rfl
  have hDc := hD.sub (ws' := [(qS, .inr (0, [.long a2, .long b2]))]) [2] (by decide) rfl
  have hKc := hK.sub (tys' := []) [] rfl
  refine rr_wv (wr := [(h0, .inr (1, [.ref qT, .int (nI n), .int (nI t), .int lo, .int hi, .ref qS])), (qT, .inl (cA, 187, .inl f))]) [2] [0, 1] (va_runVN (As := [.long (x2 * x3)]) (rest := []) ⟨hx, hb, hml, hown, hts⟩ (c_X0_take l D qS H.size a2 b2 (x2 * x3)) ⟨va_cnB 1 hts gX1_multiply_X0_take_n104 rfl rfl rfl hN.2.1 (hts (.initialized RX0) (by decide +kernel)) (by decide +kernel) ⟨Nat.le_of_ble_eq_true rfl, Nat.le_of_ble_eq_true rfl⟩, hts (.instanceMethod yX0_take) (by decide +kernel), hts (.selects RX0 yX0_take yX0_take) (by decide +kernel)⟩ (rr_vW hKc hPc hDc (va_recv hKc hPc (ci := 0) (q0 := 0) rfl rfl)) rfl rfl hl.1 rfl (lv_room (Nat.le_of_ble_eq_true rfl)) dX1_multiply_37 ⟨Nat.le_of_ble_eq_true rfl, Nat.le_of_ble_eq_true rfl⟩) hS hA hP hD rfl rfl (by decide) (by decide) (by decide) (fun _ => by simp only [rr_wx, rr_wm, List.map_cons, List.map_nil]) (fun _ H locs _ hP hD hS => ?_)
  have hP : va_P D vwCl [(h0, .inr (1, [.ref qT, .int (nI n), .int (nI t), .int lo, .int hi, .ref qS])), (qT, .inl (cA, 187, .inl f)), (qS, .inr (0, [.long (rr_mn a2 (x2 * x3)), .long (rr_mx b2 (x2 * x3))]))] H := hP
  have hD : va_D A [(h0, .inr (1, [.ref qT, .int (nI n), .int (nI t), .int lo, .int hi, .ref qS])), (qT, .inl (cA, 187, .inl f)), (qS, .inr (0, [.long (rr_mn a2 (x2 * x3)), .long (rr_mx b2 (x2 * x3))]))] := hD
  obtain ⟨a3, ha3⟩ : ∃ z, z = rr_mn a2 (x2 * x3) := ⟨_, rfl⟩
  obtain ⟨b3, hb3⟩ : ∃ z, z = rr_mx b2 (x2 * x3) := ⟨_, rfl⟩
  rw [← ha3, ← hb3] at hP hD
  have hP : va_P D vwCl [(h0, .inr (1, [.ref qT, .int (nI n), .int (nI t), .int lo, .int hi, .ref qS])), (qT, .inl (cA, 187, .inl f)), (qS, .inr (0, [.long a3, .long b3]))] H := hP
  have hD : va_D A [(h0, .inr (1, [.ref qT, .int (nI n), .int (nI t), .int lo, .int hi, .ref qS])), (qT, .inl (cA, 187, .inl f)), (qS, .inr (0, [.long a3, .long b3]))] := hD
  refine lv_aload_n hx hb dX1_multiply_40 rfl (lv_at hl 0 rfl) ?_
  refine va_get (D := D) (ci := 1) (v := .ref qS) (C := RX1) (T := TX1) (N := 6) hx hb hts hiX1 hown hK hP 0 rfl rfl 5 (by decide) (hts (.fieldLink RX1 38 "RangeRules" "span" "LRangeRules$Span;") (by decide +kernel)) (fun _ h9 => h9) rfl dX1_multiply_41 ?_
  refine lv_lload_n hx hb dX1_multiply_44 rfl (lv_at hl 2 rfl) ?_
  refine lv_lload hx hb dX1_multiply_45 (lv_at hl 4 rfl) ?_
  refine lv_lmul hx hb dX1_multiply_47 ?_
  have hPc := hP.sub (ws' := [(qS, .inr (0, [.long a3, .long b3]))]) [2] rfl
  have hDc := hD.sub (ws' := [(qS, .inr (0, [.long a3, .long b3]))]) [2] (by decide) rfl
  have hKc := hK.sub (tys' := []) [] rfl
  refine rr_wv (wr := [(h0, .inr (1, [.ref qT, .int (nI n), .int (nI t), .int lo, .int hi, .ref qS])), (qT, .inl (cA, 187, .inl f))]) [2] [0, 1] (va_runVN (As := [.long (x2 * x4)]) (rest := []) ⟨hx, hb, hml, hown, hts⟩ (c_X0_take l D qS H.size a3 b3 (x2 * x4)) ⟨va_cnB 1 hts gX1_multiply_X0_take_n104 rfl rfl rfl hN.2.1 (hts (.initialized RX0) (by decide +kernel)) (by decide +kernel) ⟨Nat.le_of_ble_eq_true rfl, Nat.le_of_ble_eq_true rfl⟩, hts (.instanceMethod yX0_take) (by decide +kernel), hts (.selects RX0 yX0_take yX0_take) (by decide +kernel)⟩ (rr_vW hKc hPc hDc (va_recv hKc hPc (ci := 0) (q0 := 0) rfl rfl)) rfl rfl hl.1 rfl (lv_room (Nat.le_of_ble_eq_true rfl)) dX1_multiply_48 ⟨Nat.le_of_ble_eq_true rfl, Nat.le_of_ble_eq_true rfl⟩) hS hA hP hD rfl rfl (by decide) (by decide) (by decide) (fun _ => by simp only [rr_wx, rr_wm, List.map_cons, List.map_nil]) (fun _ H locs _ hP hD hS => ?_)
  have hP : va_P D vwCl [(h0, .inr (1, [.ref qT, .int (nI n), .int (nI t), .int lo, .int hi, .ref qS])), (qT, .inl (cA, 187, .inl f)), (qS, .inr (0, [.long (rr_mn a3 (x2 * x4)), .long (rr_mx b3 (x2 * x4))]))] H := hP
  have hD : va_D A [(h0, .inr (1, [.ref qT, .int (nI n), .int (nI t), .int lo, .int hi, .ref qS])), (qT, .inl (cA, 187, .inl f)), (qS, .inr (0, [.long (rr_mn a3 (x2 * x4)), .long (rr_mx b3 (x2 * x4))]))] := hD
  obtain ⟨a4, ha4⟩ : ∃ z, z = rr_mn a3 (x2 * x4) := ⟨_, rfl⟩
  obtain ⟨b4, hb4⟩ : ∃ z, z = rr_mx b3 (x2 * x4) := ⟨_, rfl⟩
  rw [← ha4, ← hb4] at hP hD
  have hP : va_P D vwCl [(h0, .inr (1, [.ref qT, .int (nI n), .int (nI t), .int lo, .int hi, .ref qS])), (qT, .inl (cA, 187, .inl f)), (qS, .inr (0, [.long a4, .long b4]))] H := hP
  have hD : va_D A [(h0, .inr (1, [.ref qT, .int (nI n), .int (nI t), .int lo, .int hi, .ref qS])), (qT, .inl (cA, 187, .inl f)), (qS, .inr (0, [.long a4, .long b4]))] := hD
  refine lv_aload_n hx hb dX1_multiply_51 rfl (lv_at hl 0 rfl) ?_
  refine lv_aload_n hx hb dX1_multiply_52 rfl (lv_at hl 0 rfl) ?_
  refine va_get (D := D) (ci := 1) (v := .ref qS) (C := RX1) (T := TX1) (N := 6) hx hb hts hiX1 hown hK hP 0 rfl rfl 5 (by decide) (hts (.fieldLink RX1 38 "RangeRules" "span" "LRangeRules$Span;") (by decide +kernel)) (fun _ h9 => h9) rfl dX1_multiply_53 ?_
  refine va_getN (D := D) (ci := 0) (v := .long a4) (C := RX0) (T := TX0) (N := 2) hx hb hts hiX0 hown hK hP 2 rfl rfl 0 (by decide) (va_Nw.use rfl hN.2.2.1) (fun _ h9 => h9) rfl dX1_multiply_56 ?_
  refine lv_aload_n hx hb dX1_multiply_59 rfl (lv_at hl 0 rfl) ?_
  refine va_get (D := D) (ci := 1) (v := .ref qS) (C := RX1) (T := TX1) (N := 6) hx hb hts hiX1 hown hK hP 0 rfl rfl 5 (by decide) (hts (.fieldLink RX1 38 "RangeRules" "span" "LRangeRules$Span;") (by decide +kernel)) (fun _ h9 => h9) rfl dX1_multiply_60 ?_
  refine va_getN (D := D) (ci := 0) (v := .long b4) (C := RX0) (T := TX0) (N := 2) hx hb hts hiX0 hown hK hP 2 rfl rfl 1 (by decide) (va_Nw.use rfl hN.2.2.2) (fun _ h9 => h9) rfl dX1_multiply_63 ?_
  refine rr_wv (wr := []) [0, 1, 2] [] (va_runV (As := [.long a4, .long b4]) (rest := []) ⟨hx, hb, hml, hown, hts⟩ (c_X1_tell l D h0 qT qS H.size cA f n t lo hi a4 b4 a4 b4 hn) (cwV 2 hts gX1_multiply_X1_tell rfl rfl rfl (by decide +kernel) ⟨Nat.le_of_ble_eq_true rfl, Nat.le_of_ble_eq_true rfl⟩) (rr_vW hK hP hD (va_recv hK hP (ci := 1) (q0 := 0) rfl rfl)) rfl rfl hl.1 rfl (lv_room (Nat.le_of_ble_eq_true rfl)) dX1_multiply_66 ⟨Nat.le_of_ble_eq_true rfl, Nat.le_of_ble_eq_true rfl⟩) hS hA hP hD rfl rfl (by decide) (by decide) (by decide) (fun _ => by simp only [rr_wx, rr_wm, List.map_cons, List.map_nil]) (fun u66 H locs e66 hP hD hS => ?_)
  have hP : va_P D vwCl [(h0, .inr (1, [.ref qT, .int (nI n), .int (nI t), .int ((rr_tl f n a4 b4).1), .int ((rr_tl f n a4 b4).2), .ref qS])), (qT, .inl (cA, 187, .inl f)), (qS, .inr (0, [.long a4, .long b4]))] H := hP
  have hD : va_D A [(h0, .inr (1, [.ref qT, .int (nI n), .int (nI t), .int ((rr_tl f n a4 b4).1), .int ((rr_tl f n a4 b4).2), .ref qS])), (qT, .inl (cA, 187, .inl f)), (qS, .inr (0, [.long a4, .long b4]))] := hD
  have e1 : a4 = (rr_o2 x1 x2 x3 x4).1 := by rw [ha4, ha3, ha2, ha1]; exact rr_mn4 _ _ _ _
  have e2 : b4 = (rr_o2 x1 x2 x3 x4).2 := by rw [hb4, hb3, hb2, hb1]; exact rr_mx4 _ _ _ _
  rw [e1, e2] at hP
  exact W.vret hx hb hr (fun tt ht hW => ⟨⟨(_, _), rfl, trivial, by dsimp only; rw [ht]; exact hP⟩, hS.F ht⟩) hS.2.2 dX1_multiply_69
set_option maxHeartbeats 1000000 in
set_option maxRecDepth 100000 in
/-- divide(x, y, z, w) -/
theorem c_X1_divide (l : Launch) (D : va_G) (h0 qT qS sz : Nat) (cA : ClassId) (f : Nat → Int32) (n t : Nat) (lo hi : Int32) (a b : Int64) (x1 x2 x3 x4 : Int64) (hn : n ≤ 187) (hmn : x3 ≤ x4) : Met l yX1_divide wsX1_divide ({ frames := 3, cells := 0, slots := 0, locals := 68 }) (rr_pN D (rr_wx h0 qT qS cA f n t lo hi a b) [(cA, .int)] [.ref h0, .long x1, .long x2, .long x3, .long x4] sz) (va_Qv (fun (u : Int64 × Int64) => True) (fun u tt => va_P D vwCl (rr_wx h0 qT qS cA f n t (rr_tl f n (rr_qs x1 x2 x3 x4).1 (rr_qs x1 x2 x3 x4).2).1 (rr_tl f n (rr_qs x1 x2 x3 x4).1 (rr_qs x1 x2 x3 x4).2).2 u.1 u.2) tt.heap) (va_A (rr_wx h0 qT qS cA f n t lo hi a b) sz)) 0 0 (va_A (rr_wx h0 qT qS cA f n t lo hi a b) sz) := by
  refine Met.ofW (cc := cX1_divide) (maxL := 9) (ret := none) (by decide) rfl ?_
  intro p e s m args below meth c s₁ B hml hv
  obtain ⟨rfl, hsz, hP, hK, hD0, hN⟩ := hv
  have hx := B.exec
  have hb := B.bytes
  have hr := B.returns
  have hts := atoms_spec (ws := wsX1_divide) B.pre
  have hown : s.vm.findClass RX1 = some m.cls := findClass_of_methodNamed B.named
  have hlocks := B.notSynchronized
  subst hsz
  have hD := hD0.self (sz := s.heap.size)
  generalize hAe : va_A [(h0, .inr (1, [.ref qT, .int (nI n), .int (nI t), .int lo, .int hi, .ref qS])), (qT, .inl (cA, 187, .inl f)), (qS, .inr (0, [.long a, .long b]))] s.heap.size = A at hD ⊢
  have hA : ∀ q : Nat, s.heap.size ≤ q → A q := fun q h => by rw [← hAe]; exact Or.inr h
  have hS : va_S A s.heap s.heap [] := va_S.rf
  have hP : va_P D vwCl [(h0, .inr (1, [.ref qT, .int (nI n), .int (nI t), .int lo, .int hi, .ref qS])), (qT, .inl (cA, 187, .inl f)), (qS, .inr (0, [.long a, .long b]))] s.heap := hP
  have hiX1 : ∀ w ∈ wsX10, w ∈ wsX1_divide := by decide +kernel
  have hl := lv_entry ([.ref h0, .long x1, .long x2, .long x3, .long x4]) (n := 9) (Nat.le_of_ble_eq_true rfl)
  rw [lg_entry_eq]
  generalize (lg_sl ([.ref h0, .long x1, .long x2, .long x3, .long x4]) ++ List.replicate (9 - (lg_sl ([.ref h0, .long x1, .long x2, .long x3, .long x4])).length) Slot.unset).toArray = ls at hl ⊢
  have hl : lv_has ls 9 [(0, .ref h0), (1, .long x1), (3, .long x2), (5, .long x3), (7, .long x4)] := hl
  have hiX0 : ∀ w ∈ wsX00, w ∈ wsX1_divide := by decide +kernel
  refine lv_aload_n hx hb dX1_divide_0 rfl (lv_at hl 0 rfl) ?_
  refine va_get (D := D) (ci := 1) (v := .ref qS) (C := RX1) (T := TX1) (N := 6) hx hb hts hiX1 hown hK hP 0 rfl rfl 5 (by decide) (hts (.fieldLink RX1 38 "RangeRules" "span" "LRangeRules$Span;") (by decide +kernel)) (fun _ h9 => h9) rfl dX1_divide_1 ?_
  have hPc := hP.sub (ws' := [(qS, .inr (0, [.long a, .long b]))]) [2] rfl
  have hDc := hD.sub (ws' := [(qS, .inr (0, [.long a, .long b]))]) [2] (by decide) rfl
  have hKc := hK.sub (tys' := []) [] rfl
  refine rr_wv (wr := [(h0, .inr (1, [.ref qT, .int (nI n), .int (nI t), .int lo, .int hi, .ref qS])), (qT, .inl (cA, 187, .inl f))]) [2] [0, 1] (va_runVN (As := []) (rest := []) ⟨hx, hb, hml, hown, hts⟩ (c_X0_empty l D qS s.heap.size a b) ⟨va_cnB 0 hts gX1_divide_X0_empty_n101 rfl rfl rfl hN.1 (hts (.initialized RX0) (by decide +kernel)) (by decide +kernel) ⟨Nat.le_of_ble_eq_true rfl, Nat.le_of_ble_eq_true rfl⟩, hts (.instanceMethod yX0_empty) (by decide +kernel), hts (.selects RX0 yX0_empty yX0_empty) (by decide +kernel)⟩ (rr_vW hKc hPc hDc (va_recv hKc hPc (ci := 0) (q0 := 0) rfl rfl)) rfl rfl hl.1 rfl (lv_room (Nat.le_of_ble_eq_true rfl)) dX1_divide_4 ⟨Nat.le_of_ble_eq_true rfl, Nat.le_of_ble_eq_true rfl⟩) hS hA hP hD rfl rfl (by decide) (by decide) (by decide) (fun _ => by simp only [rr_wx, rr_wm, List.map_cons, List.map_nil]) (fun _ H locs _ hP hD hS => ?_)
  have hP : va_P D vwCl [(h0, .inr (1, [.ref qT, .int (nI n), .int (nI t), .int lo, .int hi, .ref qS])), (qT, .inl (cA, 187, .inl f)), (qS, .inr (0, [.long 9223372036854775807, .long ((-9223372036854775808))]))] H := hP
  have hD : va_D A [(h0, .inr (1, [.ref qT, .int (nI n), .int (nI t), .int lo, .int hi, .ref qS])), (qT, .inl (cA, 187, .inl f)), (qS, .inr (0, [.long 9223372036854775807, .long ((-9223372036854775808))]))] := hD
  refine lv_aload_n hx hb dX1_divide_7 rfl (lv_at hl 0 rfl) ?_
  refine lv_lload_n hx hb dX1_divide_8 rfl (lv_at hl 1 rfl) ?_
  refine lv_lload_n hx hb dX1_divide_9 rfl (lv_at hl 2 rfl) ?_
  refine lv_lload hx hb dX1_divide_10 (lv_at hl 3 rfl) ?_
  refine rr_wv (wr := []) [0, 1, 2] [] (va_runV (As := [.long x1, .long x2, .long x3]) (rest := []) ⟨hx, hb, hml, hown, hts⟩ (c_X1_takeQuotients l D h0 qT qS H.size cA f n t lo hi 9223372036854775807 (-9223372036854775808) x1 x2 x3) (cwV 3 hts gX1_divide_X1_takeQuotients rfl rfl rfl (by decide +kernel) ⟨Nat.le_of_ble_eq_true rfl, Nat.le_of_ble_eq_true rfl⟩) (rr_vN hN hK hP hD (va_recv hK hP (ci := 1) (q0 := 0) rfl rfl)) rfl rfl hl.1 rfl (lv_room (Nat.le_of_ble_eq_true rfl)) dX1_divide_12 ⟨Nat.le_of_ble_eq_true rfl, Nat.le_of_ble_eq_true rfl⟩) hS hA hP hD rfl rfl (by decide) (by decide) (by decide) (fun _ => by simp only [rr_wx, rr_wm, List.map_cons, List.map_nil]) (fun u12 H locs e12 hP hD hS => ?_)
  have hP : va_P D vwCl [(h0, .inr (1, [.ref qT, .int (nI n), .int (nI t), .int lo, .int hi, .ref qS])), (qT, .inl (cA, 187, .inl f)), (qS, .inr (0, [.long ((rr_qm (decide (¬ (x3 : Int64) = 0)) x1 x2 x3 (9223372036854775807, (-9223372036854775808))).1), .long ((rr_qm (decide (¬ (x3 : Int64) = 0)) x1 x2 x3 (9223372036854775807, (-9223372036854775808))).2)]))] H := hP
  have hD : va_D A [(h0, .inr (1, [.ref qT, .int (nI n), .int (nI t), .int lo, .int hi, .ref qS])), (qT, .inl (cA, 187, .inl f)), (qS, .inr (0, [.long ((rr_qm (decide (¬ (x3 : Int64) = 0)) x1 x2 x3 (9223372036854775807, (-9223372036854775808))).1), .long ((rr_qm (decide (¬ (x3 : Int64) = 0)) x1 x2 x3 (9223372036854775807, (-9223372036854775808))).2)]))] := hD
  obtain ⟨z1, g1⟩ : ∃ z, z = (rr_qm (decide (¬ (x3 : Int64) = 0)) x1 x2 x3 (9223372036854775807, (-9223372036854775808))) := ⟨_, rfl⟩
  rw [← g1] at hP hD
  have hP : va_P D vwCl [(h0, .inr (1, [.ref qT, .int (nI n), .int (nI t), .int lo, .int hi, .ref qS])), (qT, .inl (cA, 187, .inl f)), (qS, .inr (0, [.long z1.1, .long z1.2]))] H := hP
  have hD : va_D A [(h0, .inr (1, [.ref qT, .int (nI n), .int (nI t), .int lo, .int hi, .ref qS])), (qT, .inl (cA, 187, .inl f)), (qS, .inr (0, [.long z1.1, .long z1.2]))] := hD
  refine lv_aload_n hx hb dX1_divide_15 rfl (lv_at hl 0 rfl) ?_
  refine lv_lload_n hx hb dX1_divide_16 rfl (lv_at hl 1 rfl) ?_
  refine lv_lload_n hx hb dX1_divide_17 rfl (lv_at hl 2 rfl) ?_
  refine lv_lload hx hb dX1_divide_18 (lv_at hl 4 rfl) ?_
  refine rr_wv (wr := []) [0, 1, 2] [] (va_runV (As := [.long x1, .long x2, .long x4]) (rest := []) ⟨hx, hb, hml, hown, hts⟩ (c_X1_takeQuotients l D h0 qT qS H.size cA f n t lo hi z1.1 z1.2 x1 x2 x4) (cwV 3 hts gX1_divide_X1_takeQuotients rfl rfl rfl (by decide +kernel) ⟨Nat.le_of_ble_eq_true rfl, Nat.le_of_ble_eq_true rfl⟩) (rr_vN hN hK hP hD (va_recv hK hP (ci := 1) (q0 := 0) rfl rfl)) rfl rfl hl.1 rfl (lv_room (Nat.le_of_ble_eq_true rfl)) dX1_divide_20 ⟨Nat.le_of_ble_eq_true rfl, Nat.le_of_ble_eq_true rfl⟩) hS hA hP hD rfl rfl (by decide) (by decide) (by decide) (fun _ => by simp only [rr_wx, rr_wm, List.map_cons, List.map_nil]) (fun u20 H locs e20 hP hD hS => ?_)
  have hP : va_P D vwCl [(h0, .inr (1, [.ref qT, .int (nI n), .int (nI t), .int lo, .int hi, .ref qS])), (qT, .inl (cA, 187, .inl f)), (qS, .inr (0, [.long ((rr_qm (decide (¬ (x4 : Int64) = 0)) x1 x2 x4 (z1.1, z1.2)).1), .long ((rr_qm (decide (¬ (x4 : Int64) = 0)) x1 x2 x4 (z1.1, z1.2)).2)]))] H := hP
  have hD : va_D A [(h0, .inr (1, [.ref qT, .int (nI n), .int (nI t), .int lo, .int hi, .ref qS])), (qT, .inl (cA, 187, .inl f)), (qS, .inr (0, [.long ((rr_qm (decide (¬ (x4 : Int64) = 0)) x1 x2 x4 (z1.1, z1.2)).1), .long ((rr_qm (decide (¬ (x4 : Int64) = 0)) x1 x2 x4 (z1.1, z1.2)).2)]))] := hD
  obtain ⟨z2, g2⟩ : ∃ z, z = (rr_qm (decide (¬ (x4 : Int64) = 0)) x1 x2 x4 (z1.1, z1.2)) := ⟨_, rfl⟩
  rw [← g2] at hP hD
  have hP : va_P D vwCl [(h0, .inr (1, [.ref qT, .int (nI n), .int (nI t), .int lo, .int hi, .ref qS])), (qT, .inl (cA, 187, .inl f)), (qS, .inr (0, [.long z2.1, .long z2.2]))] H := hP
  have hD : va_D A [(h0, .inr (1, [.ref qT, .int (nI n), .int (nI t), .int lo, .int hi, .ref qS])), (qT, .inl (cA, 187, .inl f)), (qS, .inr (0, [.long z2.1, .long z2.2]))] := hD
  refine lv_lload hx hb dX1_divide_23 (lv_at hl 3 rfl) ?_
  refine lv_ldc2 (v := (-1)) hx hb hown (hts (.constantLong RX1 119 (-1)) (by decide +kernel)) dX1_divide_25 ?_
  refine W.lcmp hx hb dX1_divide_28 ?_
  refine lv_if_gt (tgt := 50) hx hb dX1_divide_29 (by decide) (fun c29 => ?_) (fun c29 => ?_)
  · skip
    refine lv_lload hx hb dX1_divide_50 (lv_at hl 3 rfl) ?_
    refine lv_lconst (v := 1) hx hb dX1_divide_52 (by decide) ?_
    refine W.lcmp hx hb dX1_divide_53 ?_
    refine lv_if_gt (tgt := 71) hx hb dX1_divide_54 (by decide) (fun c54 => ?_) (fun c54 => ?_)
    · skip
      refine lv_aload_n hx hb dX1_divide_71 rfl (lv_at hl 0 rfl) ?_
      refine lv_aload_n hx hb dX1_divide_72 rfl (lv_at hl 0 rfl) ?_
      refine va_get (D := D) (ci := 1) (v := .ref qS) (C := RX1) (T := TX1) (N := 6) hx hb hts hiX1 hown hK hP 0 rfl rfl 5 (by decide) (hts (.fieldLink RX1 38 "RangeRules" "span" "LRangeRules$Span;") (by decide +kernel)) (fun _ h9 => h9) rfl dX1_divide_73 ?_
      refine va_getN (D := D) (ci := 0) (v := .long z2.1) (C := RX0) (T := TX0) (N := 2) hx hb hts hiX0 hown hK hP 2 rfl rfl 0 (by decide) (va_Nw.use rfl hN.2.2.1) (fun _ h9 => h9) rfl dX1_divide_76 ?_
      refine lv_aload_n hx hb dX1_divide_79 rfl (lv_at hl 0 rfl) ?_
      refine va_get (D := D) (ci := 1) (v := .ref qS) (C := RX1) (T := TX1) (N := 6) hx hb hts hiX1 hown hK hP 0 rfl rfl 5 (by decide) (hts (.fieldLink RX1 38 "RangeRules" "span" "LRangeRules$Span;") (by decide +kernel)) (fun _ h9 => h9) rfl dX1_divide_80 ?_
      refine va_getN (D := D) (ci := 0) (v := .long z2.2) (C := RX0) (T := TX0) (N := 2) hx hb hts hiX0 hown hK hP 2 rfl rfl 1 (by decide) (va_Nw.use rfl hN.2.2.2) (fun _ h9 => h9) rfl dX1_divide_83 ?_
      refine rr_wv (wr := []) [0, 1, 2] [] (va_runV (As := [.long z2.1, .long z2.2]) (rest := []) ⟨hx, hb, hml, hown, hts⟩ (c_X1_tell l D h0 qT qS H.size cA f n t lo hi z2.1 z2.2 z2.1 z2.2 hn) (cwV 2 hts gX1_divide_X1_tell rfl rfl rfl (by decide +kernel) ⟨Nat.le_of_ble_eq_true rfl, Nat.le_of_ble_eq_true rfl⟩) (rr_vW hK hP hD (va_recv hK hP (ci := 1) (q0 := 0) rfl rfl)) rfl rfl hl.1 rfl (lv_room (Nat.le_of_ble_eq_true rfl)) dX1_divide_86 ⟨Nat.le_of_ble_eq_true rfl, Nat.le_of_ble_eq_true rfl⟩) hS hA hP hD rfl rfl (by decide) (by decide) (by decide) (fun _ => by simp only [rr_wx, rr_wm, List.map_cons, List.map_nil]) (fun u86 H locs e86 hP hD hS => ?_)
      have hP : va_P D vwCl [(h0, .inr (1, [.ref qT, .int (nI n), .int (nI t), .int ((rr_tl f n z2.1 z2.2).1), .int ((rr_tl f n z2.1 z2.2).2), .ref qS])), (qT, .inl (cA, 187, .inl f)), (qS, .inr (0, [.long z2.1, .long z2.2]))] H := hP
      have hD : va_D A [(h0, .inr (1, [.ref qT, .int (nI n), .int (nI t), .int ((rr_tl f n z2.1 z2.2).1), .int ((rr_tl f n z2.1 z2.2).2), .ref qS])), (qT, .inl (cA, 187, .inl f)), (qS, .inr (0, [.long z2.1, .long z2.2]))] := hD
      have ee : (rr_qs x1 x2 x3 x4) = z2 := by
        rw [rr_qs_x hmn]
        rw [show rr_qc x3 x4 (-1) = false from rr_qc_lo ((lg_cmp_gt _ _).mp c29)]
        rw [show rr_qc x3 x4 (1) = false from rr_qc_lo ((lg_cmp_gt _ _).mp c54)]
        simp only [rr_qm_no]
        rw [g2, g1]
        rfl
      rw [← ee] at hP
      exact W.vret hx hb hr (fun tt ht hW => ⟨⟨(_, _), rfl, trivial, by dsimp only; rw [ht]; exact hP⟩, hS.F ht⟩) hS.2.2 dX1_divide_89
    · skip
      refine lv_lload hx hb dX1_divide_57 (lv_at hl 4 rfl) ?_
      refine lv_lconst (v := 1) hx hb dX1_divide_59 (by decide) ?_
      refine W.lcmp hx hb dX1_divide_60 ?_
      refine lv_if_lt (tgt := 71) hx hb dX1_divide_61 (by decide) (fun c61 => ?_) (fun c61 => ?_)
      · skip
        refine lv_aload_n hx hb dX1_divide_71 rfl (lv_at hl 0 rfl) ?_
        refine lv_aload_n hx hb dX1_divide_72 rfl (lv_at hl 0 rfl) ?_
        refine va_get (D := D) (ci := 1) (v := .ref qS) (C := RX1) (T := TX1) (N := 6) hx hb hts hiX1 hown hK hP 0 rfl rfl 5 (by decide) (hts (.fieldLink RX1 38 "RangeRules" "span" "LRangeRules$Span;") (by decide +kernel)) (fun _ h9 => h9) rfl dX1_divide_73 ?_
        refine va_getN (D := D) (ci := 0) (v := .long z2.1) (C := RX0) (T := TX0) (N := 2) hx hb hts hiX0 hown hK hP 2 rfl rfl 0 (by decide) (va_Nw.use rfl hN.2.2.1) (fun _ h9 => h9) rfl dX1_divide_76 ?_
        refine lv_aload_n hx hb dX1_divide_79 rfl (lv_at hl 0 rfl) ?_
        refine va_get (D := D) (ci := 1) (v := .ref qS) (C := RX1) (T := TX1) (N := 6) hx hb hts hiX1 hown hK hP 0 rfl rfl 5 (by decide) (hts (.fieldLink RX1 38 "RangeRules" "span" "LRangeRules$Span;") (by decide +kernel)) (fun _ h9 => h9) rfl dX1_divide_80 ?_
        refine va_getN (D := D) (ci := 0) (v := .long z2.2) (C := RX0) (T := TX0) (N := 2) hx hb hts hiX0 hown hK hP 2 rfl rfl 1 (by decide) (va_Nw.use rfl hN.2.2.2) (fun _ h9 => h9) rfl dX1_divide_83 ?_
        refine rr_wv (wr := []) [0, 1, 2] [] (va_runV (As := [.long z2.1, .long z2.2]) (rest := []) ⟨hx, hb, hml, hown, hts⟩ (c_X1_tell l D h0 qT qS H.size cA f n t lo hi z2.1 z2.2 z2.1 z2.2 hn) (cwV 2 hts gX1_divide_X1_tell rfl rfl rfl (by decide +kernel) ⟨Nat.le_of_ble_eq_true rfl, Nat.le_of_ble_eq_true rfl⟩) (rr_vW hK hP hD (va_recv hK hP (ci := 1) (q0 := 0) rfl rfl)) rfl rfl hl.1 rfl (lv_room (Nat.le_of_ble_eq_true rfl)) dX1_divide_86 ⟨Nat.le_of_ble_eq_true rfl, Nat.le_of_ble_eq_true rfl⟩) hS hA hP hD rfl rfl (by decide) (by decide) (by decide) (fun _ => by simp only [rr_wx, rr_wm, List.map_cons, List.map_nil]) (fun u86 H locs e86 hP hD hS => ?_)
        have hP : va_P D vwCl [(h0, .inr (1, [.ref qT, .int (nI n), .int (nI t), .int ((rr_tl f n z2.1 z2.2).1), .int ((rr_tl f n z2.1 z2.2).2), .ref qS])), (qT, .inl (cA, 187, .inl f)), (qS, .inr (0, [.long z2.1, .long z2.2]))] H := hP
        have hD : va_D A [(h0, .inr (1, [.ref qT, .int (nI n), .int (nI t), .int ((rr_tl f n z2.1 z2.2).1), .int ((rr_tl f n z2.1 z2.2).2), .ref qS])), (qT, .inl (cA, 187, .inl f)), (qS, .inr (0, [.long z2.1, .long z2.2]))] := hD
        have ee : (rr_qs x1 x2 x3 x4) = z2 := by
          rw [rr_qs_x hmn]
          rw [show rr_qc x3 x4 (-1) = false from rr_qc_lo ((lg_cmp_gt _ _).mp c29)]
          rw [show rr_qc x3 x4 (1) = false from rr_qc_hi ((lg_cmp_lt _ _).mp c61)]
          simp only [rr_qm_no]
          rw [g2, g1]
          rfl
        rw [← ee] at hP
        exact W.vret hx hb hr (fun tt ht hW => ⟨⟨(_, _), rfl, trivial, by dsimp only; rw [ht]; exact hP⟩, hS.F ht⟩) hS.2.2 dX1_divide_89
      · skip
        refine lv_aload_n hx hb dX1_divide_64 rfl (lv_at hl 0 rfl) ?_
        refine lv_lload_n hx hb dX1_divide_65 rfl (lv_at hl 1 rfl) ?_
        refine lv_lload_n hx hb dX1_divide_66 rfl (lv_at hl 2 rfl) ?_
        refine lv_lconst (v := 1) hx hb dX1_divide_67 (by decide) ?_
        refine rr_wv (wr := []) [0, 1, 2] [] (va_runV (As := [.long x1, .long x2, .long 1]) (rest := []) ⟨hx, hb, hml, hown, hts⟩ (c_X1_takeQuotients l D h0 qT qS H.size cA f n t lo hi z2.1 z2.2 x1 x2 1) (cwV 3 hts gX1_divide_X1_takeQuotients rfl rfl rfl (by decide +kernel) ⟨Nat.le_of_ble_eq_true rfl, Nat.le_of_ble_eq_true rfl⟩) (rr_vN hN hK hP hD (va_recv hK hP (ci := 1) (q0 := 0) rfl rfl)) rfl rfl hl.1 rfl (lv_room (Nat.le_of_ble_eq_true rfl)) dX1_divide_68 ⟨Nat.le_of_ble_eq_true rfl, Nat.le_of_ble_eq_true rfl⟩) hS hA hP hD rfl rfl (by decide) (by decide) (by decide) (fun _ => by simp only [rr_wx, rr_wm, List.map_cons, List.map_nil]) (fun u68 H locs e68 hP hD hS => ?_)
        have hP : va_P D vwCl [(h0, .inr (1, [.ref qT, .int (nI n), .int (nI t), .int lo, .int hi, .ref qS])), (qT, .inl (cA, 187, .inl f)), (qS, .inr (0, [.long ((rr_qm (decide (¬ (1 : Int64) = 0)) x1 x2 1 (z2.1, z2.2)).1), .long ((rr_qm (decide (¬ (1 : Int64) = 0)) x1 x2 1 (z2.1, z2.2)).2)]))] H := hP
        have hD : va_D A [(h0, .inr (1, [.ref qT, .int (nI n), .int (nI t), .int lo, .int hi, .ref qS])), (qT, .inl (cA, 187, .inl f)), (qS, .inr (0, [.long ((rr_qm (decide (¬ (1 : Int64) = 0)) x1 x2 1 (z2.1, z2.2)).1), .long ((rr_qm (decide (¬ (1 : Int64) = 0)) x1 x2 1 (z2.1, z2.2)).2)]))] := hD
        obtain ⟨z3, g3⟩ : ∃ z, z = (rr_qm (decide (¬ (1 : Int64) = 0)) x1 x2 1 (z2.1, z2.2)) := ⟨_, rfl⟩
        rw [← g3] at hP hD
        have hP : va_P D vwCl [(h0, .inr (1, [.ref qT, .int (nI n), .int (nI t), .int lo, .int hi, .ref qS])), (qT, .inl (cA, 187, .inl f)), (qS, .inr (0, [.long z3.1, .long z3.2]))] H := hP
        have hD : va_D A [(h0, .inr (1, [.ref qT, .int (nI n), .int (nI t), .int lo, .int hi, .ref qS])), (qT, .inl (cA, 187, .inl f)), (qS, .inr (0, [.long z3.1, .long z3.2]))] := hD
        refine lv_aload_n hx hb dX1_divide_71 rfl (lv_at hl 0 rfl) ?_
        refine lv_aload_n hx hb dX1_divide_72 rfl (lv_at hl 0 rfl) ?_
        refine va_get (D := D) (ci := 1) (v := .ref qS) (C := RX1) (T := TX1) (N := 6) hx hb hts hiX1 hown hK hP 0 rfl rfl 5 (by decide) (hts (.fieldLink RX1 38 "RangeRules" "span" "LRangeRules$Span;") (by decide +kernel)) (fun _ h9 => h9) rfl dX1_divide_73 ?_
        refine va_getN (D := D) (ci := 0) (v := .long z3.1) (C := RX0) (T := TX0) (N := 2) hx hb hts hiX0 hown hK hP 2 rfl rfl 0 (by decide) (va_Nw.use rfl hN.2.2.1) (fun _ h9 => h9) rfl dX1_divide_76 ?_
        refine lv_aload_n hx hb dX1_divide_79 rfl (lv_at hl 0 rfl) ?_
        refine va_get (D := D) (ci := 1) (v := .ref qS) (C := RX1) (T := TX1) (N := 6) hx hb hts hiX1 hown hK hP 0 rfl rfl 5 (by decide) (hts (.fieldLink RX1 38 "RangeRules" "span" "LRangeRules$Span;") (by decide +kernel)) (fun _ h9 => h9) rfl dX1_divide_80 ?_
        refine va_getN (D := D) (ci := 0) (v := .long z3.2) (C := RX0) (T := TX0) (N := 2) hx hb hts hiX0 hown hK hP 2 rfl rfl 1 (by decide) (va_Nw.use rfl hN.2.2.2) (fun _ h9 => h9) rfl dX1_divide_83 ?_
        refine rr_wv (wr := []) [0, 1, 2] [] (va_runV (As := [.long z3.1, .long z3.2]) (rest := []) ⟨hx, hb, hml, hown, hts⟩ (c_X1_tell l D h0 qT qS H.size cA f n t lo hi z3.1 z3.2 z3.1 z3.2 hn) (cwV 2 hts gX1_divide_X1_tell rfl rfl rfl (by decide +kernel) ⟨Nat.le_of_ble_eq_true rfl, Nat.le_of_ble_eq_true rfl⟩) (rr_vW hK hP hD (va_recv hK hP (ci := 1) (q0 := 0) rfl rfl)) rfl rfl hl.1 rfl (lv_room (Nat.le_of_ble_eq_true rfl)) dX1_divide_86 ⟨Nat.le_of_ble_eq_true rfl, Nat.le_of_ble_eq_true rfl⟩) hS hA hP hD rfl rfl (by decide) (by decide) (by decide) (fun _ => by simp only [rr_wx, rr_wm, List.map_cons, List.map_nil]) (fun u86 H locs e86 hP hD hS => ?_)
        have hP : va_P D vwCl [(h0, .inr (1, [.ref qT, .int (nI n), .int (nI t), .int ((rr_tl f n z3.1 z3.2).1), .int ((rr_tl f n z3.1 z3.2).2), .ref qS])), (qT, .inl (cA, 187, .inl f)), (qS, .inr (0, [.long z3.1, .long z3.2]))] H := hP
        have hD : va_D A [(h0, .inr (1, [.ref qT, .int (nI n), .int (nI t), .int ((rr_tl f n z3.1 z3.2).1), .int ((rr_tl f n z3.1 z3.2).2), .ref qS])), (qT, .inl (cA, 187, .inl f)), (qS, .inr (0, [.long z3.1, .long z3.2]))] := hD
        have ee : (rr_qs x1 x2 x3 x4) = z3 := by
          rw [rr_qs_x hmn]
          rw [show rr_qc x3 x4 (-1) = false from rr_qc_lo ((lg_cmp_gt _ _).mp c29)]
          rw [show rr_qc x3 x4 (1) = decide (¬ (1 : Int64) = 0) from rr_qc_in (by decide) (Int64.not_lt.mp (fun z => c54 ((lg_cmp_gt _ _).mpr z))) (Int64.not_lt.mp (fun z => c61 ((lg_cmp_lt _ _).mpr z)))]
          simp only [rr_qm_no]
          rw [g3, g2, g1]
          rfl
        rw [← ee] at hP
        exact W.vret hx hb hr (fun tt ht hW => ⟨⟨(_, _), rfl, trivial, by dsimp only; rw [ht]; exact hP⟩, hS.F ht⟩) hS.2.2 dX1_divide_89
  · skip
    refine lv_lload hx hb dX1_divide_32 (lv_at hl 4 rfl) ?_
    refine lv_ldc2 (v := (-1)) hx hb hown (hts (.constantLong RX1 119 (-1)) (by decide +kernel)) dX1_divide_34 ?_
    refine W.lcmp hx hb dX1_divide_37 ?_
    refine lv_if_lt (tgt := 50) hx hb dX1_divide_38 (by decide) (fun c38 => ?_) (fun c38 => ?_)
    · skip
      refine lv_lload hx hb dX1_divide_50 (lv_at hl 3 rfl) ?_
      refine lv_lconst (v := 1) hx hb dX1_divide_52 (by decide) ?_
      refine W.lcmp hx hb dX1_divide_53 ?_
      refine lv_if_gt (tgt := 71) hx hb dX1_divide_54 (by decide) (fun c54 => ?_) (fun c54 => ?_)
      · skip
        refine lv_aload_n hx hb dX1_divide_71 rfl (lv_at hl 0 rfl) ?_
        refine lv_aload_n hx hb dX1_divide_72 rfl (lv_at hl 0 rfl) ?_
        refine va_get (D := D) (ci := 1) (v := .ref qS) (C := RX1) (T := TX1) (N := 6) hx hb hts hiX1 hown hK hP 0 rfl rfl 5 (by decide) (hts (.fieldLink RX1 38 "RangeRules" "span" "LRangeRules$Span;") (by decide +kernel)) (fun _ h9 => h9) rfl dX1_divide_73 ?_
        refine va_getN (D := D) (ci := 0) (v := .long z2.1) (C := RX0) (T := TX0) (N := 2) hx hb hts hiX0 hown hK hP 2 rfl rfl 0 (by decide) (va_Nw.use rfl hN.2.2.1) (fun _ h9 => h9) rfl dX1_divide_76 ?_
        refine lv_aload_n hx hb dX1_divide_79 rfl (lv_at hl 0 rfl) ?_
        refine va_get (D := D) (ci := 1) (v := .ref qS) (C := RX1) (T := TX1) (N := 6) hx hb hts hiX1 hown hK hP 0 rfl rfl 5 (by decide) (hts (.fieldLink RX1 38 "RangeRules" "span" "LRangeRules$Span;") (by decide +kernel)) (fun _ h9 => h9) rfl dX1_divide_80 ?_
        refine va_getN (D := D) (ci := 0) (v := .long z2.2) (C := RX0) (T := TX0) (N := 2) hx hb hts hiX0 hown hK hP 2 rfl rfl 1 (by decide) (va_Nw.use rfl hN.2.2.2) (fun _ h9 => h9) rfl dX1_divide_83 ?_
        refine rr_wv (wr := []) [0, 1, 2] [] (va_runV (As := [.long z2.1, .long z2.2]) (rest := []) ⟨hx, hb, hml, hown, hts⟩ (c_X1_tell l D h0 qT qS H.size cA f n t lo hi z2.1 z2.2 z2.1 z2.2 hn) (cwV 2 hts gX1_divide_X1_tell rfl rfl rfl (by decide +kernel) ⟨Nat.le_of_ble_eq_true rfl, Nat.le_of_ble_eq_true rfl⟩) (rr_vW hK hP hD (va_recv hK hP (ci := 1) (q0 := 0) rfl rfl)) rfl rfl hl.1 rfl (lv_room (Nat.le_of_ble_eq_true rfl)) dX1_divide_86 ⟨Nat.le_of_ble_eq_true rfl, Nat.le_of_ble_eq_true rfl⟩) hS hA hP hD rfl rfl (by decide) (by decide) (by decide) (fun _ => by simp only [rr_wx, rr_wm, List.map_cons, List.map_nil]) (fun u86 H locs e86 hP hD hS => ?_)
        have hP : va_P D vwCl [(h0, .inr (1, [.ref qT, .int (nI n), .int (nI t), .int ((rr_tl f n z2.1 z2.2).1), .int ((rr_tl f n z2.1 z2.2).2), .ref qS])), (qT, .inl (cA, 187, .inl f)), (qS, .inr (0, [.long z2.1, .long z2.2]))] H := hP
        have hD : va_D A [(h0, .inr (1, [.ref qT, .int (nI n), .int (nI t), .int ((rr_tl f n z2.1 z2.2).1), .int ((rr_tl f n z2.1 z2.2).2), .ref qS])), (qT, .inl (cA, 187, .inl f)), (qS, .inr (0, [.long z2.1, .long z2.2]))] := hD
        have ee : (rr_qs x1 x2 x3 x4) = z2 := by
          rw [rr_qs_x hmn]
          rw [show rr_qc x3 x4 (-1) = false from rr_qc_hi ((lg_cmp_lt _ _).mp c38)]
          rw [show rr_qc x3 x4 (1) = false from rr_qc_lo ((lg_cmp_gt _ _).mp c54)]
          simp only [rr_qm_no]
          rw [g2, g1]
          rfl
        rw [← ee] at hP
        exact W.vret hx hb hr (fun tt ht hW => ⟨⟨(_, _), rfl, trivial, by dsimp only; rw [ht]; exact hP⟩, hS.F ht⟩) hS.2.2 dX1_divide_89
      · skip
        refine lv_lload hx hb dX1_divide_57 (lv_at hl 4 rfl) ?_
        refine lv_lconst (v := 1) hx hb dX1_divide_59 (by decide) ?_
        refine W.lcmp hx hb dX1_divide_60 ?_
        refine lv_if_lt (tgt := 71) hx hb dX1_divide_61 (by decide) (fun c61 => ?_) (fun c61 => ?_)
        · skip
          refine lv_aload_n hx hb dX1_divide_71 rfl (lv_at hl 0 rfl) ?_
          refine lv_aload_n hx hb dX1_divide_72 rfl (lv_at hl 0 rfl) ?_
          refine va_get (D := D) (ci := 1) (v := .ref qS) (C := RX1) (T := TX1) (N := 6) hx hb hts hiX1 hown hK hP 0 rfl rfl 5 (by decide) (hts (.fieldLink RX1 38 "RangeRules" "span" "LRangeRules$Span;") (by decide +kernel)) (fun _ h9 => h9) rfl dX1_divide_73 ?_
          refine va_getN (D := D) (ci := 0) (v := .long z2.1) (C := RX0) (T := TX0) (N := 2) hx hb hts hiX0 hown hK hP 2 rfl rfl 0 (by decide) (va_Nw.use rfl hN.2.2.1) (fun _ h9 => h9) rfl dX1_divide_76 ?_
          refine lv_aload_n hx hb dX1_divide_79 rfl (lv_at hl 0 rfl) ?_
          refine va_get (D := D) (ci := 1) (v := .ref qS) (C := RX1) (T := TX1) (N := 6) hx hb hts hiX1 hown hK hP 0 rfl rfl 5 (by decide) (hts (.fieldLink RX1 38 "RangeRules" "span" "LRangeRules$Span;") (by decide +kernel)) (fun _ h9 => h9) rfl dX1_divide_80 ?_
          refine va_getN (D := D) (ci := 0) (v := .long z2.2) (C := RX0) (T := TX0) (N := 2) hx hb hts hiX0 hown hK hP 2 rfl rfl 1 (by decide) (va_Nw.use rfl hN.2.2.2) (fun _ h9 => h9) rfl dX1_divide_83 ?_
          refine rr_wv (wr := []) [0, 1, 2] [] (va_runV (As := [.long z2.1, .long z2.2]) (rest := []) ⟨hx, hb, hml, hown, hts⟩ (c_X1_tell l D h0 qT qS H.size cA f n t lo hi z2.1 z2.2 z2.1 z2.2 hn) (cwV 2 hts gX1_divide_X1_tell rfl rfl rfl (by decide +kernel) ⟨Nat.le_of_ble_eq_true rfl, Nat.le_of_ble_eq_true rfl⟩) (rr_vW hK hP hD (va_recv hK hP (ci := 1) (q0 := 0) rfl rfl)) rfl rfl hl.1 rfl (lv_room (Nat.le_of_ble_eq_true rfl)) dX1_divide_86 ⟨Nat.le_of_ble_eq_true rfl, Nat.le_of_ble_eq_true rfl⟩) hS hA hP hD rfl rfl (by decide) (by decide) (by decide) (fun _ => by simp only [rr_wx, rr_wm, List.map_cons, List.map_nil]) (fun u86 H locs e86 hP hD hS => ?_)
          have hP : va_P D vwCl [(h0, .inr (1, [.ref qT, .int (nI n), .int (nI t), .int ((rr_tl f n z2.1 z2.2).1), .int ((rr_tl f n z2.1 z2.2).2), .ref qS])), (qT, .inl (cA, 187, .inl f)), (qS, .inr (0, [.long z2.1, .long z2.2]))] H := hP
          have hD : va_D A [(h0, .inr (1, [.ref qT, .int (nI n), .int (nI t), .int ((rr_tl f n z2.1 z2.2).1), .int ((rr_tl f n z2.1 z2.2).2), .ref qS])), (qT, .inl (cA, 187, .inl f)), (qS, .inr (0, [.long z2.1, .long z2.2]))] := hD
          have ee : (rr_qs x1 x2 x3 x4) = z2 := by
            rw [rr_qs_x hmn]
            rw [show rr_qc x3 x4 (-1) = false from rr_qc_hi ((lg_cmp_lt _ _).mp c38)]
            rw [show rr_qc x3 x4 (1) = false from rr_qc_hi ((lg_cmp_lt _ _).mp c61)]
            simp only [rr_qm_no]
            rw [g2, g1]
            rfl
          rw [← ee] at hP
          exact W.vret hx hb hr (fun tt ht hW => ⟨⟨(_, _), rfl, trivial, by dsimp only; rw [ht]; exact hP⟩, hS.F ht⟩) hS.2.2 dX1_divide_89
        · skip
          refine lv_aload_n hx hb dX1_divide_64 rfl (lv_at hl 0 rfl) ?_
          refine lv_lload_n hx hb dX1_divide_65 rfl (lv_at hl 1 rfl) ?_
          refine lv_lload_n hx hb dX1_divide_66 rfl (lv_at hl 2 rfl) ?_
          refine lv_lconst (v := 1) hx hb dX1_divide_67 (by decide) ?_
          refine rr_wv (wr := []) [0, 1, 2] [] (va_runV (As := [.long x1, .long x2, .long 1]) (rest := []) ⟨hx, hb, hml, hown, hts⟩ (c_X1_takeQuotients l D h0 qT qS H.size cA f n t lo hi z2.1 z2.2 x1 x2 1) (cwV 3 hts gX1_divide_X1_takeQuotients rfl rfl rfl (by decide +kernel) ⟨Nat.le_of_ble_eq_true rfl, Nat.le_of_ble_eq_true rfl⟩) (rr_vN hN hK hP hD (va_recv hK hP (ci := 1) (q0 := 0) rfl rfl)) rfl rfl hl.1 rfl (lv_room (Nat.le_of_ble_eq_true rfl)) dX1_divide_68 ⟨Nat.le_of_ble_eq_true rfl, Nat.le_of_ble_eq_true rfl⟩) hS hA hP hD rfl rfl (by decide) (by decide) (by decide) (fun _ => by simp only [rr_wx, rr_wm, List.map_cons, List.map_nil]) (fun u68 H locs e68 hP hD hS => ?_)
          have hP : va_P D vwCl [(h0, .inr (1, [.ref qT, .int (nI n), .int (nI t), .int lo, .int hi, .ref qS])), (qT, .inl (cA, 187, .inl f)), (qS, .inr (0, [.long ((rr_qm (decide (¬ (1 : Int64) = 0)) x1 x2 1 (z2.1, z2.2)).1), .long ((rr_qm (decide (¬ (1 : Int64) = 0)) x1 x2 1 (z2.1, z2.2)).2)]))] H := hP
          have hD : va_D A [(h0, .inr (1, [.ref qT, .int (nI n), .int (nI t), .int lo, .int hi, .ref qS])), (qT, .inl (cA, 187, .inl f)), (qS, .inr (0, [.long ((rr_qm (decide (¬ (1 : Int64) = 0)) x1 x2 1 (z2.1, z2.2)).1), .long ((rr_qm (decide (¬ (1 : Int64) = 0)) x1 x2 1 (z2.1, z2.2)).2)]))] := hD
          obtain ⟨z3, g3⟩ : ∃ z, z = (rr_qm (decide (¬ (1 : Int64) = 0)) x1 x2 1 (z2.1, z2.2)) := ⟨_, rfl⟩
          rw [← g3] at hP hD
          have hP : va_P D vwCl [(h0, .inr (1, [.ref qT, .int (nI n), .int (nI t), .int lo, .int hi, .ref qS])), (qT, .inl (cA, 187, .inl f)), (qS, .inr (0, [.long z3.1, .long z3.2]))] H := hP
          have hD : va_D A [(h0, .inr (1, [.ref qT, .int (nI n), .int (nI t), .int lo, .int hi, .ref qS])), (qT, .inl (cA, 187, .inl f)), (qS, .inr (0, [.long z3.1, .long z3.2]))] := hD
          refine lv_aload_n hx hb dX1_divide_71 rfl (lv_at hl 0 rfl) ?_
          refine lv_aload_n hx hb dX1_divide_72 rfl (lv_at hl 0 rfl) ?_
          refine va_get (D := D) (ci := 1) (v := .ref qS) (C := RX1) (T := TX1) (N := 6) hx hb hts hiX1 hown hK hP 0 rfl rfl 5 (by decide) (hts (.fieldLink RX1 38 "RangeRules" "span" "LRangeRules$Span;") (by decide +kernel)) (fun _ h9 => h9) rfl dX1_divide_73 ?_
          refine va_getN (D := D) (ci := 0) (v := .long z3.1) (C := RX0) (T := TX0) (N := 2) hx hb hts hiX0 hown hK hP 2 rfl rfl 0 (by decide) (va_Nw.use rfl hN.2.2.1) (fun _ h9 => h9) rfl dX1_divide_76 ?_
          refine lv_aload_n hx hb dX1_divide_79 rfl (lv_at hl 0 rfl) ?_
          refine va_get (D := D) (ci := 1) (v := .ref qS) (C := RX1) (T := TX1) (N := 6) hx hb hts hiX1 hown hK hP 0 rfl rfl 5 (by decide) (hts (.fieldLink RX1 38 "RangeRules" "span" "LRangeRules$Span;") (by decide +kernel)) (fun _ h9 => h9) rfl dX1_divide_80 ?_
          refine va_getN (D := D) (ci := 0) (v := .long z3.2) (C := RX0) (T := TX0) (N := 2) hx hb hts hiX0 hown hK hP 2 rfl rfl 1 (by decide) (va_Nw.use rfl hN.2.2.2) (fun _ h9 => h9) rfl dX1_divide_83 ?_
          refine rr_wv (wr := []) [0, 1, 2] [] (va_runV (As := [.long z3.1, .long z3.2]) (rest := []) ⟨hx, hb, hml, hown, hts⟩ (c_X1_tell l D h0 qT qS H.size cA f n t lo hi z3.1 z3.2 z3.1 z3.2 hn) (cwV 2 hts gX1_divide_X1_tell rfl rfl rfl (by decide +kernel) ⟨Nat.le_of_ble_eq_true rfl, Nat.le_of_ble_eq_true rfl⟩) (rr_vW hK hP hD (va_recv hK hP (ci := 1) (q0 := 0) rfl rfl)) rfl rfl hl.1 rfl (lv_room (Nat.le_of_ble_eq_true rfl)) dX1_divide_86 ⟨Nat.le_of_ble_eq_true rfl, Nat.le_of_ble_eq_true rfl⟩) hS hA hP hD rfl rfl (by decide) (by decide) (by decide) (fun _ => by simp only [rr_wx, rr_wm, List.map_cons, List.map_nil]) (fun u86 H locs e86 hP hD hS => ?_)
          have hP : va_P D vwCl [(h0, .inr (1, [.ref qT, .int (nI n), .int (nI t), .int ((rr_tl f n z3.1 z3.2).1), .int ((rr_tl f n z3.1 z3.2).2), .ref qS])), (qT, .inl (cA, 187, .inl f)), (qS, .inr (0, [.long z3.1, .long z3.2]))] H := hP
          have hD : va_D A [(h0, .inr (1, [.ref qT, .int (nI n), .int (nI t), .int ((rr_tl f n z3.1 z3.2).1), .int ((rr_tl f n z3.1 z3.2).2), .ref qS])), (qT, .inl (cA, 187, .inl f)), (qS, .inr (0, [.long z3.1, .long z3.2]))] := hD
          have ee : (rr_qs x1 x2 x3 x4) = z3 := by
            rw [rr_qs_x hmn]
            rw [show rr_qc x3 x4 (-1) = false from rr_qc_hi ((lg_cmp_lt _ _).mp c38)]
            rw [show rr_qc x3 x4 (1) = decide (¬ (1 : Int64) = 0) from rr_qc_in (by decide) (Int64.not_lt.mp (fun z => c54 ((lg_cmp_gt _ _).mpr z))) (Int64.not_lt.mp (fun z => c61 ((lg_cmp_lt _ _).mpr z)))]
            simp only [rr_qm_no]
            rw [g3, g2, g1]
            rfl
          rw [← ee] at hP
          exact W.vret hx hb hr (fun tt ht hW => ⟨⟨(_, _), rfl, trivial, by dsimp only; rw [ht]; exact hP⟩, hS.F ht⟩) hS.2.2 dX1_divide_89
    · skip
      refine lv_aload_n hx hb dX1_divide_41 rfl (lv_at hl 0 rfl) ?_
      refine lv_lload_n hx hb dX1_divide_42 rfl (lv_at hl 1 rfl) ?_
      refine lv_lload_n hx hb dX1_divide_43 rfl (lv_at hl 2 rfl) ?_
      refine lv_ldc2 (v := (-1)) hx hb hown (hts (.constantLong RX1 119 (-1)) (by decide +kernel)) dX1_divide_44 ?_
      refine rr_wv (wr := []) [0, 1, 2] [] (va_runV (As := [.long x1, .long x2, .long ((-1))]) (rest := []) ⟨hx, hb, hml, hown, hts⟩ (c_X1_takeQuotients l D h0 qT qS H.size cA f n t lo hi z2.1 z2.2 x1 x2 (-1)) (cwV 3 hts gX1_divide_X1_takeQuotients rfl rfl rfl (by decide +kernel) ⟨Nat.le_of_ble_eq_true rfl, Nat.le_of_ble_eq_true rfl⟩) (rr_vN hN hK hP hD (va_recv hK hP (ci := 1) (q0 := 0) rfl rfl)) rfl rfl hl.1 rfl (lv_room (Nat.le_of_ble_eq_true rfl)) dX1_divide_47 ⟨Nat.le_of_ble_eq_true rfl, Nat.le_of_ble_eq_true rfl⟩) hS hA hP hD rfl rfl (by decide) (by decide) (by decide) (fun _ => by simp only [rr_wx, rr_wm, List.map_cons, List.map_nil]) (fun u47 H locs e47 hP hD hS => ?_)
      have hP : va_P D vwCl [(h0, .inr (1, [.ref qT, .int (nI n), .int (nI t), .int lo, .int hi, .ref qS])), (qT, .inl (cA, 187, .inl f)), (qS, .inr (0, [.long ((rr_qm (decide (¬ ((-1) : Int64) = 0)) x1 x2 (-1) (z2.1, z2.2)).1), .long ((rr_qm (decide (¬ ((-1) : Int64) = 0)) x1 x2 (-1) (z2.1, z2.2)).2)]))] H := hP
      have hD : va_D A [(h0, .inr (1, [.ref qT, .int (nI n), .int (nI t), .int lo, .int hi, .ref qS])), (qT, .inl (cA, 187, .inl f)), (qS, .inr (0, [.long ((rr_qm (decide (¬ ((-1) : Int64) = 0)) x1 x2 (-1) (z2.1, z2.2)).1), .long ((rr_qm (decide (¬ ((-1) : Int64) = 0)) x1 x2 (-1) (z2.1, z2.2)).2)]))] := hD
      obtain ⟨z3, g3⟩ : ∃ z, z = (rr_qm (decide (¬ ((-1) : Int64) = 0)) x1 x2 (-1) (z2.1, z2.2)) := ⟨_, rfl⟩
      rw [← g3] at hP hD
      have hP : va_P D vwCl [(h0, .inr (1, [.ref qT, .int (nI n), .int (nI t), .int lo, .int hi, .ref qS])), (qT, .inl (cA, 187, .inl f)), (qS, .inr (0, [.long z3.1, .long z3.2]))] H := hP
      have hD : va_D A [(h0, .inr (1, [.ref qT, .int (nI n), .int (nI t), .int lo, .int hi, .ref qS])), (qT, .inl (cA, 187, .inl f)), (qS, .inr (0, [.long z3.1, .long z3.2]))] := hD
      refine lv_lload hx hb dX1_divide_50 (lv_at hl 3 rfl) ?_
      refine lv_lconst (v := 1) hx hb dX1_divide_52 (by decide) ?_
      refine W.lcmp hx hb dX1_divide_53 ?_
      refine lv_if_gt (tgt := 71) hx hb dX1_divide_54 (by decide) (fun c54 => ?_) (fun c54 => ?_)
      · skip
        refine lv_aload_n hx hb dX1_divide_71 rfl (lv_at hl 0 rfl) ?_
        refine lv_aload_n hx hb dX1_divide_72 rfl (lv_at hl 0 rfl) ?_
        refine va_get (D := D) (ci := 1) (v := .ref qS) (C := RX1) (T := TX1) (N := 6) hx hb hts hiX1 hown hK hP 0 rfl rfl 5 (by decide) (hts (.fieldLink RX1 38 "RangeRules" "span" "LRangeRules$Span;") (by decide +kernel)) (fun _ h9 => h9) rfl dX1_divide_73 ?_
        refine va_getN (D := D) (ci := 0) (v := .long z3.1) (C := RX0) (T := TX0) (N := 2) hx hb hts hiX0 hown hK hP 2 rfl rfl 0 (by decide) (va_Nw.use rfl hN.2.2.1) (fun _ h9 => h9) rfl dX1_divide_76 ?_
        refine lv_aload_n hx hb dX1_divide_79 rfl (lv_at hl 0 rfl) ?_
        refine va_get (D := D) (ci := 1) (v := .ref qS) (C := RX1) (T := TX1) (N := 6) hx hb hts hiX1 hown hK hP 0 rfl rfl 5 (by decide) (hts (.fieldLink RX1 38 "RangeRules" "span" "LRangeRules$Span;") (by decide +kernel)) (fun _ h9 => h9) rfl dX1_divide_80 ?_
        refine va_getN (D := D) (ci := 0) (v := .long z3.2) (C := RX0) (T := TX0) (N := 2) hx hb hts hiX0 hown hK hP 2 rfl rfl 1 (by decide) (va_Nw.use rfl hN.2.2.2) (fun _ h9 => h9) rfl dX1_divide_83 ?_
        refine rr_wv (wr := []) [0, 1, 2] [] (va_runV (As := [.long z3.1, .long z3.2]) (rest := []) ⟨hx, hb, hml, hown, hts⟩ (c_X1_tell l D h0 qT qS H.size cA f n t lo hi z3.1 z3.2 z3.1 z3.2 hn) (cwV 2 hts gX1_divide_X1_tell rfl rfl rfl (by decide +kernel) ⟨Nat.le_of_ble_eq_true rfl, Nat.le_of_ble_eq_true rfl⟩) (rr_vW hK hP hD (va_recv hK hP (ci := 1) (q0 := 0) rfl rfl)) rfl rfl hl.1 rfl (lv_room (Nat.le_of_ble_eq_true rfl)) dX1_divide_86 ⟨Nat.le_of_ble_eq_true rfl, Nat.le_of_ble_eq_true rfl⟩) hS hA hP hD rfl rfl (by decide) (by decide) (by decide) (fun _ => by simp only [rr_wx, rr_wm, List.map_cons, List.map_nil]) (fun u86 H locs e86 hP hD hS => ?_)
        have hP : va_P D vwCl [(h0, .inr (1, [.ref qT, .int (nI n), .int (nI t), .int ((rr_tl f n z3.1 z3.2).1), .int ((rr_tl f n z3.1 z3.2).2), .ref qS])), (qT, .inl (cA, 187, .inl f)), (qS, .inr (0, [.long z3.1, .long z3.2]))] H := hP
        have hD : va_D A [(h0, .inr (1, [.ref qT, .int (nI n), .int (nI t), .int ((rr_tl f n z3.1 z3.2).1), .int ((rr_tl f n z3.1 z3.2).2), .ref qS])), (qT, .inl (cA, 187, .inl f)), (qS, .inr (0, [.long z3.1, .long z3.2]))] := hD
        have ee : (rr_qs x1 x2 x3 x4) = z3 := by
          rw [rr_qs_x hmn]
          rw [show rr_qc x3 x4 (-1) = decide (¬ (-1 : Int64) = 0) from rr_qc_in (by decide) (Int64.not_lt.mp (fun z => c29 ((lg_cmp_gt _ _).mpr z))) (Int64.not_lt.mp (fun z => c38 ((lg_cmp_lt _ _).mpr z)))]
          rw [show rr_qc x3 x4 (1) = false from rr_qc_lo ((lg_cmp_gt _ _).mp c54)]
          simp only [rr_qm_no]
          rw [g3, g2, g1]
          rfl
        rw [← ee] at hP
        exact W.vret hx hb hr (fun tt ht hW => ⟨⟨(_, _), rfl, trivial, by dsimp only; rw [ht]; exact hP⟩, hS.F ht⟩) hS.2.2 dX1_divide_89
      · skip
        refine lv_lload hx hb dX1_divide_57 (lv_at hl 4 rfl) ?_
        refine lv_lconst (v := 1) hx hb dX1_divide_59 (by decide) ?_
        refine W.lcmp hx hb dX1_divide_60 ?_
        refine lv_if_lt (tgt := 71) hx hb dX1_divide_61 (by decide) (fun c61 => ?_) (fun c61 => ?_)
        · skip
          refine lv_aload_n hx hb dX1_divide_71 rfl (lv_at hl 0 rfl) ?_
          refine lv_aload_n hx hb dX1_divide_72 rfl (lv_at hl 0 rfl) ?_
          refine va_get (D := D) (ci := 1) (v := .ref qS) (C := RX1) (T := TX1) (N := 6) hx hb hts hiX1 hown hK hP 0 rfl rfl 5 (by decide) (hts (.fieldLink RX1 38 "RangeRules" "span" "LRangeRules$Span;") (by decide +kernel)) (fun _ h9 => h9) rfl dX1_divide_73 ?_
          refine va_getN (D := D) (ci := 0) (v := .long z3.1) (C := RX0) (T := TX0) (N := 2) hx hb hts hiX0 hown hK hP 2 rfl rfl 0 (by decide) (va_Nw.use rfl hN.2.2.1) (fun _ h9 => h9) rfl dX1_divide_76 ?_
          refine lv_aload_n hx hb dX1_divide_79 rfl (lv_at hl 0 rfl) ?_
          refine va_get (D := D) (ci := 1) (v := .ref qS) (C := RX1) (T := TX1) (N := 6) hx hb hts hiX1 hown hK hP 0 rfl rfl 5 (by decide) (hts (.fieldLink RX1 38 "RangeRules" "span" "LRangeRules$Span;") (by decide +kernel)) (fun _ h9 => h9) rfl dX1_divide_80 ?_
          refine va_getN (D := D) (ci := 0) (v := .long z3.2) (C := RX0) (T := TX0) (N := 2) hx hb hts hiX0 hown hK hP 2 rfl rfl 1 (by decide) (va_Nw.use rfl hN.2.2.2) (fun _ h9 => h9) rfl dX1_divide_83 ?_
          refine rr_wv (wr := []) [0, 1, 2] [] (va_runV (As := [.long z3.1, .long z3.2]) (rest := []) ⟨hx, hb, hml, hown, hts⟩ (c_X1_tell l D h0 qT qS H.size cA f n t lo hi z3.1 z3.2 z3.1 z3.2 hn) (cwV 2 hts gX1_divide_X1_tell rfl rfl rfl (by decide +kernel) ⟨Nat.le_of_ble_eq_true rfl, Nat.le_of_ble_eq_true rfl⟩) (rr_vW hK hP hD (va_recv hK hP (ci := 1) (q0 := 0) rfl rfl)) rfl rfl hl.1 rfl (lv_room (Nat.le_of_ble_eq_true rfl)) dX1_divide_86 ⟨Nat.le_of_ble_eq_true rfl, Nat.le_of_ble_eq_true rfl⟩) hS hA hP hD rfl rfl (by decide) (by decide) (by decide) (fun _ => by simp only [rr_wx, rr_wm, List.map_cons, List.map_nil]) (fun u86 H locs e86 hP hD hS => ?_)
          have hP : va_P D vwCl [(h0, .inr (1, [.ref qT, .int (nI n), .int (nI t), .int ((rr_tl f n z3.1 z3.2).1), .int ((rr_tl f n z3.1 z3.2).2), .ref qS])), (qT, .inl (cA, 187, .inl f)), (qS, .inr (0, [.long z3.1, .long z3.2]))] H := hP
          have hD : va_D A [(h0, .inr (1, [.ref qT, .int (nI n), .int (nI t), .int ((rr_tl f n z3.1 z3.2).1), .int ((rr_tl f n z3.1 z3.2).2), .ref qS])), (qT, .inl (cA, 187, .inl f)), (qS, .inr (0, [.long z3.1, .long z3.2]))] := hD
          have ee : (rr_qs x1 x2 x3 x4) = z3 := by
            rw [rr_qs_x hmn]
            rw [show rr_qc x3 x4 (-1) = decide (¬ (-1 : Int64) = 0) from rr_qc_in (by decide) (Int64.not_lt.mp (fun z => c29 ((lg_cmp_gt _ _).mpr z))) (Int64.not_lt.mp (fun z => c38 ((lg_cmp_lt _ _).mpr z)))]
            rw [show rr_qc x3 x4 (1) = false from rr_qc_hi ((lg_cmp_lt _ _).mp c61)]
            simp only [rr_qm_no]
            rw [g3, g2, g1]
            rfl
          rw [← ee] at hP
          exact W.vret hx hb hr (fun tt ht hW => ⟨⟨(_, _), rfl, trivial, by dsimp only; rw [ht]; exact hP⟩, hS.F ht⟩) hS.2.2 dX1_divide_89
        · skip
          refine lv_aload_n hx hb dX1_divide_64 rfl (lv_at hl 0 rfl) ?_
          refine lv_lload_n hx hb dX1_divide_65 rfl (lv_at hl 1 rfl) ?_
          refine lv_lload_n hx hb dX1_divide_66 rfl (lv_at hl 2 rfl) ?_
          refine lv_lconst (v := 1) hx hb dX1_divide_67 (by decide) ?_
          refine rr_wv (wr := []) [0, 1, 2] [] (va_runV (As := [.long x1, .long x2, .long 1]) (rest := []) ⟨hx, hb, hml, hown, hts⟩ (c_X1_takeQuotients l D h0 qT qS H.size cA f n t lo hi z3.1 z3.2 x1 x2 1) (cwV 3 hts gX1_divide_X1_takeQuotients rfl rfl rfl (by decide +kernel) ⟨Nat.le_of_ble_eq_true rfl, Nat.le_of_ble_eq_true rfl⟩) (rr_vN hN hK hP hD (va_recv hK hP (ci := 1) (q0 := 0) rfl rfl)) rfl rfl hl.1 rfl (lv_room (Nat.le_of_ble_eq_true rfl)) dX1_divide_68 ⟨Nat.le_of_ble_eq_true rfl, Nat.le_of_ble_eq_true rfl⟩) hS hA hP hD rfl rfl (by decide) (by decide) (by decide) (fun _ => by simp only [rr_wx, rr_wm, List.map_cons, List.map_nil]) (fun u68 H locs e68 hP hD hS => ?_)
          have hP : va_P D vwCl [(h0, .inr (1, [.ref qT, .int (nI n), .int (nI t), .int lo, .int hi, .ref qS])), (qT, .inl (cA, 187, .inl f)), (qS, .inr (0, [.long ((rr_qm (decide (¬ (1 : Int64) = 0)) x1 x2 1 (z3.1, z3.2)).1), .long ((rr_qm (decide (¬ (1 : Int64) = 0)) x1 x2 1 (z3.1, z3.2)).2)]))] H := hP
          have hD : va_D A [(h0, .inr (1, [.ref qT, .int (nI n), .int (nI t), .int lo, .int hi, .ref qS])), (qT, .inl (cA, 187, .inl f)), (qS, .inr (0, [.long ((rr_qm (decide (¬ (1 : Int64) = 0)) x1 x2 1 (z3.1, z3.2)).1), .long ((rr_qm (decide (¬ (1 : Int64) = 0)) x1 x2 1 (z3.1, z3.2)).2)]))] := hD
          obtain ⟨z4, g4⟩ : ∃ z, z = (rr_qm (decide (¬ (1 : Int64) = 0)) x1 x2 1 (z3.1, z3.2)) := ⟨_, rfl⟩
          rw [← g4] at hP hD
          have hP : va_P D vwCl [(h0, .inr (1, [.ref qT, .int (nI n), .int (nI t), .int lo, .int hi, .ref qS])), (qT, .inl (cA, 187, .inl f)), (qS, .inr (0, [.long z4.1, .long z4.2]))] H := hP
          have hD : va_D A [(h0, .inr (1, [.ref qT, .int (nI n), .int (nI t), .int lo, .int hi, .ref qS])), (qT, .inl (cA, 187, .inl f)), (qS, .inr (0, [.long z4.1, .long z4.2]))] := hD
          refine lv_aload_n hx hb dX1_divide_71 rfl (lv_at hl 0 rfl) ?_
          refine lv_aload_n hx hb dX1_divide_72 rfl (lv_at hl 0 rfl) ?_
          refine va_get (D := D) (ci := 1) (v := .ref qS) (C := RX1) (T := TX1) (N := 6) hx hb hts hiX1 hown hK hP 0 rfl rfl 5 (by decide) (hts (.fieldLink RX1 38 "RangeRules" "span" "LRangeRules$Span;") (by decide +kernel)) (fun _ h9 => h9) rfl dX1_divide_73 ?_
          refine va_getN (D := D) (ci := 0) (v := .long z4.1) (C := RX0) (T := TX0) (N := 2) hx hb hts hiX0 hown hK hP 2 rfl rfl 0 (by decide) (va_Nw.use rfl hN.2.2.1) (fun _ h9 => h9) rfl dX1_divide_76 ?_
          refine lv_aload_n hx hb dX1_divide_79 rfl (lv_at hl 0 rfl) ?_
          refine va_get (D := D) (ci := 1) (v := .ref qS) (C := RX1) (T := TX1) (N := 6) hx hb hts hiX1 hown hK hP 0 rfl rfl 5 (by decide) (hts (.fieldLink RX1 38 "RangeRules" "span" "LRangeRules$Span;") (by decide +kernel)) (fun _ h9 => h9) rfl dX1_divide_80 ?_
          refine va_getN (D := D) (ci := 0) (v := .long z4.2) (C := RX0) (T := TX0) (N := 2) hx hb hts hiX0 hown hK hP 2 rfl rfl 1 (by decide) (va_Nw.use rfl hN.2.2.2) (fun _ h9 => h9) rfl dX1_divide_83 ?_
          refine rr_wv (wr := []) [0, 1, 2] [] (va_runV (As := [.long z4.1, .long z4.2]) (rest := []) ⟨hx, hb, hml, hown, hts⟩ (c_X1_tell l D h0 qT qS H.size cA f n t lo hi z4.1 z4.2 z4.1 z4.2 hn) (cwV 2 hts gX1_divide_X1_tell rfl rfl rfl (by decide +kernel) ⟨Nat.le_of_ble_eq_true rfl, Nat.le_of_ble_eq_true rfl⟩) (rr_vW hK hP hD (va_recv hK hP (ci := 1) (q0 := 0) rfl rfl)) rfl rfl hl.1 rfl (lv_room (Nat.le_of_ble_eq_true rfl)) dX1_divide_86 ⟨Nat.le_of_ble_eq_true rfl, Nat.le_of_ble_eq_true rfl⟩) hS hA hP hD rfl rfl (by decide) (by decide) (by decide) (fun _ => by simp only [rr_wx, rr_wm, List.map_cons, List.map_nil]) (fun u86 H locs e86 hP hD hS => ?_)
          have hP : va_P D vwCl [(h0, .inr (1, [.ref qT, .int (nI n), .int (nI t), .int ((rr_tl f n z4.1 z4.2).1), .int ((rr_tl f n z4.1 z4.2).2), .ref qS])), (qT, .inl (cA, 187, .inl f)), (qS, .inr (0, [.long z4.1, .long z4.2]))] H := hP
          have hD : va_D A [(h0, .inr (1, [.ref qT, .int (nI n), .int (nI t), .int ((rr_tl f n z4.1 z4.2).1), .int ((rr_tl f n z4.1 z4.2).2), .ref qS])), (qT, .inl (cA, 187, .inl f)), (qS, .inr (0, [.long z4.1, .long z4.2]))] := hD
          have ee : (rr_qs x1 x2 x3 x4) = z4 := by
            rw [rr_qs_x hmn]
            rw [show rr_qc x3 x4 (-1) = decide (¬ (-1 : Int64) = 0) from rr_qc_in (by decide) (Int64.not_lt.mp (fun z => c29 ((lg_cmp_gt _ _).mpr z))) (Int64.not_lt.mp (fun z => c38 ((lg_cmp_lt _ _).mpr z)))]
            rw [show rr_qc x3 x4 (1) = decide (¬ (1 : Int64) = 0) from rr_qc_in (by decide) (Int64.not_lt.mp (fun z => c54 ((lg_cmp_gt _ _).mpr z))) (Int64.not_lt.mp (fun z => c61 ((lg_cmp_lt _ _).mpr z)))]
            rw [g4, g3, g2, g1]
            rfl
          rw [← ee] at hP
          exact W.vret hx hb hr (fun tt ht hW => ⟨⟨(_, _), rfl, trivial, by dsimp only; rw [ht]; exact hP⟩, hS.F ht⟩) hS.2.2 dX1_divide_89
set_option maxHeartbeats 1000000 in
set_option maxRecDepth 100000 in
/-- rest(x, y, z, w) -/
theorem c_X1_rest (l : Launch) (D : va_G) (h0 qT qS sz : Nat) (cA : ClassId) (f : Nat → Int32) (n t : Nat) (lo hi : Int32) (a b : Int64) (x1 x2 x3 x4 : Int64) (hn : n ≤ 187) : Met l yX1_rest wsX1_rest ({ frames := 2, cells := 0, slots := 0, locals := 54 }) (rr_pW D (rr_wx h0 qT qS cA f n t lo hi a b) [(cA, .int)] [.ref h0, .long x1, .long x2, .long x3, .long x4] sz) (va_Qv (fun (_ : Unit) => True) (fun _ tt => va_P D vwCl (rr_wx h0 qT qS cA f n t (rr_tl f n (rr_rs x1 x2 x3 x4).1 (rr_rs x1 x2 x3 x4).2).1 (rr_tl f n (rr_rs x1 x2 x3 x4).1 (rr_rs x1 x2 x3 x4).2).2 a b) tt.heap) (va_A (rr_wx h0 qT qS cA f n t lo hi a b) sz)) 0 0 (va_A (rr_wx h0 qT qS cA f n t lo hi a b) sz) := by
  refine Met.ofW (cc := cX1_rest) (maxL := 11) (ret := none) (by decide) rfl ?_
  intro p e s m args below meth c s₁ B hml hv
  obtain ⟨rfl, hsz, hP, hK, hD0⟩ := hv
  have hx := B.exec
  have hb := B.bytes
  have hr := B.returns
  have hts := atoms_spec (ws := wsX1_rest) B.pre
  have hown : s.vm.findClass RX1 = some m.cls := findClass_of_methodNamed B.named
  have hlocks := B.notSynchronized
  subst hsz
  have hD := hD0.self (sz := s.heap.size)
  generalize hAe : va_A [(h0, .inr (1, [.ref qT, .int (nI n), .int (nI t), .int lo, .int hi, .ref qS])), (qT, .inl (cA, 187, .inl f)), (qS, .inr (0, [.long a, .long b]))] s.heap.size = A at hD ⊢
  have hA : ∀ q : Nat, s.heap.size ≤ q → A q := fun q h => by rw [← hAe]; exact Or.inr h
  have hS : va_S A s.heap s.heap [] := va_S.rf
  have hP : va_P D vwCl [(h0, .inr (1, [.ref qT, .int (nI n), .int (nI t), .int lo, .int hi, .ref qS])), (qT, .inl (cA, 187, .inl f)), (qS, .inr (0, [.long a, .long b]))] s.heap := hP
  have hiX1 : ∀ w ∈ wsX10, w ∈ wsX1_rest := by decide +kernel
  have hl := lv_entry ([.ref h0, .long x1, .long x2, .long x3, .long x4]) (n := 11) (Nat.le_of_ble_eq_true rfl)
  rw [lg_entry_eq]
  generalize (lg_sl ([.ref h0, .long x1, .long x2, .long x3, .long x4]) ++ List.replicate (11 - (lg_sl ([.ref h0, .long x1, .long x2, .long x3, .long x4])).length) Slot.unset).toArray = ls at hl ⊢
  have hl : lv_has ls 11 [(0, .ref h0), (1, .long x1), (3, .long x2), (5, .long x3), (7, .long x4)] := hl
  refine lv_lload hx hb dX1_rest_0 (lv_at hl 3 rfl) ?_
  refine va_mabs_long hx hb (hml.trans hl.1.symm) hown (hts (.methodLink RX1 121 Lib.MathLoose.abs_long.x) (by decide +kernel)) (hts (.static Lib.MathLoose.abs_long.x) (by decide +kernel)) (hts (.initialized "java/lang/Math") (by decide +kernel)) (hts (.code Lib.MathLoose.abs_long.x Lib.MathLoose.abs_long.code 2 (some .long)) (by decide +kernel)) (Nat.le_of_ble_eq_true rfl) (Nat.le_of_ble_eq_true rfl) (Nat.le_of_ble_eq_true rfl) (Nat.le_of_ble_eq_true rfl) dX1_rest_2 ?_
  refine W.eq (g2 := F0 m 5 ls [.long (rr_ab x3)]) rfl ?_
  refine lv_lload hx hb dX1_rest_5 (lv_at hl 4 rfl) ?_
  refine va_mabs_long hx hb (hml.trans hl.1.symm) hown (hts (.methodLink RX1 121 Lib.MathLoose.abs_long.x) (by decide +kernel)) (hts (.static Lib.MathLoose.abs_long.x) (by decide +kernel)) (hts (.initialized "java/lang/Math") (by decide +kernel)) (hts (.code Lib.MathLoose.abs_long.x Lib.MathLoose.abs_long.code 2 (some .long)) (by decide +kernel)) (Nat.le_of_ble_eq_true rfl) (Nat.le_of_ble_eq_true rfl) (Nat.le_of_ble_eq_true rfl) (Nat.le_of_ble_eq_true rfl) dX1_rest_7 ?_
  refine W.eq (g2 := F0 m 10 ls [.long (rr_ab x4), .long (rr_ab x3)]) rfl ?_
  refine va_mmax_long hx hb (hml.trans hl.1.symm) hown (hts (.methodLink RX1 127 Lib.MathLoose.max_long.x) (by decide +kernel)) (hts (.static Lib.MathLoose.max_long.x) (by decide +kernel)) (hts (.initialized "java/lang/Math") (by decide +kernel)) (hts (.code Lib.MathLoose.max_long.x Lib.MathLoose.max_long.code 4 (some .long)) (by decide +kernel)) (Nat.le_of_ble_eq_true rfl) (Nat.le_of_ble_eq_true rfl) (Nat.le_of_ble_eq_true rfl) (Nat.le_of_ble_eq_true rfl) dX1_rest_10 ?_
  refine W.eq (g2 := F0 m 13 ls [.long (rr_mx (rr_ab x3) (rr_ab x4))]) rfl ?_
  refine lv_lconst (v := 1) hx hb dX1_rest_13 (by decide) ?_
  refine lv_lsub hx hb dX1_rest_14 ?_
  refine lv_lstore (lv' := [(9, .long ((rr_mx (rr_ab x3) (rr_ab x4)) - 1)), (0, .ref h0), (1, .long x1), (3, .long x2), (5, .long x3), (7, .long x4)]) hx hb dX1_rest_15 hl (by decide) rfl (fun ls hl => ?_)
  refine lv_lload_n hx hb dX1_rest_17 rfl (lv_at hl 2 rfl) ?_
  refine lv_lconst (v := 0) hx hb dX1_rest_18 (by decide) ?_
  refine W.lcmp hx hb dX1_rest_19 ?_
  refine lv_if_lt (tgt := 37) hx hb dX1_rest_20 (by decide) (fun c20 => ?_) (fun c20 => ?_)
  · skip
    refine lv_lload_n hx hb dX1_rest_37 rfl (lv_at hl 3 rfl) ?_
    refine lv_lconst (v := 0) hx hb dX1_rest_38 (by decide) ?_
    refine W.lcmp hx hb dX1_rest_39 ?_
    refine lv_if_gt (tgt := 58) hx hb dX1_rest_40 (by decide) (fun c40 => ?_) (fun c40 => ?_)
    · skip
      refine lv_aload_n hx hb dX1_rest_58 rfl (lv_at hl 1 rfl) ?_
      refine lv_lload_n hx hb dX1_rest_59 rfl (lv_at hl 2 rfl) ?_
      refine lv_lload hx hb dX1_rest_60 (lv_at hl 0 rfl) ?_
      refine lv_lneg hx hb dX1_rest_62 ?_
      refine va_mmax_long hx hb (hml.trans hl.1.symm) hown (hts (.methodLink RX1 127 Lib.MathLoose.max_long.x) (by decide +kernel)) (hts (.static Lib.MathLoose.max_long.x) (by decide +kernel)) (hts (.initialized "java/lang/Math") (by decide +kernel)) (hts (.code Lib.MathLoose.max_long.x Lib.MathLoose.max_long.code 4 (some .long)) (by decide +kernel)) (Nat.le_of_ble_eq_true rfl) (Nat.le_of_ble_eq_true rfl) (Nat.le_of_ble_eq_true rfl) (Nat.le_of_ble_eq_true rfl) dX1_rest_63 ?_
      refine W.eq (g2 := F0 m 66 ls [.long (rr_mx x1 (-((rr_mx (rr_ab x3) (rr_ab x4)) - 1))), .ref h0]) rfl ?_
      refine lv_lload_n hx hb dX1_rest_66 rfl (lv_at hl 3 rfl) ?_
      refine lv_lload hx hb dX1_rest_67 (lv_at hl 0 rfl) ?_
      refine va_mmin_long hx hb (hml.trans hl.1.symm) hown (hts (.methodLink RX1 131 Lib.MathLoose.min_long.x) (by decide +kernel)) (hts (.static Lib.MathLoose.min_long.x) (by decide +kernel)) (hts (.initialized "java/lang/Math") (by decide +kernel)) (hts (.code Lib.MathLoose.min_long.x Lib.MathLoose.min_long.code 4 (some .long)) (by decide +kernel)) (Nat.le_of_ble_eq_true rfl) (Nat.le_of_ble_eq_true rfl) (Nat.le_of_ble_eq_true rfl) (Nat.le_of_ble_eq_true rfl) dX1_rest_69 ?_
      refine W.eq (g2 := F0 m 72 ls [.long (rr_mn x2 ((rr_mx (rr_ab x3) (rr_ab x4)) - 1)), .long (rr_mx x1 (-((rr_mx (rr_ab x3) (rr_ab x4)) - 1))), .ref h0]) rfl ?_
      refine rr_wv (wr := []) [0, 1, 2] [] (va_runV (As := [.long (rr_mx x1 (-((rr_mx (rr_ab x3) (rr_ab x4)) - 1))), .long (rr_mn x2 ((rr_mx (rr_ab x3) (rr_ab x4)) - 1))]) (rest := []) ⟨hx, hb, hml, hown, hts⟩ (c_X1_tell l D h0 qT qS s.heap.size cA f n t lo hi a b (rr_mx x1 (-((rr_mx (rr_ab x3) (rr_ab x4)) - 1))) (rr_mn x2 ((rr_mx (rr_ab x3) (rr_ab x4)) - 1)) hn) (cwV 2 hts gX1_rest_X1_tell rfl rfl rfl (by decide +kernel) ⟨Nat.le_of_ble_eq_true rfl, Nat.le_of_ble_eq_true rfl⟩) (rr_vW hK hP hD (va_recv hK hP (ci := 1) (q0 := 0) rfl rfl)) rfl rfl hl.1 rfl (lv_room (Nat.le_of_ble_eq_true rfl)) dX1_rest_72 ⟨Nat.le_of_ble_eq_true rfl, Nat.le_of_ble_eq_true rfl⟩) hS hA hP hD rfl rfl (by decide) (by decide) (by decide) (fun _ => by simp only [rr_wx, rr_wm, List.map_cons, List.map_nil]) (fun u72 H locs e72 hP hD hS => ?_)
      have hP : va_P D vwCl [(h0, .inr (1, [.ref qT, .int (nI n), .int (nI t), .int ((rr_tl f n (rr_mx x1 (-((rr_mx (rr_ab x3) (rr_ab x4)) - 1))) (rr_mn x2 ((rr_mx (rr_ab x3) (rr_ab x4)) - 1))).1), .int ((rr_tl f n (rr_mx x1 (-((rr_mx (rr_ab x3) (rr_ab x4)) - 1))) (rr_mn x2 ((rr_mx (rr_ab x3) (rr_ab x4)) - 1))).2), .ref qS])), (qT, .inl (cA, 187, .inl f)), (qS, .inr (0, [.long a, .long b]))] H := hP
      have hD : va_D A [(h0, .inr (1, [.ref qT, .int (nI n), .int (nI t), .int ((rr_tl f n (rr_mx x1 (-((rr_mx (rr_ab x3) (rr_ab x4)) - 1))) (rr_mn x2 ((rr_mx (rr_ab x3) (rr_ab x4)) - 1))).1), .int ((rr_tl f n (rr_mx x1 (-((rr_mx (rr_ab x3) (rr_ab x4)) - 1))) (rr_mn x2 ((rr_mx (rr_ab x3) (rr_ab x4)) - 1))).2), .ref qS])), (qT, .inl (cA, 187, .inl f)), (qS, .inr (0, [.long a, .long b]))] := hD
      have ee : (rr_rs x1 x2 x3 x4) = (rr_mx x1 (-(rr_mx (rr_ab x3) (rr_ab x4) - 1)), rr_mn x2 (rr_mx (rr_ab x3) (rr_ab x4) - 1)) := (if_neg (Int64.not_le.mpr ((lg_cmp_lt _ _).mp c20))).trans (if_neg (Int64.not_le.mpr ((lg_cmp_gt _ _).mp c40)))
      exact W.vret hx hb hr (fun tt ht hW => ⟨⟨(), rfl, trivial, by dsimp only; rw [ht, ee]; exact hP⟩, hS.F ht⟩) hS.2.2 dX1_rest_75
    · skip
      refine lv_aload_n hx hb dX1_rest_43 rfl (lv_at hl 1 rfl) ?_
      refine lv_lload_n hx hb dX1_rest_44 rfl (lv_at hl 2 rfl) ?_
      refine lv_lload hx hb dX1_rest_45 (lv_at hl 0 rfl) ?_
      refine lv_lneg hx hb dX1_rest_47 ?_
      refine va_mmax_long hx hb (hml.trans hl.1.symm) hown (hts (.methodLink RX1 127 Lib.MathLoose.max_long.x) (by decide +kernel)) (hts (.static Lib.MathLoose.max_long.x) (by decide +kernel)) (hts (.initialized "java/lang/Math") (by decide +kernel)) (hts (.code Lib.MathLoose.max_long.x Lib.MathLoose.max_long.code 4 (some .long)) (by decide +kernel)) (Nat.le_of_ble_eq_true rfl) (Nat.le_of_ble_eq_true rfl) (Nat.le_of_ble_eq_true rfl) (Nat.le_of_ble_eq_true rfl) dX1_rest_48 ?_
      refine W.eq (g2 := F0 m 51 ls [.long (rr_mx x1 (-((rr_mx (rr_ab x3) (rr_ab x4)) - 1))), .ref h0]) rfl ?_
      refine lv_lconst (v := 0) hx hb dX1_rest_51 (by decide) ?_
      refine rr_wv (wr := []) [0, 1, 2] [] (va_runV (As := [.long (rr_mx x1 (-((rr_mx (rr_ab x3) (rr_ab x4)) - 1))), .long 0]) (rest := []) ⟨hx, hb, hml, hown, hts⟩ (c_X1_tell l D h0 qT qS s.heap.size cA f n t lo hi a b (rr_mx x1 (-((rr_mx (rr_ab x3) (rr_ab x4)) - 1))) 0 hn) (cwV 2 hts gX1_rest_X1_tell rfl rfl rfl (by decide +kernel) ⟨Nat.le_of_ble_eq_true rfl, Nat.le_of_ble_eq_true rfl⟩) (rr_vW hK hP hD (va_recv hK hP (ci := 1) (q0 := 0) rfl rfl)) rfl rfl hl.1 rfl (lv_room (Nat.le_of_ble_eq_true rfl)) dX1_rest_52 ⟨Nat.le_of_ble_eq_true rfl, Nat.le_of_ble_eq_true rfl⟩) hS hA hP hD rfl rfl (by decide) (by decide) (by decide) (fun _ => by simp only [rr_wx, rr_wm, List.map_cons, List.map_nil]) (fun u52 H locs e52 hP hD hS => ?_)
      have hP : va_P D vwCl [(h0, .inr (1, [.ref qT, .int (nI n), .int (nI t), .int ((rr_tl f n (rr_mx x1 (-((rr_mx (rr_ab x3) (rr_ab x4)) - 1))) 0).1), .int ((rr_tl f n (rr_mx x1 (-((rr_mx (rr_ab x3) (rr_ab x4)) - 1))) 0).2), .ref qS])), (qT, .inl (cA, 187, .inl f)), (qS, .inr (0, [.long a, .long b]))] H := hP
      have hD : va_D A [(h0, .inr (1, [.ref qT, .int (nI n), .int (nI t), .int ((rr_tl f n (rr_mx x1 (-((rr_mx (rr_ab x3) (rr_ab x4)) - 1))) 0).1), .int ((rr_tl f n (rr_mx x1 (-((rr_mx (rr_ab x3) (rr_ab x4)) - 1))) 0).2), .ref qS])), (qT, .inl (cA, 187, .inl f)), (qS, .inr (0, [.long a, .long b]))] := hD
      refine lv_goto (tgt := 75) hx hb dX1_rest_55 (by decide) ?_
      have ee : (rr_rs x1 x2 x3 x4) = (rr_mx x1 (-(rr_mx (rr_ab x3) (rr_ab x4) - 1)), 0) := (if_neg (Int64.not_le.mpr ((lg_cmp_lt _ _).mp c20))).trans (if_pos (Int64.not_lt.mp (fun z => c40 ((lg_cmp_gt _ _).mpr z))))
      exact W.vret hx hb hr (fun tt ht hW => ⟨⟨(), rfl, trivial, by dsimp only; rw [ht, ee]; exact hP⟩, hS.F ht⟩) hS.2.2 dX1_rest_75
  · skip
    refine lv_aload_n hx hb dX1_rest_23 rfl (lv_at hl 1 rfl) ?_
    refine lv_lconst (v := 0) hx hb dX1_rest_24 (by decide) ?_
    refine lv_lload_n hx hb dX1_rest_25 rfl (lv_at hl 3 rfl) ?_
    refine lv_lload hx hb dX1_rest_26 (lv_at hl 0 rfl) ?_
    refine va_mmin_long hx hb (hml.trans hl.1.symm) hown (hts (.methodLink RX1 131 Lib.MathLoose.min_long.x) (by decide +kernel)) (hts (.static Lib.MathLoose.min_long.x) (by decide +kernel)) (hts (.initialized "java/lang/Math") (by decide +kernel)) (hts (.code Lib.MathLoose.min_long.x Lib.MathLoose.min_long.code 4 (some .long)) (by decide +kernel)) (Nat.le_of_ble_eq_true rfl) (Nat.le_of_ble_eq_true rfl) (Nat.le_of_ble_eq_true rfl) (Nat.le_of_ble_eq_true rfl) dX1_rest_28 ?_
    refine W.eq (g2 := F0 m 31 ls [.long (rr_mn x2 ((rr_mx (rr_ab x3) (rr_ab x4)) - 1)), .long 0, .ref h0]) rfl ?_
    refine rr_wv (wr := []) [0, 1, 2] [] (va_runV (As := [.long 0, .long (rr_mn x2 ((rr_mx (rr_ab x3) (rr_ab x4)) - 1))]) (rest := []) ⟨hx, hb, hml, hown, hts⟩ (c_X1_tell l D h0 qT qS s.heap.size cA f n t lo hi a b 0 (rr_mn x2 ((rr_mx (rr_ab x3) (rr_ab x4)) - 1)) hn) (cwV 2 hts gX1_rest_X1_tell rfl rfl rfl (by decide +kernel) ⟨Nat.le_of_ble_eq_true rfl, Nat.le_of_ble_eq_true rfl⟩) (rr_vW hK hP hD (va_recv hK hP (ci := 1) (q0 := 0) rfl rfl)) rfl rfl hl.1 rfl (lv_room (Nat.le_of_ble_eq_true rfl)) dX1_rest_31 ⟨Nat.le_of_ble_eq_true rfl, Nat.le_of_ble_eq_true rfl⟩) hS hA hP hD rfl rfl (by decide) (by decide) (by decide) (fun _ => by simp only [rr_wx, rr_wm, List.map_cons, List.map_nil]) (fun u31 H locs e31 hP hD hS => ?_)
    have hP : va_P D vwCl [(h0, .inr (1, [.ref qT, .int (nI n), .int (nI t), .int ((rr_tl f n 0 (rr_mn x2 ((rr_mx (rr_ab x3) (rr_ab x4)) - 1))).1), .int ((rr_tl f n 0 (rr_mn x2 ((rr_mx (rr_ab x3) (rr_ab x4)) - 1))).2), .ref qS])), (qT, .inl (cA, 187, .inl f)), (qS, .inr (0, [.long a, .long b]))] H := hP
    have hD : va_D A [(h0, .inr (1, [.ref qT, .int (nI n), .int (nI t), .int ((rr_tl f n 0 (rr_mn x2 ((rr_mx (rr_ab x3) (rr_ab x4)) - 1))).1), .int ((rr_tl f n 0 (rr_mn x2 ((rr_mx (rr_ab x3) (rr_ab x4)) - 1))).2), .ref qS])), (qT, .inl (cA, 187, .inl f)), (qS, .inr (0, [.long a, .long b]))] := hD
    refine lv_goto (tgt := 75) hx hb dX1_rest_34 (by decide) ?_
    have ee : (rr_rs x1 x2 x3 x4) = (0, rr_mn x2 (rr_mx (rr_ab x3) (rr_ab x4) - 1)) := if_pos (Int64.not_lt.mp (fun z => c20 ((lg_cmp_lt _ _).mpr z)))
    exact W.vret hx hb hr (fun tt ht hW => ⟨⟨(), rfl, trivial, by dsimp only; rw [ht, ee]; exact hP⟩, hS.F ht⟩) hS.2.2 dX1_rest_75
set_option maxHeartbeats 1000000 in
set_option maxRecDepth 100000 in
/-- and(x, y, z, w) -/
theorem c_X1_and (l : Launch) (D : va_G) (h0 qT qS sz : Nat) (cA : ClassId) (f : Nat → Int32) (n t : Nat) (lo hi : Int32) (a b : Int64) (x1 x2 x3 x4 : Int32) (hn : n ≤ 187) : Met l yX1_and wsX1_and ({ frames := 2, cells := 0, slots := 0, locals := 54 }) (rr_pW D (rr_wx h0 qT qS cA f n t lo hi a b) [(cA, .int)] [.ref h0, .int x1, .int x2, .int x3, .int x4] sz) (va_Qv (fun (_ : Unit) => True) (fun _ tt => va_P D vwCl (rr_wx h0 qT qS cA f n t (rr_tl f n (rr_o5 x1 x2 x3 x4).1 (rr_o5 x1 x2 x3 x4).2).1 (rr_tl f n (rr_o5 x1 x2 x3 x4).1 (rr_o5 x1 x2 x3 x4).2).2 a b) tt.heap) (va_A (rr_wx h0 qT qS cA f n t lo hi a b) sz)) 0 0 (va_A (rr_wx h0 qT qS cA f n t lo hi a b) sz) := by
  refine Met.ofW (cc := cX1_and) (maxL := 5) (ret := none) (by decide) rfl ?_
  intro p e s m args below meth c s₁ B hml hv
  obtain ⟨rfl, hsz, hP, hK, hD0⟩ := hv
  have hx := B.exec
  have hb := B.bytes
  have hr := B.returns
  have hts := atoms_spec (ws := wsX1_and) B.pre
  have hown : s.vm.findClass RX1 = some m.cls := findClass_of_methodNamed B.named
  have hlocks := B.notSynchronized
  subst hsz
  have hD := hD0.self (sz := s.heap.size)
  generalize hAe : va_A [(h0, .inr (1, [.ref qT, .int (nI n), .int (nI t), .int lo, .int hi, .ref qS])), (qT, .inl (cA, 187, .inl f)), (qS, .inr (0, [.long a, .long b]))] s.heap.size = A at hD ⊢
  have hA : ∀ q : Nat, s.heap.size ≤ q → A q := fun q h => by rw [← hAe]; exact Or.inr h
  have hS : va_S A s.heap s.heap [] := va_S.rf
  have hP : va_P D vwCl [(h0, .inr (1, [.ref qT, .int (nI n), .int (nI t), .int lo, .int hi, .ref qS])), (qT, .inl (cA, 187, .inl f)), (qS, .inr (0, [.long a, .long b]))] s.heap := hP
  have hiX1 : ∀ w ∈ wsX10, w ∈ wsX1_and := by decide +kernel
  have hl := lv_entry ([.ref h0, .int x1, .int x2, .int x3, .int x4]) (n := 5) (Nat.le_of_ble_eq_true rfl)
  rw [lg_entry_eq]
  generalize (lg_sl ([.ref h0, .int x1, .int x2, .int x3, .int x4]) ++ List.replicate (5 - (lg_sl ([.ref h0, .int x1, .int x2, .int x3, .int x4])).length) Slot.unset).toArray = ls at hl ⊢
  have hl : lv_has ls 5 [(0, .ref h0), (1, .int x1), (2, .int x2), (3, .int x3), (4, .int x4)] := hl
  refine lv_iload_n hx hb dX1_and_0 rfl (lv_at hl 1 rfl) ?_
  refine lv_if_ge (tgt := 15) hx hb dX1_and_1 (by decide) (fun c1 => ?_) (fun c1 => ?_)
  · skip
    refine lv_iload_n hx hb dX1_and_15 rfl (lv_at hl 1 rfl) ?_
    refine lv_if_ge (tgt := 30) hx hb dX1_and_16 (by decide) (fun c16 => ?_) (fun c16 => ?_)
    · skip
      refine lv_iload_n hx hb dX1_and_30 rfl (lv_at hl 3 rfl) ?_
      refine lv_if_ge (tgt := 44) hx hb dX1_and_31 (by decide) (fun c31 => ?_) (fun c31 => ?_)
      · skip
        refine lv_aload_n hx hb dX1_and_44 rfl (lv_at hl 0 rfl) ?_
        refine lv_lconst (v := 0) hx hb dX1_and_45 (by decide) ?_
        refine lv_iload_n hx hb dX1_and_46 rfl (lv_at hl 2 rfl) ?_
        refine lv_iload hx hb dX1_and_47 (lv_at hl 4 rfl) ?_
        refine va_mmin hx hb (hml.trans hl.1.symm) hown (hts (.methodLink RX1 134 Lib.Math.min.name) (by decide +kernel)) (hts (.static Lib.Math.min.name) (by decide +kernel)) (hts (.initialized "java/lang/Math") (by decide +kernel)) (hts (.code Lib.Math.min.name Lib.Math.min.code 2 (some .int)) (by decide +kernel)) (Nat.le_of_ble_eq_true rfl) (Nat.le_of_ble_eq_true rfl) (Nat.le_of_ble_eq_true rfl) (Nat.le_of_ble_eq_true rfl) dX1_and_49 ?_
        refine W.eq (g2 := F0 m 52 ls [.int (rr_ni x2 x4), .long 0, .ref h0]) rfl ?_
        refine lv_i2l (v := (rr_ni x2 x4).toInt64) hx hb dX1_and_52 rfl ?_
        refine rr_wv (wr := []) [0, 1, 2] [] (va_runV (As := [.long 0, .long ((rr_ni x2 x4).toInt64)]) (rest := []) ⟨hx, hb, hml, hown, hts⟩ (c_X1_tell l D h0 qT qS s.heap.size cA f n t lo hi a b 0 ((rr_ni x2 x4).toInt64) hn) (cwV 2 hts gX1_and_X1_tell rfl rfl rfl (by decide +kernel) ⟨Nat.le_of_ble_eq_true rfl, Nat.le_of_ble_eq_true rfl⟩) (rr_vW hK hP hD (va_recv hK hP (ci := 1) (q0 := 0) rfl rfl)) rfl rfl hl.1 rfl (lv_room (Nat.le_of_ble_eq_true rfl)) dX1_and_53 ⟨Nat.le_of_ble_eq_true rfl, Nat.le_of_ble_eq_true rfl⟩) hS hA hP hD rfl rfl (by decide) (by decide) (by decide) (fun _ => by simp only [rr_wx, rr_wm, List.map_cons, List.map_nil]) (fun u53 H locs e53 hP hD hS => ?_)
        have hP : va_P D vwCl [(h0, .inr (1, [.ref qT, .int (nI n), .int (nI t), .int ((rr_tl f n 0 ((rr_ni x2 x4).toInt64)).1), .int ((rr_tl f n 0 ((rr_ni x2 x4).toInt64)).2), .ref qS])), (qT, .inl (cA, 187, .inl f)), (qS, .inr (0, [.long a, .long b]))] H := hP
        have hD : va_D A [(h0, .inr (1, [.ref qT, .int (nI n), .int (nI t), .int ((rr_tl f n 0 ((rr_ni x2 x4).toInt64)).1), .int ((rr_tl f n 0 ((rr_ni x2 x4).toInt64)).2), .ref qS])), (qT, .inl (cA, 187, .inl f)), (qS, .inr (0, [.long a, .long b]))] := hD
        have ee : (rr_o5 x1 x2 x3 x4) = (0, (rr_ni x2 x4).toInt64) := (if_neg (fun z => by first | exact absurd z.1 (Int32.not_lt.mpr c1) | exact absurd z.2 (Int32.not_lt.mpr c5))).trans ((if_neg (Int32.not_lt.mpr c16)).trans (if_neg (Int32.not_lt.mpr c31)))
        have ef := congrArg (fun z : Int64 × Int64 => rr_tl f n z.1 z.2) ee
        try dsimp only at ef
        exact W.vret hx hb hr (fun tt ht hW => ⟨⟨(), rfl, trivial, by dsimp only; rw [ht, ef]; exact hP⟩, hS.F ht⟩) hS.2.2 dX1_and_56
      · skip
        refine lv_aload_n hx hb dX1_and_34 rfl (lv_at hl 0 rfl) ?_
        refine lv_lconst (v := 0) hx hb dX1_and_35 (by decide) ?_
        refine lv_iload_n hx hb dX1_and_36 rfl (lv_at hl 2 rfl) ?_
        refine lv_i2l (v := x2.toInt64) hx hb dX1_and_37 rfl ?_
        refine rr_wv (wr := []) [0, 1, 2] [] (va_runV (As := [.long 0, .long x2.toInt64]) (rest := []) ⟨hx, hb, hml, hown, hts⟩ (c_X1_tell l D h0 qT qS s.heap.size cA f n t lo hi a b 0 x2.toInt64 hn) (cwV 2 hts gX1_and_X1_tell rfl rfl rfl (by decide +kernel) ⟨Nat.le_of_ble_eq_true rfl, Nat.le_of_ble_eq_true rfl⟩) (rr_vW hK hP hD (va_recv hK hP (ci := 1) (q0 := 0) rfl rfl)) rfl rfl hl.1 rfl (lv_room (Nat.le_of_ble_eq_true rfl)) dX1_and_38 ⟨Nat.le_of_ble_eq_true rfl, Nat.le_of_ble_eq_true rfl⟩) hS hA hP hD rfl rfl (by decide) (by decide) (by decide) (fun _ => by simp only [rr_wx, rr_wm, List.map_cons, List.map_nil]) (fun u38 H locs e38 hP hD hS => ?_)
        have hP : va_P D vwCl [(h0, .inr (1, [.ref qT, .int (nI n), .int (nI t), .int ((rr_tl f n 0 x2.toInt64).1), .int ((rr_tl f n 0 x2.toInt64).2), .ref qS])), (qT, .inl (cA, 187, .inl f)), (qS, .inr (0, [.long a, .long b]))] H := hP
        have hD : va_D A [(h0, .inr (1, [.ref qT, .int (nI n), .int (nI t), .int ((rr_tl f n 0 x2.toInt64).1), .int ((rr_tl f n 0 x2.toInt64).2), .ref qS])), (qT, .inl (cA, 187, .inl f)), (qS, .inr (0, [.long a, .long b]))] := hD
        refine lv_goto (tgt := 56) hx hb dX1_and_41 (by decide) ?_
        have ee : (rr_o5 x1 x2 x3 x4) = (0, x2.toInt64) := (if_neg (fun z => by first | exact absurd z.1 (Int32.not_lt.mpr c1) | exact absurd z.2 (Int32.not_lt.mpr c5))).trans ((if_neg (Int32.not_lt.mpr c16)).trans (if_pos (Int32.not_le.mp c31)))
        have ef := congrArg (fun z : Int64 × Int64 => rr_tl f n z.1 z.2) ee
        try dsimp only at ef
        exact W.vret hx hb hr (fun tt ht hW => ⟨⟨(), rfl, trivial, by dsimp only; rw [ht, ef]; exact hP⟩, hS.F ht⟩) hS.2.2 dX1_and_56
    · skip
      exact absurd c1 c16
  · skip
    refine lv_iload_n hx hb dX1_and_4 rfl (lv_at hl 3 rfl) ?_
    refine lv_if_ge (tgt := 15) hx hb dX1_and_5 (by decide) (fun c5 => ?_) (fun c5 => ?_)
    · skip
      refine lv_iload_n hx hb dX1_and_15 rfl (lv_at hl 1 rfl) ?_
      refine lv_if_ge (tgt := 30) hx hb dX1_and_16 (by decide) (fun c16 => ?_) (fun c16 => ?_)
      · skip
        exact absurd c16 c1
      · skip
        refine lv_aload_n hx hb dX1_and_19 rfl (lv_at hl 0 rfl) ?_
        refine lv_lconst (v := 0) hx hb dX1_and_20 (by decide) ?_
        refine lv_iload hx hb dX1_and_21 (lv_at hl 4 rfl) ?_
        refine lv_i2l (v := x4.toInt64) hx hb dX1_and_23 rfl ?_
        refine rr_wv (wr := []) [0, 1, 2] [] (va_runV (As := [.long 0, .long x4.toInt64]) (rest := []) ⟨hx, hb, hml, hown, hts⟩ (c_X1_tell l D h0 qT qS s.heap.size cA f n t lo hi a b 0 x4.toInt64 hn) (cwV 2 hts gX1_and_X1_tell rfl rfl rfl (by decide +kernel) ⟨Nat.le_of_ble_eq_true rfl, Nat.le_of_ble_eq_true rfl⟩) (rr_vW hK hP hD (va_recv hK hP (ci := 1) (q0 := 0) rfl rfl)) rfl rfl hl.1 rfl (lv_room (Nat.le_of_ble_eq_true rfl)) dX1_and_24 ⟨Nat.le_of_ble_eq_true rfl, Nat.le_of_ble_eq_true rfl⟩) hS hA hP hD rfl rfl (by decide) (by decide) (by decide) (fun _ => by simp only [rr_wx, rr_wm, List.map_cons, List.map_nil]) (fun u24 H locs e24 hP hD hS => ?_)
        have hP : va_P D vwCl [(h0, .inr (1, [.ref qT, .int (nI n), .int (nI t), .int ((rr_tl f n 0 x4.toInt64).1), .int ((rr_tl f n 0 x4.toInt64).2), .ref qS])), (qT, .inl (cA, 187, .inl f)), (qS, .inr (0, [.long a, .long b]))] H := hP
        have hD : va_D A [(h0, .inr (1, [.ref qT, .int (nI n), .int (nI t), .int ((rr_tl f n 0 x4.toInt64).1), .int ((rr_tl f n 0 x4.toInt64).2), .ref qS])), (qT, .inl (cA, 187, .inl f)), (qS, .inr (0, [.long a, .long b]))] := hD
        refine lv_goto (tgt := 56) hx hb dX1_and_27 (by decide) ?_
        have ee : (rr_o5 x1 x2 x3 x4) = (0, x4.toInt64) := (if_neg (fun z => by first | exact absurd z.1 (Int32.not_lt.mpr c1) | exact absurd z.2 (Int32.not_lt.mpr c5))).trans (if_pos (Int32.not_le.mp c16))
        have ef := congrArg (fun z : Int64 × Int64 => rr_tl f n z.1 z.2) ee
        try dsimp only at ef
        exact W.vret hx hb hr (fun tt ht hW => ⟨⟨(), rfl, trivial, by dsimp only; rw [ht, ef]; exact hP⟩, hS.F ht⟩) hS.2.2 dX1_and_56
    · skip
      refine lv_aload_n hx hb dX1_and_8 rfl (lv_at hl 0 rfl) ?_
      refine rr_wv (wr := []) [0, 1, 2] [] (va_runV (As := []) (rest := []) ⟨hx, hb, hml, hown, hts⟩ (c_X1_tellAllInts l D h0 qT qS s.heap.size cA f n t lo hi a b) (cwV 0 hts gX1_and_X1_tellAllInts rfl rfl rfl (by decide +kernel) ⟨Nat.le_of_ble_eq_true rfl, Nat.le_of_ble_eq_true rfl⟩) (rr_vW hK hP hD (va_recv hK hP (ci := 1) (q0 := 0) rfl rfl)) rfl rfl hl.1 rfl (lv_room (Nat.le_of_ble_eq_true rfl)) dX1_and_9 ⟨Nat.le_of_ble_eq_true rfl, Nat.le_of_ble_eq_true rfl⟩) hS hA hP hD rfl rfl (by decide) (by decide) (by decide) (fun _ => by simp only [rr_wx, rr_wm, List.map_cons, List.map_nil]) (fun u9 H locs e9 hP hD hS => ?_)
      have hP : va_P D vwCl [(h0, .inr (1, [.ref qT, .int (nI n), .int (nI t), .int ((-2147483648)), .int 2147483647, .ref qS])), (qT, .inl (cA, 187, .inl f)), (qS, .inr (0, [.long a, .long b]))] H := hP
      have hD : va_D A [(h0, .inr (1, [.ref qT, .int (nI n), .int (nI t), .int ((-2147483648)), .int 2147483647, .ref qS])), (qT, .inl (cA, 187, .inl f)), (qS, .inr (0, [.long a, .long b]))] := hD
      refine lv_goto (tgt := 56) hx hb dX1_and_12 (by decide) ?_
      have ee : (rr_o5 x1 x2 x3 x4) = (-2147483648, 2147483647) := if_pos ⟨Int32.not_le.mp c1, Int32.not_le.mp c5⟩
      have ef : rr_tl f n (rr_o5 x1 x2 x3 x4).1 (rr_o5 x1 x2 x3 x4).2 = (-2147483648, 2147483647) := by rw [ee]; exact rr_tl_all f n
      exact W.vret hx hb hr (fun tt ht hW => ⟨⟨(), rfl, trivial, by dsimp only; rw [ht, ef]; exact hP⟩, hS.F ht⟩) hS.2.2 dX1_and_56
set_option maxHeartbeats 1000000 in
set_option maxRecDepth 100000 in
/-- orOrXor(x, y, z, w) -/
theorem c_X1_orOrXor (l : Launch) (D : va_G) (h0 qT qS sz : Nat) (cA : ClassId) (f : Nat → Int32) (n t : Nat) (lo hi : Int32) (a b : Int64) (x1 x2 x3 x4 : Int32) (hn : n ≤ 187) : Met l yX1_orOrXor wsX1_orOrXor ({ frames := 2, cells := 0, slots := 0, locals := 54 }) (rr_pW D (rr_wx h0 qT qS cA f n t lo hi a b) [(cA, .int)] [.ref h0, .int x1, .int x2, .int x3, .int x4] sz) (va_Qv (fun (_ : Unit) => True) (fun _ tt => va_P D vwCl (rr_wx h0 qT qS cA f n t (rr_tl f n (rr_o6 x1 x2 x3 x4).1 (rr_o6 x1 x2 x3 x4).2).1 (rr_tl f n (rr_o6 x1 x2 x3 x4).1 (rr_o6 x1 x2 x3 x4).2).2 a b) tt.heap) (va_A (rr_wx h0 qT qS cA f n t lo hi a b) sz)) 0 0 (va_A (rr_wx h0 qT qS cA f n t lo hi a b) sz) := by
  refine Met.ofW (cc := cX1_orOrXor) (maxL := 5) (ret := none) (by decide) rfl ?_
  intro p e s m args below meth c s₁ B hml hv
  obtain ⟨rfl, hsz, hP, hK, hD0⟩ := hv
  have hx := B.exec
  have hb := B.bytes
  have hr := B.returns
  have hts := atoms_spec (ws := wsX1_orOrXor) B.pre
  have hown : s.vm.findClass RX1 = some m.cls := findClass_of_methodNamed B.named
  have hlocks := B.notSynchronized
  subst hsz
  have hD := hD0.self (sz := s.heap.size)
  generalize hAe : va_A [(h0, .inr (1, [.ref qT, .int (nI n), .int (nI t), .int lo, .int hi, .ref qS])), (qT, .inl (cA, 187, .inl f)), (qS, .inr (0, [.long a, .long b]))] s.heap.size = A at hD ⊢
  have hA : ∀ q : Nat, s.heap.size ≤ q → A q := fun q h => by rw [← hAe]; exact Or.inr h
  have hS : va_S A s.heap s.heap [] := va_S.rf
  have hP : va_P D vwCl [(h0, .inr (1, [.ref qT, .int (nI n), .int (nI t), .int lo, .int hi, .ref qS])), (qT, .inl (cA, 187, .inl f)), (qS, .inr (0, [.long a, .long b]))] s.heap := hP
  have hiX1 : ∀ w ∈ wsX10, w ∈ wsX1_orOrXor := by decide +kernel
  have hl := lv_entry ([.ref h0, .int x1, .int x2, .int x3, .int x4]) (n := 5) (Nat.le_of_ble_eq_true rfl)
  rw [lg_entry_eq]
  generalize (lg_sl ([.ref h0, .int x1, .int x2, .int x3, .int x4]) ++ List.replicate (5 - (lg_sl ([.ref h0, .int x1, .int x2, .int x3, .int x4])).length) Slot.unset).toArray = ls at hl ⊢
  have hl : lv_has ls 5 [(0, .ref h0), (1, .int x1), (2, .int x2), (3, .int x3), (4, .int x4)] := hl
  refine lv_iload_n hx hb dX1_orOrXor_0 rfl (lv_at hl 1 rfl) ?_
  refine lv_if_lt (tgt := 8) hx hb dX1_orOrXor_1 (by decide) (fun c1 => ?_) (fun c1 => ?_)
  · skip
    refine lv_aload_n hx hb dX1_orOrXor_8 rfl (lv_at hl 0 rfl) ?_
    refine rr_wv (wr := []) [0, 1, 2] [] (va_runV (As := []) (rest := []) ⟨hx, hb, hml, hown, hts⟩ (c_X1_tellAllInts l D h0 qT qS s.heap.size cA f n t lo hi a b) (cwV 0 hts gX1_orOrXor_X1_tellAllInts rfl rfl rfl (by decide +kernel) ⟨Nat.le_of_ble_eq_true rfl, Nat.le_of_ble_eq_true rfl⟩) (rr_vW hK hP hD (va_recv hK hP (ci := 1) (q0 := 0) rfl rfl)) rfl rfl hl.1 rfl (lv_room (Nat.le_of_ble_eq_true rfl)) dX1_orOrXor_9 ⟨Nat.le_of_ble_eq_true rfl, Nat.le_of_ble_eq_true rfl⟩) hS hA hP hD rfl rfl (by decide) (by decide) (by decide) (fun _ => by simp only [rr_wx, rr_wm, List.map_cons, List.map_nil]) (fun u9 H locs e9 hP hD hS => ?_)
    have hP : va_P D vwCl [(h0, .inr (1, [.ref qT, .int (nI n), .int (nI t), .int ((-2147483648)), .int 2147483647, .ref qS])), (qT, .inl (cA, 187, .inl f)), (qS, .inr (0, [.long a, .long b]))] H := hP
    have hD : va_D A [(h0, .inr (1, [.ref qT, .int (nI n), .int (nI t), .int ((-2147483648)), .int 2147483647, .ref qS])), (qT, .inl (cA, 187, .inl f)), (qS, .inr (0, [.long a, .long b]))] := hD
    refine lv_goto (tgt := 30) hx hb dX1_orOrXor_12 (by decide) ?_
    have ee : (rr_o6 x1 x2 x3 x4) = (-2147483648, 2147483647) := if_pos (by first | exact Or.inl c1 | exact Or.inr (Int32.not_le.mp c5))
    have ef : rr_tl f n (rr_o6 x1 x2 x3 x4).1 (rr_o6 x1 x2 x3 x4).2 = (-2147483648, 2147483647) := by rw [ee]; exact rr_tl_all f n
    exact W.vret hx hb hr (fun tt ht hW => ⟨⟨(), rfl, trivial, by dsimp only; rw [ht, ef]; exact hP⟩, hS.F ht⟩) hS.2.2 dX1_orOrXor_30
  · skip
    refine lv_iload_n hx hb dX1_orOrXor_4 rfl (lv_at hl 3 rfl) ?_
    refine lv_if_ge (tgt := 15) hx hb dX1_orOrXor_5 (by decide) (fun c5 => ?_) (fun c5 => ?_)
    · skip
      refine lv_aload_n hx hb dX1_orOrXor_15 rfl (lv_at hl 0 rfl) ?_
      refine lv_lconst (v := 0) hx hb dX1_orOrXor_16 (by decide) ?_
      refine lv_iload_n hx hb dX1_orOrXor_17 rfl (lv_at hl 2 rfl) ?_
      refine lv_iload hx hb dX1_orOrXor_18 (lv_at hl 4 rfl) ?_
      refine va_mmax hx hb (hml.trans hl.1.symm) hown (hts (.methodLink RX1 137 Lib.Math.max.name) (by decide +kernel)) (hts (.static Lib.Math.max.name) (by decide +kernel)) (hts (.initialized "java/lang/Math") (by decide +kernel)) (hts (.code Lib.Math.max.name Lib.Math.max.code 2 (some .int)) (by decide +kernel)) (Nat.le_of_ble_eq_true rfl) (Nat.le_of_ble_eq_true rfl) (Nat.le_of_ble_eq_true rfl) (Nat.le_of_ble_eq_true rfl) dX1_orOrXor_20 ?_
      refine W.eq (g2 := F0 m 23 ls [.int (rr_xi x2 x4), .long 0, .ref h0]) rfl ?_
      refine rr_ri (va_runS (As := [.int (rr_xi x2 x4)]) (rest := [.long 0, .ref h0]) ⟨hx, hb, hml, hown, hts⟩ (c_X1_onesNotBelow l s.heap.size (rr_xi x2 x4)) (va_cwS 1 hts gX1_orOrXor_X1_onesNotBelow rfl rfl rfl (by decide +kernel) ⟨Nat.le_of_ble_eq_true rfl, Nat.le_of_ble_eq_true rfl⟩) rr_v0 rfl rfl hl.1 rfl (lv_room (Nat.le_of_ble_eq_true rfl)) dX1_orOrXor_23 ⟨Nat.le_of_ble_eq_true rfl, Nat.le_of_ble_eq_true rfl⟩) hS hA hP (fun r23 H locs e23 hP hS => ?_)
      subst e23
      refine lv_i2l (v := (nI (rr_on (rr_xi x2 x4) 31 0)).toInt64) hx hb dX1_orOrXor_26 rfl ?_
      refine W.eq (congrArg (fun z => F0 m 27 ls (.long z :: [.long 0, .ref h0])) (nI_l (rr_on_b _))) ?_
      refine rr_wv (wr := []) [0, 1, 2] [] (va_runV (As := [.long 0, .long (lN (rr_on (rr_xi x2 x4) 31 0))]) (rest := []) ⟨hx, hb, hml, hown, hts⟩ (c_X1_tell l D h0 qT qS H.size cA f n t lo hi a b 0 (lN (rr_on (rr_xi x2 x4) 31 0)) hn) (cwV 2 hts gX1_orOrXor_X1_tell rfl rfl rfl (by decide +kernel) ⟨Nat.le_of_ble_eq_true rfl, Nat.le_of_ble_eq_true rfl⟩) (rr_vW hK hP hD (va_recv hK hP (ci := 1) (q0 := 0) rfl rfl)) rfl rfl hl.1 rfl (lv_room (Nat.le_of_ble_eq_true rfl)) dX1_orOrXor_27 ⟨Nat.le_of_ble_eq_true rfl, Nat.le_of_ble_eq_true rfl⟩) hS hA hP hD rfl rfl (by decide) (by decide) (by decide) (fun _ => by simp only [rr_wx, rr_wm, List.map_cons, List.map_nil]) (fun u27 H locs e27 hP hD hS => ?_)
      have hP : va_P D vwCl [(h0, .inr (1, [.ref qT, .int (nI n), .int (nI t), .int ((rr_tl f n 0 (lN (rr_on (rr_xi x2 x4) 31 0))).1), .int ((rr_tl f n 0 (lN (rr_on (rr_xi x2 x4) 31 0))).2), .ref qS])), (qT, .inl (cA, 187, .inl f)), (qS, .inr (0, [.long a, .long b]))] H := hP
      have hD : va_D A [(h0, .inr (1, [.ref qT, .int (nI n), .int (nI t), .int ((rr_tl f n 0 (lN (rr_on (rr_xi x2 x4) 31 0))).1), .int ((rr_tl f n 0 (lN (rr_on (rr_xi x2 x4) 31 0))).2), .ref qS])), (qT, .inl (cA, 187, .inl f)), (qS, .inr (0, [.long a, .long b]))] := hD
      have ee : (rr_o6 x1 x2 x3 x4) = (0, lN (rr_on (rr_xi x2 x4) 31 0)) := if_neg (fun z => by rcases z with z | z; exact c1 z; exact absurd z (Int32.not_lt.mpr c5))
      have ef := congrArg (fun z : Int64 × Int64 => rr_tl f n z.1 z.2) ee
      try dsimp only at ef
      exact W.vret hx hb hr (fun tt ht hW => ⟨⟨(), rfl, trivial, by dsimp only; rw [ht, ef]; exact hP⟩, hS.F ht⟩) hS.2.2 dX1_orOrXor_30
    · skip
      refine lv_aload_n hx hb dX1_orOrXor_8 rfl (lv_at hl 0 rfl) ?_
      refine rr_wv (wr := []) [0, 1, 2] [] (va_runV (As := []) (rest := []) ⟨hx, hb, hml, hown, hts⟩ (c_X1_tellAllInts l D h0 qT qS s.heap.size cA f n t lo hi a b) (cwV 0 hts gX1_orOrXor_X1_tellAllInts rfl rfl rfl (by decide +kernel) ⟨Nat.le_of_ble_eq_true rfl, Nat.le_of_ble_eq_true rfl⟩) (rr_vW hK hP hD (va_recv hK hP (ci := 1) (q0 := 0) rfl rfl)) rfl rfl hl.1 rfl (lv_room (Nat.le_of_ble_eq_true rfl)) dX1_orOrXor_9 ⟨Nat.le_of_ble_eq_true rfl, Nat.le_of_ble_eq_true rfl⟩) hS hA hP hD rfl rfl (by decide) (by decide) (by decide) (fun _ => by simp only [rr_wx, rr_wm, List.map_cons, List.map_nil]) (fun u9 H locs e9 hP hD hS => ?_)
      have hP : va_P D vwCl [(h0, .inr (1, [.ref qT, .int (nI n), .int (nI t), .int ((-2147483648)), .int 2147483647, .ref qS])), (qT, .inl (cA, 187, .inl f)), (qS, .inr (0, [.long a, .long b]))] H := hP
      have hD : va_D A [(h0, .inr (1, [.ref qT, .int (nI n), .int (nI t), .int ((-2147483648)), .int 2147483647, .ref qS])), (qT, .inl (cA, 187, .inl f)), (qS, .inr (0, [.long a, .long b]))] := hD
      refine lv_goto (tgt := 30) hx hb dX1_orOrXor_12 (by decide) ?_
      have ee : (rr_o6 x1 x2 x3 x4) = (-2147483648, 2147483647) := if_pos (by first | exact Or.inl c1 | exact Or.inr (Int32.not_le.mp c5))
      have ef : rr_tl f n (rr_o6 x1 x2 x3 x4).1 (rr_o6 x1 x2 x3 x4).2 = (-2147483648, 2147483647) := by rw [ee]; exact rr_tl_all f n
      exact W.vret hx hb hr (fun tt ht hW => ⟨⟨(), rfl, trivial, by dsimp only; rw [ht, ef]; exact hP⟩, hS.F ht⟩) hS.2.2 dX1_orOrXor_30
set_option maxHeartbeats 1000000 in
set_option maxRecDepth 100000 in
/-- shiftLeft(x, y, z, w) -/
theorem c_X1_shiftLeft (l : Launch) (D : va_G) (h0 qT qS sz : Nat) (cA : ClassId) (f : Nat → Int32) (n t : Nat) (lo hi : Int32) (a b : Int64) (x1 x2 x3 x4 : Int32) (hn : n ≤ 187) (hlh : x1 ≤ x2) : Met l yX1_shiftLeft wsX1_shiftLeft ({ frames := 3, cells := 0, slots := 0, locals := 82 }) (rr_pN D (rr_wx h0 qT qS cA f n t lo hi a b) [(cA, .int)] [.ref h0, .int x1, .int x2, .int x3, .int x4] sz) (va_Qv (fun (u : Int64 × Int64) => True) (fun u tt => va_P D vwCl (rr_wx h0 qT qS cA f n t (rr_tl f n (rr_o8 x1 x2 x3 x4).1 (rr_o8 x1 x2 x3 x4).2).1 (rr_tl f n (rr_o8 x1 x2 x3 x4).1 (rr_o8 x1 x2 x3 x4).2).2 u.1 u.2) tt.heap) (va_A (rr_wx h0 qT qS cA f n t lo hi a b) sz)) 0 0 (va_A (rr_wx h0 qT qS cA f n t lo hi a b) sz) := by
  refine Met.ofW (cc := cX1_shiftLeft) (maxL := 7) (ret := none) (by decide) rfl ?_
  intro p e s m args below meth c s₁ B hml hv
  obtain ⟨rfl, hsz, hP, hK, hD0, hN⟩ := hv
  have hx := B.exec
  have hb := B.bytes
  have hr := B.returns
  have hts := atoms_spec (ws := wsX1_shiftLeft) B.pre
  have hown : s.vm.findClass RX1 = some m.cls := findClass_of_methodNamed B.named
  have hlocks := B.notSynchronized
  subst hsz
  have hD := hD0.self (sz := s.heap.size)
  generalize hAe : va_A [(h0, .inr (1, [.ref qT, .int (nI n), .int (nI t), .int lo, .int hi, .ref qS])), (qT, .inl (cA, 187, .inl f)), (qS, .inr (0, [.long a, .long b]))] s.heap.size = A at hD ⊢
  have hA : ∀ q : Nat, s.heap.size ≤ q → A q := fun q h => by rw [← hAe]; exact Or.inr h
  have hS : va_S A s.heap s.heap [] := va_S.rf
  have hP : va_P D vwCl [(h0, .inr (1, [.ref qT, .int (nI n), .int (nI t), .int lo, .int hi, .ref qS])), (qT, .inl (cA, 187, .inl f)), (qS, .inr (0, [.long a, .long b]))] s.heap := hP
  have hiX1 : ∀ w ∈ wsX10, w ∈ wsX1_shiftLeft := by decide +kernel
  have hl := lv_entry ([.ref h0, .int x1, .int x2, .int x3, .int x4]) (n := 7) (Nat.le_of_ble_eq_true rfl)
  rw [lg_entry_eq]
  generalize (lg_sl ([.ref h0, .int x1, .int x2, .int x3, .int x4]) ++ List.replicate (7 - (lg_sl ([.ref h0, .int x1, .int x2, .int x3, .int x4])).length) Slot.unset).toArray = ls at hl ⊢
  have hl : lv_has ls 7 [(0, .ref h0), (1, .int x1), (2, .int x2), (3, .int x3), (4, .int x4)] := hl
  refine lv_iload_n hx hb dX1_shiftLeft_0 rfl (lv_at hl 3 rfl) ?_
  refine lv_iload hx hb dX1_shiftLeft_1 (lv_at hl 4 rfl) ?_
  refine lv_icmp_ne (tgt := 29) hx hb dX1_shiftLeft_3 (by decide) (fun c3 => ?_) (fun c3 => ?_)
  · skip
    refine lv_aload_n hx hb dX1_shiftLeft_29 rfl (lv_at hl 0 rfl) ?_
    refine rr_wv (wr := []) [0, 1, 2] [] (va_runV (As := []) (rest := []) ⟨hx, hb, hml, hown, hts⟩ (c_X1_tellAllInts l D h0 qT qS s.heap.size cA f n t lo hi a b) (cwV 0 hts gX1_shiftLeft_X1_tellAllInts rfl rfl rfl (by decide +kernel) ⟨Nat.le_of_ble_eq_true rfl, Nat.le_of_ble_eq_true rfl⟩) (rr_vW hK hP hD (va_recv hK hP (ci := 1) (q0 := 0) rfl rfl)) rfl rfl hl.1 rfl (lv_room (Nat.le_of_ble_eq_true rfl)) dX1_shiftLeft_30 ⟨Nat.le_of_ble_eq_true rfl, Nat.le_of_ble_eq_true rfl⟩) hS hA hP hD rfl rfl (by decide) (by decide) (by decide) (fun _ => by simp only [rr_wx, rr_wm, List.map_cons, List.map_nil]) (fun u30 H locs e30 hP hD hS => ?_)
    have hP : va_P D vwCl [(h0, .inr (1, [.ref qT, .int (nI n), .int (nI t), .int ((-2147483648)), .int 2147483647, .ref qS])), (qT, .inl (cA, 187, .inl f)), (qS, .inr (0, [.long a, .long b]))] H := hP
    have hD : va_D A [(h0, .inr (1, [.ref qT, .int (nI n), .int (nI t), .int ((-2147483648)), .int 2147483647, .ref qS])), (qT, .inl (cA, 187, .inl f)), (qS, .inr (0, [.long a, .long b]))] := hD
    have ee : (rr_o8 x1 x2 x3 x4) = (-2147483648, 2147483647) := if_neg c3
    have ef : rr_tl f n (rr_o8 x1 x2 x3 x4).1 (rr_o8 x1 x2 x3 x4).2 = (-2147483648, 2147483647) := by rw [ee]; exact rr_tl_all f n
    exact W.vret hx hb hr (fun tt ht hW => ⟨⟨(_, _), rfl, trivial, by dsimp only; rw [ht, ef]; exact hP⟩, hS.F ht⟩) hS.2.2 dX1_shiftLeft_33
  · skip
    refine lv_lconst (v := 1) hx hb dX1_shiftLeft_6 (by decide) ?_
    refine lv_iload_n hx hb dX1_shiftLeft_7 rfl (lv_at hl 3 rfl) ?_
    refine lv_bipush (v := 31) hx hb dX1_shiftLeft_8 (by decide) ?_
    refine lv_iand hx hb dX1_shiftLeft_10 ?_
    refine lv_lshl (v := (1 : Int64) <<< ((x3 &&& 31).toInt64 &&& 63)) hx hb dX1_shiftLeft_11 rfl ?_
    refine lv_lstore (lv' := [(5, .long ((1 : Int64) <<< ((x3 &&& 31).toInt64 &&& 63))), (0, .ref h0), (1, .int x1), (2, .int x2), (3, .int x3), (4, .int x4)]) hx hb dX1_shiftLeft_12 hl (by decide) rfl (fun ls hl => ?_)
    refine lv_aload_n hx hb dX1_shiftLeft_14 rfl (lv_at hl 1 rfl) ?_
    refine lv_iload_n hx hb dX1_shiftLeft_15 rfl (lv_at hl 2 rfl) ?_
    refine lv_i2l (v := x1.toInt64) hx hb dX1_shiftLeft_16 rfl ?_
    refine lv_iload_n hx hb dX1_shiftLeft_17 rfl (lv_at hl 3 rfl) ?_
    refine lv_i2l (v := x2.toInt64) hx hb dX1_shiftLeft_18 rfl ?_
    refine lv_lload hx hb dX1_shiftLeft_19 (lv_at hl 0 rfl) ?_
    refine lv_lload hx hb dX1_shiftLeft_21 (lv_at hl 0 rfl) ?_
    refine rr_wv (wr := []) [0, 1, 2] [] (va_runV (As := [.long x1.toInt64, .long x2.toInt64, .long ((1 : Int64) <<< ((x3 &&& 31).toInt64 &&& 63)), .long ((1 : Int64) <<< ((x3 &&& 31).toInt64 &&& 63))]) (rest := []) ⟨hx, hb, hml, hown, hts⟩ (c_X1_multiply l D h0 qT qS s.heap.size cA f n t lo hi a b x1.toInt64 x2.toInt64 ((1 : Int64) <<< ((x3 &&& 31).toInt64 &&& 63)) ((1 : Int64) <<< ((x3 &&& 31).toInt64 &&& 63)) hn) (cwV 4 hts gX1_shiftLeft_X1_multiply rfl rfl rfl (by decide +kernel) ⟨Nat.le_of_ble_eq_true rfl, Nat.le_of_ble_eq_true rfl⟩) (rr_vN hN hK hP hD (va_recv hK hP (ci := 1) (q0 := 0) rfl rfl)) rfl rfl hl.1 rfl (lv_room (Nat.le_of_ble_eq_true rfl)) dX1_shiftLeft_23 ⟨Nat.le_of_ble_eq_true rfl, Nat.le_of_ble_eq_true rfl⟩) hS hA hP hD rfl rfl (by decide) (by decide) (by decide) (fun _ => by simp only [rr_wx, rr_wm, List.map_cons, List.map_nil]) (fun u23 H locs e23 hP hD hS => ?_)
    have hP : va_P D vwCl [(h0, .inr (1, [.ref qT, .int (nI n), .int (nI t), .int ((rr_tl f n (rr_o2 x1.toInt64 x2.toInt64 ((1 : Int64) <<< ((x3 &&& 31).toInt64 &&& 63)) ((1 : Int64) <<< ((x3 &&& 31).toInt64 &&& 63))).1 (rr_o2 x1.toInt64 x2.toInt64 ((1 : Int64) <<< ((x3 &&& 31).toInt64 &&& 63)) ((1 : Int64) <<< ((x3 &&& 31).toInt64 &&& 63))).2).1), .int ((rr_tl f n (rr_o2 x1.toInt64 x2.toInt64 ((1 : Int64) <<< ((x3 &&& 31).toInt64 &&& 63)) ((1 : Int64) <<< ((x3 &&& 31).toInt64 &&& 63))).1 (rr_o2 x1.toInt64 x2.toInt64 ((1 : Int64) <<< ((x3 &&& 31).toInt64 &&& 63)) ((1 : Int64) <<< ((x3 &&& 31).toInt64 &&& 63))).2).2), .ref qS])), (qT, .inl (cA, 187, .inl f)), (qS, .inr (0, [.long u23.1, .long u23.2]))] H := hP
    have hD : va_D A [(h0, .inr (1, [.ref qT, .int (nI n), .int (nI t), .int ((rr_tl f n (rr_o2 x1.toInt64 x2.toInt64 ((1 : Int64) <<< ((x3 &&& 31).toInt64 &&& 63)) ((1 : Int64) <<< ((x3 &&& 31).toInt64 &&& 63))).1 (rr_o2 x1.toInt64 x2.toInt64 ((1 : Int64) <<< ((x3 &&& 31).toInt64 &&& 63)) ((1 : Int64) <<< ((x3 &&& 31).toInt64 &&& 63))).2).1), .int ((rr_tl f n (rr_o2 x1.toInt64 x2.toInt64 ((1 : Int64) <<< ((x3 &&& 31).toInt64 &&& 63)) ((1 : Int64) <<< ((x3 &&& 31).toInt64 &&& 63))).1 (rr_o2 x1.toInt64 x2.toInt64 ((1 : Int64) <<< ((x3 &&& 31).toInt64 &&& 63)) ((1 : Int64) <<< ((x3 &&& 31).toInt64 &&& 63))).2).2), .ref qS])), (qT, .inl (cA, 187, .inl f)), (qS, .inr (0, [.long u23.1, .long u23.2]))] := hD
    refine lv_goto (tgt := 33) hx hb dX1_shiftLeft_26 (by decide) ?_
    have ee : (rr_o8 x1 x2 x3 x4) = rr_o2 x1.toInt64 x2.toInt64 (rr_by x3) (rr_by x3) := (if_pos c3).trans (rr_o8x hlh).symm
    have ef := congrArg (fun z : Int64 × Int64 => rr_tl f n z.1 z.2) ee
    try dsimp only at ef
    exact W.vret hx hb hr (fun tt ht hW => ⟨⟨(_, _), rfl, trivial, by dsimp only; rw [ht, ef]; exact hP⟩, hS.F ht⟩) hS.2.2 dX1_shiftLeft_33
set_option maxHeartbeats 1000000 in
set_option maxRecDepth 100000 in
/-- shiftRight(x, y, z, w) -/
theorem c_X1_shiftRight (l : Launch) (D : va_G) (h0 qT qS sz : Nat) (cA : ClassId) (f : Nat → Int32) (n t : Nat) (lo hi : Int32) (a b : Int64) (x1 x2 x3 x4 : Int32) (hn : n ≤ 187) : Met l yX1_shiftRight wsX1_shiftRight ({ frames := 2, cells := 0, slots := 0, locals := 54 }) (rr_pW D (rr_wx h0 qT qS cA f n t lo hi a b) [(cA, .int)] [.ref h0, .int x1, .int x2, .int x3, .int x4] sz) (va_Qv (fun (_ : Unit) => True) (fun _ tt => va_P D vwCl (rr_wx h0 qT qS cA f n t (rr_tl f n (rr_o9 x1 x2 x3 x4).1 (rr_o9 x1 x2 x3 x4).2).1 (rr_tl f n (rr_o9 x1 x2 x3 x4).1 (rr_o9 x1 x2 x3 x4).2).2 a b) tt.heap) (va_A (rr_wx h0 qT qS cA f n t lo hi a b) sz)) 0 0 (va_A (rr_wx h0 qT qS cA f n t lo hi a b) sz) := by
  refine Met.ofW (cc := cX1_shiftRight) (maxL := 5) (ret := none) (by decide) rfl ?_
  intro p e s m args below meth c s₁ B hml hv
  obtain ⟨rfl, hsz, hP, hK, hD0⟩ := hv
  have hx := B.exec
  have hb := B.bytes
  have hr := B.returns
  have hts := atoms_spec (ws := wsX1_shiftRight) B.pre
  have hown : s.vm.findClass RX1 = some m.cls := findClass_of_methodNamed B.named
  have hlocks := B.notSynchronized
  subst hsz
  have hD := hD0.self (sz := s.heap.size)
  generalize hAe : va_A [(h0, .inr (1, [.ref qT, .int (nI n), .int (nI t), .int lo, .int hi, .ref qS])), (qT, .inl (cA, 187, .inl f)), (qS, .inr (0, [.long a, .long b]))] s.heap.size = A at hD ⊢
  have hA : ∀ q : Nat, s.heap.size ≤ q → A q := fun q h => by rw [← hAe]; exact Or.inr h
  have hS : va_S A s.heap s.heap [] := va_S.rf
  have hP : va_P D vwCl [(h0, .inr (1, [.ref qT, .int (nI n), .int (nI t), .int lo, .int hi, .ref qS])), (qT, .inl (cA, 187, .inl f)), (qS, .inr (0, [.long a, .long b]))] s.heap := hP
  have hiX1 : ∀ w ∈ wsX10, w ∈ wsX1_shiftRight := by decide +kernel
  have hl := lv_entry ([.ref h0, .int x1, .int x2, .int x3, .int x4]) (n := 5) (Nat.le_of_ble_eq_true rfl)
  rw [lg_entry_eq]
  generalize (lg_sl ([.ref h0, .int x1, .int x2, .int x3, .int x4]) ++ List.replicate (5 - (lg_sl ([.ref h0, .int x1, .int x2, .int x3, .int x4])).length) Slot.unset).toArray = ls at hl ⊢
  have hl : lv_has ls 5 [(0, .ref h0), (1, .int x1), (2, .int x2), (3, .int x3), (4, .int x4)] := hl
  refine lv_iload_n hx hb dX1_shiftRight_0 rfl (lv_at hl 3 rfl) ?_
  refine lv_iload hx hb dX1_shiftRight_1 (lv_at hl 4 rfl) ?_
  refine lv_icmp_ne (tgt := 27) hx hb dX1_shiftRight_3 (by decide) (fun c3 => ?_) (fun c3 => ?_)
  · skip
    refine lv_aload_n hx hb dX1_shiftRight_27 rfl (lv_at hl 0 rfl) ?_
    refine lv_iload_n hx hb dX1_shiftRight_28 rfl (lv_at hl 1 rfl) ?_
    refine lv_iconst (v := 0) hx hb dX1_shiftRight_29 (by decide) ?_
    refine va_mmin hx hb (hml.trans hl.1.symm) hown (hts (.methodLink RX1 134 Lib.Math.min.name) (by decide +kernel)) (hts (.static Lib.Math.min.name) (by decide +kernel)) (hts (.initialized "java/lang/Math") (by decide +kernel)) (hts (.code Lib.Math.min.name Lib.Math.min.code 2 (some .int)) (by decide +kernel)) (Nat.le_of_ble_eq_true rfl) (Nat.le_of_ble_eq_true rfl) (Nat.le_of_ble_eq_true rfl) (Nat.le_of_ble_eq_true rfl) dX1_shiftRight_30 ?_
    refine W.eq (g2 := F0 m 33 ls [.int (rr_ni x1 0), .ref h0]) rfl ?_
    refine lv_i2l (v := (rr_ni x1 0).toInt64) hx hb dX1_shiftRight_33 rfl ?_
    refine lv_iload_n hx hb dX1_shiftRight_34 rfl (lv_at hl 2 rfl) ?_
    refine lv_iconst (v := (-1)) hx hb dX1_shiftRight_35 (by decide) ?_
    refine va_mmax hx hb (hml.trans hl.1.symm) hown (hts (.methodLink RX1 137 Lib.Math.max.name) (by decide +kernel)) (hts (.static Lib.Math.max.name) (by decide +kernel)) (hts (.initialized "java/lang/Math") (by decide +kernel)) (hts (.code Lib.Math.max.name Lib.Math.max.code 2 (some .int)) (by decide +kernel)) (Nat.le_of_ble_eq_true rfl) (Nat.le_of_ble_eq_true rfl) (Nat.le_of_ble_eq_true rfl) (Nat.le_of_ble_eq_true rfl) dX1_shiftRight_36 ?_
    refine W.eq (g2 := F0 m 39 ls [.int (rr_xi x2 (-1)), .long ((rr_ni x1 0).toInt64), .ref h0]) rfl ?_
    refine lv_i2l (v := (rr_xi x2 (-1)).toInt64) hx hb dX1_shiftRight_39 rfl ?_
    refine rr_wv (wr := []) [0, 1, 2] [] (va_runV (As := [.long ((rr_ni x1 0).toInt64), .long ((rr_xi x2 (-1)).toInt64)]) (rest := []) ⟨hx, hb, hml, hown, hts⟩ (c_X1_tell l D h0 qT qS s.heap.size cA f n t lo hi a b ((rr_ni x1 0).toInt64) ((rr_xi x2 (-1)).toInt64) hn) (cwV 2 hts gX1_shiftRight_X1_tell rfl rfl rfl (by decide +kernel) ⟨Nat.le_of_ble_eq_true rfl, Nat.le_of_ble_eq_true rfl⟩) (rr_vW hK hP hD (va_recv hK hP (ci := 1) (q0 := 0) rfl rfl)) rfl rfl hl.1 rfl (lv_room (Nat.le_of_ble_eq_true rfl)) dX1_shiftRight_40 ⟨Nat.le_of_ble_eq_true rfl, Nat.le_of_ble_eq_true rfl⟩) hS hA hP hD rfl rfl (by decide) (by decide) (by decide) (fun _ => by simp only [rr_wx, rr_wm, List.map_cons, List.map_nil]) (fun u40 H locs e40 hP hD hS => ?_)
    have hP : va_P D vwCl [(h0, .inr (1, [.ref qT, .int (nI n), .int (nI t), .int ((rr_tl f n ((rr_ni x1 0).toInt64) ((rr_xi x2 (-1)).toInt64)).1), .int ((rr_tl f n ((rr_ni x1 0).toInt64) ((rr_xi x2 (-1)).toInt64)).2), .ref qS])), (qT, .inl (cA, 187, .inl f)), (qS, .inr (0, [.long a, .long b]))] H := hP
    have hD : va_D A [(h0, .inr (1, [.ref qT, .int (nI n), .int (nI t), .int ((rr_tl f n ((rr_ni x1 0).toInt64) ((rr_xi x2 (-1)).toInt64)).1), .int ((rr_tl f n ((rr_ni x1 0).toInt64) ((rr_xi x2 (-1)).toInt64)).2), .ref qS])), (qT, .inl (cA, 187, .inl f)), (qS, .inr (0, [.long a, .long b]))] := hD
    have ee : (rr_o9 x1 x2 x3 x4) = ((rr_ni x1 0).toInt64, (rr_xi x2 (-1)).toInt64) := if_neg c3
    have ef := congrArg (fun z : Int64 × Int64 => rr_tl f n z.1 z.2) ee
    try dsimp only at ef
    exact W.vret hx hb hr (fun tt ht hW => ⟨⟨(), rfl, trivial, by dsimp only; rw [ht, ef]; exact hP⟩, hS.F ht⟩) hS.2.2 dX1_shiftRight_43
  · skip
    refine lv_aload_n hx hb dX1_shiftRight_6 rfl (lv_at hl 0 rfl) ?_
    refine lv_iload_n hx hb dX1_shiftRight_7 rfl (lv_at hl 1 rfl) ?_
    refine lv_iload_n hx hb dX1_shiftRight_8 rfl (lv_at hl 3 rfl) ?_
    refine lv_bipush (v := 31) hx hb dX1_shiftRight_9 (by decide) ?_
    refine lv_iand hx hb dX1_shiftRight_11 ?_
    refine lv_ishr hx hb dX1_shiftRight_12 ?_
    refine lv_i2l (v := (x1 >>> ((x3 &&& 31) &&& 31)).toInt64) hx hb dX1_shiftRight_13 rfl ?_
    refine lv_iload_n hx hb dX1_shiftRight_14 rfl (lv_at hl 2 rfl) ?_
    refine lv_iload_n hx hb dX1_shiftRight_15 rfl (lv_at hl 3 rfl) ?_
    refine lv_bipush (v := 31) hx hb dX1_shiftRight_16 (by decide) ?_
    refine lv_iand hx hb dX1_shiftRight_18 ?_
    refine lv_ishr hx hb dX1_shiftRight_19 ?_
    refine lv_i2l (v := (x2 >>> ((x3 &&& 31) &&& 31)).toInt64) hx hb dX1_shiftRight_20 rfl ?_
    refine rr_wv (wr := []) [0, 1, 2] [] (va_runV (As := [.long ((x1 >>> ((x3 &&& 31) &&& 31)).toInt64), .long ((x2 >>> ((x3 &&& 31) &&& 31)).toInt64)]) (rest := []) ⟨hx, hb, hml, hown, hts⟩ (c_X1_tell l D h0 qT qS s.heap.size cA f n t lo hi a b ((x1 >>> ((x3 &&& 31) &&& 31)).toInt64) ((x2 >>> ((x3 &&& 31) &&& 31)).toInt64) hn) (cwV 2 hts gX1_shiftRight_X1_tell rfl rfl rfl (by decide +kernel) ⟨Nat.le_of_ble_eq_true rfl, Nat.le_of_ble_eq_true rfl⟩) (rr_vW hK hP hD (va_recv hK hP (ci := 1) (q0 := 0) rfl rfl)) rfl rfl hl.1 rfl (lv_room (Nat.le_of_ble_eq_true rfl)) dX1_shiftRight_21 ⟨Nat.le_of_ble_eq_true rfl, Nat.le_of_ble_eq_true rfl⟩) hS hA hP hD rfl rfl (by decide) (by decide) (by decide) (fun _ => by simp only [rr_wx, rr_wm, List.map_cons, List.map_nil]) (fun u21 H locs e21 hP hD hS => ?_)
    have hP : va_P D vwCl [(h0, .inr (1, [.ref qT, .int (nI n), .int (nI t), .int ((rr_tl f n ((x1 >>> ((x3 &&& 31) &&& 31)).toInt64) ((x2 >>> ((x3 &&& 31) &&& 31)).toInt64)).1), .int ((rr_tl f n ((x1 >>> ((x3 &&& 31) &&& 31)).toInt64) ((x2 >>> ((x3 &&& 31) &&& 31)).toInt64)).2), .ref qS])), (qT, .inl (cA, 187, .inl f)), (qS, .inr (0, [.long a, .long b]))] H := hP
    have hD : va_D A [(h0, .inr (1, [.ref qT, .int (nI n), .int (nI t), .int ((rr_tl f n ((x1 >>> ((x3 &&& 31) &&& 31)).toInt64) ((x2 >>> ((x3 &&& 31) &&& 31)).toInt64)).1), .int ((rr_tl f n ((x1 >>> ((x3 &&& 31) &&& 31)).toInt64) ((x2 >>> ((x3 &&& 31) &&& 31)).toInt64)).2), .ref qS])), (qT, .inl (cA, 187, .inl f)), (qS, .inr (0, [.long a, .long b]))] := hD
    refine lv_goto (tgt := 43) hx hb dX1_shiftRight_24 (by decide) ?_
    have ee : (rr_o9 x1 x2 x3 x4) = ((x1 >>> ((x3 &&& 31) &&& 31)).toInt64, (x2 >>> ((x3 &&& 31) &&& 31)).toInt64) := if_pos c3
    have ef := congrArg (fun z : Int64 × Int64 => rr_tl f n z.1 z.2) ee
    try dsimp only at ef
    exact W.vret hx hb hr (fun tt ht hW => ⟨⟨(), rfl, trivial, by dsimp only; rw [ht, ef]; exact hP⟩, hS.F ht⟩) hS.2.2 dX1_shiftRight_43
set_option maxHeartbeats 1000000 in
set_option maxRecDepth 100000 in
/-- negate(x, y) -/
theorem c_X1_negate (l : Launch) (D : va_G) (h0 qT qS sz : Nat) (cA : ClassId) (f : Nat → Int32) (n t : Nat) (lo hi : Int32) (a b : Int64) (x1 x2 : Int32) (hn : n ≤ 187) (hk : rr_ok f n) : Met l yX1_negate wsX1_negate ({ frames := 3, cells := 0, slots := 0, locals := 73 }) (rr_pW D (rr_wx h0 qT qS cA f n t lo hi a b) [(cA, .int)] [.ref h0, .int x1, .int x2] sz) (va_Qi (fun r (_ : Unit) => r = (rr_ng f n lo hi x1 x2).1) (fun _ tt => va_P D vwCl (rr_wx h0 qT qS cA f n t (rr_ng f n lo hi x1 x2).2.1 (rr_ng f n lo hi x1 x2).2.2 a b) tt.heap) (va_A (rr_wx h0 qT qS cA f n t lo hi a b) sz)) 0 0 (va_A (rr_wx h0 qT qS cA f n t lo hi a b) sz) := by
  refine Met.ofW (cc := cX1_negate) (maxL := 3) (ret := (some .boolean)) (by decide) rfl ?_
  intro p e s m args below meth c s₁ B hml hv
  obtain ⟨rfl, hsz, hP, hK, hD0⟩ := hv
  have hx := B.exec
  have hb := B.bytes
  have hr := B.returns
  have hts := atoms_spec (ws := wsX1_negate) B.pre
  have hown : s.vm.findClass RX1 = some m.cls := findClass_of_methodNamed B.named
  have hlocks := B.notSynchronized
  subst hsz
  have hD := hD0.self (sz := s.heap.size)
  generalize hAe : va_A [(h0, .inr (1, [.ref qT, .int (nI n), .int (nI t), .int lo, .int hi, .ref qS])), (qT, .inl (cA, 187, .inl f)), (qS, .inr (0, [.long a, .long b]))] s.heap.size = A at hD ⊢
  have hA : ∀ q : Nat, s.heap.size ≤ q → A q := fun q h => by rw [← hAe]; exact Or.inr h
  have hS : va_S A s.heap s.heap [] := va_S.rf
  have hP : va_P D vwCl [(h0, .inr (1, [.ref qT, .int (nI n), .int (nI t), .int lo, .int hi, .ref qS])), (qT, .inl (cA, 187, .inl f)), (qS, .inr (0, [.long a, .long b]))] s.heap := hP
  have hiX1 : ∀ w ∈ wsX10, w ∈ wsX1_negate := by decide +kernel
  have hl := lv_entry ([.ref h0, .int x1, .int x2]) (n := 3) (Nat.le_of_ble_eq_true rfl)
  rw [lg_entry_eq]
  generalize (lg_sl ([.ref h0, .int x1, .int x2]) ++ List.replicate (3 - (lg_sl ([.ref h0, .int x1, .int x2])).length) Slot.unset).toArray = ls at hl ⊢
  have hl : lv_has ls 3 [(0, .ref h0), (1, .int x1), (2, .int x2)] := hl
  refine lv_aload_n hx hb dX1_negate_0 rfl (lv_at hl 0 rfl) ?_
  refine lv_iload_n hx hb dX1_negate_1 rfl (lv_at hl 1 rfl) ?_
  refine lv_iload_n hx hb dX1_negate_2 rfl (lv_at hl 2 rfl) ?_
  refine rr_ri (va_runV (As := [.int x1, .int x2]) (rest := []) ⟨hx, hb, hml, hown, hts⟩ (c_X1_isRange l D h0 qT qS s.heap.size cA f n t lo hi a b x1 x2 hn hk) (cwV 2 hts gX1_negate_X1_isRange rfl rfl rfl (by decide +kernel) ⟨Nat.le_of_ble_eq_true rfl, Nat.le_of_ble_eq_true rfl⟩) (rr_vR hK hP (va_recv hK hP (ci := 1) (q0 := 0) rfl rfl)) rfl rfl hl.1 rfl (lv_room (Nat.le_of_ble_eq_true rfl)) dX1_negate_3 ⟨Nat.le_of_ble_eq_true rfl, Nat.le_of_ble_eq_true rfl⟩) hS hA hP (fun r3 H locs e3 hP hS => ?_)
  by_cases b3 : rr_rg f n x1 x2 = true
  · rw [if_pos b3] at e3
    subst e3
    refine lv_if_ne (tgt := 11) hx hb dX1_negate_6 (by decide) (fun c6 => ?_) (fun c6 => ?_)
    · skip
      refine lv_aload_n hx hb dX1_negate_11 rfl (lv_at hl 0 rfl) ?_
      refine lv_iload_n hx hb dX1_negate_12 rfl (lv_at hl 2 rfl) ?_
      refine lv_i2l (v := x2.toInt64) hx hb dX1_negate_13 rfl ?_
      refine lv_lneg hx hb dX1_negate_14 ?_
      refine lv_iload_n hx hb dX1_negate_15 rfl (lv_at hl 1 rfl) ?_
      refine lv_i2l (v := x1.toInt64) hx hb dX1_negate_16 rfl ?_
      refine lv_lneg hx hb dX1_negate_17 ?_
      refine rr_wv (wr := []) [0, 1, 2] [] (va_runV (As := [.long (-x2.toInt64), .long (-x1.toInt64)]) (rest := []) ⟨hx, hb, hml, hown, hts⟩ (c_X1_tell l D h0 qT qS H.size cA f n t lo hi a b (-x2.toInt64) (-x1.toInt64) hn) (cwV 2 hts gX1_negate_X1_tell rfl rfl rfl (by decide +kernel) ⟨Nat.le_of_ble_eq_true rfl, Nat.le_of_ble_eq_true rfl⟩) (rr_vW hK hP hD (va_recv hK hP (ci := 1) (q0 := 0) rfl rfl)) rfl rfl hl.1 rfl (lv_room (Nat.le_of_ble_eq_true rfl)) dX1_negate_18 ⟨Nat.le_of_ble_eq_true rfl, Nat.le_of_ble_eq_true rfl⟩) hS hA hP hD rfl rfl (by decide) (by decide) (by decide) (fun _ => by simp only [rr_wx, rr_wm, List.map_cons, List.map_nil]) (fun u18 H locs e18 hP hD hS => ?_)
      have hP : va_P D vwCl [(h0, .inr (1, [.ref qT, .int (nI n), .int (nI t), .int ((rr_tl f n (-x2.toInt64) (-x1.toInt64)).1), .int ((rr_tl f n (-x2.toInt64) (-x1.toInt64)).2), .ref qS])), (qT, .inl (cA, 187, .inl f)), (qS, .inr (0, [.long a, .long b]))] H := hP
      have hD : va_D A [(h0, .inr (1, [.ref qT, .int (nI n), .int (nI t), .int ((rr_tl f n (-x2.toInt64) (-x1.toInt64)).1), .int ((rr_tl f n (-x2.toInt64) (-x1.toInt64)).2), .ref qS])), (qT, .inl (cA, 187, .inl f)), (qS, .inr (0, [.long a, .long b]))] := hD
      refine lv_iconst (v := 1) hx hb dX1_negate_21 (by decide) ?_
      have ee : (rr_ng f n lo hi x1 x2) = (1, rr_tl f n (-x2.toInt64) (-x1.toInt64)) := if_pos b3
      exact W.zret (v := 1) hx hb hr rfl (fun tt ht hW => ⟨⟨_, (), rfl, by rw [ee], by dsimp only; rw [ht, ee]; exact hP⟩, hS.F ht⟩) hS.2.2 dX1_negate_22
    · skip
      exact absurd c6 (by decide)
  · rw [if_neg b3] at e3
    subst e3
    refine lv_if_ne (tgt := 11) hx hb dX1_negate_6 (by decide) (fun c6 => ?_) (fun c6 => ?_)
    · skip
      exact absurd c6 (by decide)
    · skip
      refine lv_iconst (v := 0) hx hb dX1_negate_9 (by decide) ?_
      have ee : (rr_ng f n lo hi x1 x2) = (0, lo, hi) := if_neg b3
      exact W.zret (v := 0) hx hb hr rfl (fun tt ht hW => ⟨⟨_, (), rfl, by rw [ee], by dsimp only; rw [ht, ee]; exact hP⟩, hS.F ht⟩) hS.2.2 dX1_negate_10
