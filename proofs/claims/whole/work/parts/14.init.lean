/-! the static row FIRST, as the start has it -/
def rr_st (t0 : Nat) (A : Nat → Prop) (U : State) : Prop := va_Z "RangeRules" "FIRST" "[I" (.ref t0) A U U.heap ∧ va_X t0 7 rr_first U U.heap ∧ t0 < U.heap.size ∧ ¬ A t0
def rr_pZ (D : va_G) (ws : va_W) (tys : List (ClassId × FieldType)) (t0 : Nat) (av : List Value) (sz : Nat) : Array Value → State → Prop := va_Pc av (fun U => U.heap.size = sz ∧ va_P D vwCl ws U.heap ∧ va_K D vwCl tys U ∧ va_D (fun _ => True) ws ∧ rr_st t0 (va_A ws sz) U)
def rr_pI (D : va_G) (ws : va_W) (tys : List (ClassId × FieldType)) (t0 : Nat) (av : List Value) (sz : Nat) : Array Value → State → Prop := va_Pc av (fun U => U.heap.size = sz ∧ va_P D vwCl ws U.heap ∧ va_K D vwCl tys U ∧ va_D (fun _ => True) ws ∧ rr_st t0 (va_A ws sz) U ∧ va_Nw (.methodLinkNest RX1 37 yX0_init RX1) U)
theorem rr_bZ {D : va_G} {ws : va_W} {tys : List (ClassId × FieldType)} {t0 : Nat} {av : List Value} {sz : Nat} : FrameBlind (rr_pZ D ws tys t0 av sz) := fun a U g mk q => by
  obtain ⟨q0, q1, qP, qK, qD, qZ, qX, qr⟩ := q
  exact ⟨q0, q1, qP, va_K.moved (u := U) (U := U.calling g mk a) (Vm.Alike.refl U.vm) qK, qD, va_Z.moved (u := U) (U := U.calling g mk a) (Vm.Alike.refl U.vm) qZ, va_X.moved (u := U) (U := U.calling g mk a) (Vm.Alike.refl U.vm) qX, qr⟩
theorem rr_bI {D : va_G} {ws : va_W} {tys : List (ClassId × FieldType)} {t0 : Nat} {av : List Value} {sz : Nat} : FrameBlind (rr_pI D ws tys t0 av sz) := fun a U g mk q => by
  obtain ⟨q0, q1, qP, qK, qD, ⟨qZ, qX, qr⟩, qN⟩ := q
  exact ⟨q0, q1, qP, va_K.moved (u := U) (U := U.calling g mk a) (Vm.Alike.refl U.vm) qK, qD, ⟨va_Z.moved (u := U) (U := U.calling g mk a) (Vm.Alike.refl U.vm) qZ, va_X.moved (u := U) (U := U.calling g mk a) (Vm.Alike.refl U.vm) qX, qr⟩, va_Nw.same (u := U) (U := U.calling g mk a) rfl rfl qN⟩
theorem rr_st.at {t0 : Nat} {A B : Nat → Prop} {s U : State} {H : Heap} {locs : List Loc} (h : rr_st t0 A s) (hS : va_S A s.heap H locs) (hB : ∀ q, B q → A q) (hU : U.heap = H) (hW : s.WarmedH U.vm) : rr_st t0 B U := by
  obtain ⟨hZ, hX, hl, hn⟩ := h
  subst hU
  exact ⟨va_Z.moved hW.alike ((hZ.kept (fun a h1 h2 => hS.2.1 a h1 h2)).narrow hB), va_X.moved hW.alike (hX.kept (hS.2.1 t0 hl hn)), Nat.lt_of_lt_of_le hl hS.1, fun z => hn (hB t0 z)⟩
theorem rr_vS {s : State} {H : Heap} {D : va_G} {ws : va_W} {A : Nat → Prop} {tys : List (ClassId × FieldType)} {As : List Value} (hK : va_K D vwCl tys s) (hP : va_P D vwCl ws H) (hD : va_D A ws) : PreS s H (rr_pW D ws tys As H.size) As :=
  ⟨rr_bW, fun U hU hW => ⟨rfl, by rw [hU], by rw [hU]; exact hP, va_K.moved hW.alike hK, hD.weaken (fun _ _ _ _ => trivial)⟩⟩
set_option maxHeartbeats 1000000 in
set_option maxRecDepth 100000 in
/-- Span() -/
theorem c_X0_init (l : Launch) (D : va_G) (h0 sz : Nat) (a b : Int64)   : Met l yX0_init wsX0_init ({ frames := 1, cells := 0, slots := 0, locals := 12 }) (rr_pW D [(h0, .inr (0, [.long a, .long b]))] [] [.ref h0] sz) (va_Qv (fun (_ : Unit) => True) (fun _ tt => va_P D vwCl [(h0, .inr (0, [.long a, .long b]))] tt.heap) (va_A [(h0, .inr (0, [.long a, .long b]))] sz)) 0 0 (va_A [(h0, .inr (0, [.long a, .long b]))] sz) := by
  refine Met.ofW (cc := cX0_init) (maxL := 1) (ret := none) (by decide) rfl ?_
  intro p e s m args below meth c s₁ B hml hv
  obtain ⟨rfl, hsz, hP, hK, hD0⟩ := hv
  have hx := B.exec
  have hb := B.bytes
  have hr := B.returns
  have hts := atoms_spec (ws := wsX0_init) B.pre
  have hown : s.vm.findClass RX0 = some m.cls := findClass_of_methodNamed B.named
  have hlocks := B.notSynchronized
  subst hsz
  have hD := hD0.self (sz := s.heap.size)
  generalize hAe : va_A [(h0, .inr (0, [.long a, .long b]))] s.heap.size = A at hD ⊢
  have hA : ∀ q : Nat, s.heap.size ≤ q → A q := fun q h => by rw [← hAe]; exact Or.inr h
  have hS : va_S A s.heap s.heap [] := va_S.rf
  have hP : va_P D vwCl [(h0, .inr (0, [.long a, .long b]))] s.heap := hP
  have hl := lv_entry ([.ref h0]) (n := 1) (Nat.le_of_ble_eq_true rfl)
  rw [lg_entry_eq]
  generalize (lg_sl ([.ref h0]) ++ List.replicate (1 - (lg_sl ([.ref h0])).length) Slot.unset).toArray = ls at hl ⊢
  have hl : lv_has ls 1 [(0, .ref h0)] := hl
  refine lv_aload_n hx hb dX0_init_0 rfl (lv_at hl 0 rfl) ?_
  refine W.objInit hx hb hown (hts (.methodLink RX0 1 objectInit) (by decide +kernel)) (hts (.instanceMethod objectInit) (by decide +kernel)) (hts (.code objectInit ⟨#[0xb1]⟩ 1 none) (List.mem_cons_of_mem _ (List.mem_of_getElem? (i := 2) rfl))) rfl (by rw [hml]; exact hl.1) rfl dX0_init_1 (Nat.le_of_ble_eq_true rfl) (Nat.le_of_ble_eq_true rfl) ?_
  refine W.eq (g2 := F0 m 4 ls []) rfl ?_
  exact W.vret hx hb hr (fun tt ht hW => ⟨⟨(), rfl, trivial, by dsimp only; rw [ht]; exact hP⟩, hS.F ht⟩) hS.2.2 dX0_init_4
set_option maxHeartbeats 1000000 in
set_option maxRecDepth 100000 in
/-- clear() -/
theorem c_X1_clear (l : Launch) (D : va_G) (h0 qT qS sz : Nat) (cA : ClassId) (f : Nat → Int32) (n t : Nat) (lo hi : Int32) (a b : Int64) (t0 : Nat) : Met l yX1_clear wsX1_clear ({ frames := 0, cells := 0, slots := 0, locals := 0 }) (rr_pZ D (rr_wx h0 qT qS cA f n t lo hi a b) [(cA, .int)] t0 [.ref h0] sz) (va_Qv (fun _ : Unit => True) (fun _ tt => va_P D vwCl (rr_wx h0 qT qS cA f 7 0 lo hi a b) tt.heap) (va_A (rr_wx h0 qT qS cA f n t lo hi a b) sz)) 0 0 (va_A (rr_wx h0 qT qS cA f n t lo hi a b) sz) := by
  refine Met.ofW (cc := cX1_clear) (maxL := 1) (ret := none) (by decide) rfl ?_
  intro p e s m args below meth c s₁ B hml hv
  obtain ⟨rfl, hsz, hP, hK, hD0, hZ0⟩ := hv
  have hx := B.exec
  have hb := B.bytes
  have hr := B.returns
  have hts := atoms_spec (ws := wsX1_clear) B.pre
  have hown : s.vm.findClass RX1 = some m.cls := findClass_of_methodNamed B.named
  have hlocks := B.notSynchronized
  subst hsz
  have hD := hD0.self (sz := s.heap.size)
  generalize hAe : va_A [(h0, .inr (1, [.ref qT, .int (nI n), .int (nI t), .int lo, .int hi, .ref qS])), (qT, .inl (cA, 187, .inl f)), (qS, .inr (0, [.long a, .long b]))] s.heap.size = A at hD hZ0 ⊢
  have hA : ∀ q : Nat, s.heap.size ≤ q → A q := fun q h => by rw [← hAe]; exact Or.inr h
  obtain ⟨hZ, hX, hXl, hXA⟩ := hZ0
  have hS : va_S A s.heap s.heap [] := va_S.rf
  have hP : va_P D vwCl [(h0, .inr (1, [.ref qT, .int (nI n), .int (nI t), .int lo, .int hi, .ref qS])), (qT, .inl (cA, 187, .inl f)), (qS, .inr (0, [.long a, .long b]))] s.heap := hP
  have hiX1 : ∀ w ∈ wsX10, w ∈ wsX1_clear := by decide +kernel
  have hl := lv_entry ([.ref h0]) (n := 1) (Nat.le_of_ble_eq_true rfl)
  rw [lg_entry_eq]
  generalize (lg_sl ([.ref h0]) ++ List.replicate (1 - (lg_sl ([.ref h0])).length) Slot.unset).toArray = ls at hl ⊢
  have hl : lv_has ls 1 [(0, .ref h0)] := hl
  refine lv_aload_n hx hb dX1_clear_0 rfl (lv_at hl 0 rfl) ?_
  refine va_gets hx hb hZ hS hown (hts (.fieldLink RX1 7 "RangeRules" "FIRST" "[I") (by decide +kernel)) (fun _ h9 => h9) dX1_clear_1 ?_
  refine va_slen hx hb hX hXl hXA hS dX1_clear_4 ?_
  refine W.eq (g2 := F0 m 5 ls [.int 7, .ref h0]) rfl ?_
  refine va_put (D := D) (ci := 1) (v := .int 7) (ty := .int) (C := RX1) (T := TX1) (N := 6) hx hb hts hiX1 tyX1 tyX1_ok nmX1 hown hK hP hD hS 0 rfl rfl 1 (by decide) (hts (.fieldLink RX1 22 "RangeRules" "thresholdCount" "I") (by decide +kernel)) (fun _ h9 => h9) rfl (by decide +kernel) rfl rfl (Nat.le_of_ble_eq_true rfl) dX1_clear_5 (fun H locs hP hD hS => ?_)
  have hP : va_P D vwCl [(h0, .inr (1, [.ref qT, .int 7, .int (nI t), .int lo, .int hi, .ref qS])), (qT, .inl (cA, 187, .inl f)), (qS, .inr (0, [.long a, .long b]))] H := hP
  have hD : va_D A [(h0, .inr (1, [.ref qT, .int 7, .int (nI t), .int lo, .int hi, .ref qS])), (qT, .inl (cA, 187, .inl f)), (qS, .inr (0, [.long a, .long b]))] := hD
  refine lv_aload_n hx hb dX1_clear_8 rfl (lv_at hl 0 rfl) ?_
  refine lv_iconst (v := 0) hx hb dX1_clear_9 (by decide) ?_
  refine va_put (D := D) (ci := 1) (v := .int 0) (ty := .int) (C := RX1) (T := TX1) (N := 6) hx hb hts hiX1 tyX1 tyX1_ok nmX1 hown hK hP hD hS 0 rfl rfl 2 (by decide) (hts (.fieldLink RX1 26 "RangeRules" "aroundCount" "I") (by decide +kernel)) (fun _ h9 => h9) rfl (by decide +kernel) rfl rfl (Nat.le_of_ble_eq_true rfl) dX1_clear_10 (fun H locs hP hD hS => ?_)
  have hP : va_P D vwCl [(h0, .inr (1, [.ref qT, .int 7, .int 0, .int lo, .int hi, .ref qS])), (qT, .inl (cA, 187, .inl f)), (qS, .inr (0, [.long a, .long b]))] H := hP
  have hD : va_D A [(h0, .inr (1, [.ref qT, .int 7, .int 0, .int lo, .int hi, .ref qS])), (qT, .inl (cA, 187, .inl f)), (qS, .inr (0, [.long a, .long b]))] := hD
  exact W.vret hx hb hr (fun tt ht hW => ⟨⟨(), rfl, trivial, by dsimp only; rw [ht]; exact hP⟩, hS.F ht⟩) hS.2.2 dX1_clear_13
set_option maxHeartbeats 1000000 in
set_option maxRecDepth 100000 in
/-- RangeRules() -/
theorem c_X1_init (l : Launch) (D : va_G) (h0 sz t0 : Nat) : Met l yX1_init wsX1_init ({ frames := 3, cells := 2, slots := 189, locals := 80 }) (rr_pI D [(h0, .inr (1, [.null, .int 0, .int 0, .int 0, .int 0, .null]))] [] t0 [.ref h0] sz) (va_Qv (fun u : Nat × Nat × ClassId × (Nat → Int32) => ∀ j, j < 7 → u.2.2.2 j = rr_first j) (fun u tt => va_P D vwCl (rr_wx h0 u.1 u.2.1 u.2.2.1 u.2.2.2 7 0 0 0 0 0) tt.heap ∧ va_K D vwCl [(u.2.2.1, .int)] tt ∧ va_D (va_A [(h0, .inr (1, [.null, .int 0, .int 0, .int 0, .int 0, .null]))] sz) (rr_wx h0 u.1 u.2.1 u.2.2.1 u.2.2.2 7 0 0 0 0 0)) (va_A [(h0, .inr (1, [.null, .int 0, .int 0, .int 0, .int 0, .null]))] sz)) 2 189 (va_A [(h0, .inr (1, [.null, .int 0, .int 0, .int 0, .int 0, .null]))] sz) := by
  refine Met.ofW (cc := cX1_init) (maxL := 1) (ret := none) (by decide) rfl ?_
  intro p e s m args below meth c s₁ B hml hv
  obtain ⟨rfl, hsz, hP, hK, hD0, hZ0, hN⟩ := hv
  have hx := B.exec
  have hb := B.bytes
  have hr := B.returns
  have hts := atoms_spec (ws := wsX1_init) B.pre
  have hown : s.vm.findClass RX1 = some m.cls := findClass_of_methodNamed B.named
  have hlocks := B.notSynchronized
  have hin : meth.name = "<init>" := (name_of_methodNamed B.named B.method).1
  subst hsz
  have hD := hD0.self (sz := s.heap.size)
  generalize hAe : va_A [(h0, .inr (1, [.null, .int 0, .int 0, .int 0, .int 0, .null]))] s.heap.size = A at hD hZ0 ⊢
  have hA : ∀ q : Nat, s.heap.size ≤ q → A q := fun q h => by rw [← hAe]; exact Or.inr h
  obtain ⟨hZ, hX, hXl, hXA⟩ := hZ0
  have hS : va_S A s.heap s.heap [] := va_S.rf
  have hP : va_P D vwCl [(h0, .inr (1, [.null, .int 0, .int 0, .int 0, .int 0, .null]))] s.heap := hP
  have hiX1 : ∀ w ∈ wsX10, w ∈ wsX1_init := by decide +kernel
  have hiX0 : ∀ w ∈ wsX00, w ∈ wsX1_init := by decide +kernel
  have hl := lv_entry ([.ref h0]) (n := 1) (Nat.le_of_ble_eq_true rfl)
  rw [lg_entry_eq]
  generalize (lg_sl ([.ref h0]) ++ List.replicate (1 - (lg_sl ([.ref h0])).length) Slot.unset).toArray = ls at hl ⊢
  have hl : lv_has ls 1 [(0, .ref h0)] := hl
  refine lv_aload_n hx hb dX1_init_0 rfl (lv_at hl 0 rfl) ?_
  refine W.objInit hx hb hown (hts (.methodLink RX1 1 objectInit) (by decide +kernel)) (hts (.instanceMethod objectInit) (by decide +kernel)) (hts (.code objectInit ⟨#[0xb1]⟩ 1 none) (List.mem_cons_of_mem _ (List.mem_append_left _ (List.mem_append_left _ (List.mem_of_getElem? (i := 2) rfl))))) rfl (by rw [hml]; exact hl.1) rfl dX1_init_1 (Nat.le_of_ble_eq_true rfl) (Nat.le_of_ble_eq_true rfl) ?_
  refine W.eq (g2 := F0 m 4 ls []) rfl ?_
  refine lv_aload_n hx hb dX1_init_4 rfl (lv_at hl 0 rfl) ?_
  refine va_gets hx hb hZ hS hown (hts (.fieldLink RX1 7 "RangeRules" "FIRST" "[I") (by decide +kernel)) (fun _ h9 => h9) dX1_init_5 ?_
  refine va_slen hx hb hX hXl hXA hS dX1_init_8 ?_
  refine W.eq (g2 := F0 m 9 ls [.int 7, .ref h0]) rfl ?_
  refine lv_sipush (v := 180) hx hb dX1_init_9 (by decide) ?_
  refine lv_iadd hx hb dX1_init_12 ?_
  refine W.eq (congrArg (fun z => F0 m 13 ls (.int z :: [.ref h0])) (show (7 : Int32) + 180 = 187 by decide)) ?_
  refine va_newa (atype := .int) (ty := .int) (n := 187) (N' := 187) (a0 := (187, .inl (fun _ => 0))) hx hb (hts (.arrayClass .int) (by decide +kernel)) rfl hK hP hD hS hA (fun cA => vp_cell_i cA 187 (fun _ => 0)) (by decide) (by decide) (by decide) (Nat.le_of_ble_eq_true rfl) (Nat.le_of_ble_eq_true rfl) dX1_init_13 (fun qT cA H hK hP hD hS => ?_)
  have hP : va_P D vwCl [(h0, .inr (1, [.null, .int 0, .int 0, .int 0, .int 0, .null])), (qT, .inl (cA, 187, .inl (fun _ => 0)))] H := hP
  have hD : va_D A [(h0, .inr (1, [.null, .int 0, .int 0, .int 0, .int 0, .null])), (qT, .inl (cA, 187, .inl (fun _ => 0)))] := hD
  have hK : va_K D vwCl [(cA, .int)] s := hK
  refine W.widen (k := 1) (n := 187) (by omega) (by omega) ?_
  refine va_putF (D := D) (ci := 1) (v := .ref qT) (ty := .array .int) (C := RX1) (T := TX1) (N := 6) hx hb hts hiX1 tyX1 tyX1_ok nmX1 hown hK hP hD hS 0 rfl rfl 0 (by decide) (hts (.fieldLink RX1 13 "RangeRules" "thresholds" "[I") (by decide +kernel)) (fun _ h9 => h9) rfl hin rfl (by decide +kernel) rfl rfl (Nat.le_of_ble_eq_true rfl) dX1_init_15 (fun H locs hP hD hS => ?_)
  have hP : va_P D vwCl [(h0, .inr (1, [.ref qT, .int 0, .int 0, .int 0, .int 0, .null])), (qT, .inl (cA, 187, .inl (fun _ => 0)))] H := hP
  have hD : va_D A [(h0, .inr (1, [.ref qT, .int 0, .int 0, .int 0, .int 0, .null])), (qT, .inl (cA, 187, .inl (fun _ => 0)))] := hD
  refine va_gets hx hb hZ hS hown (hts (.fieldLink RX1 7 "RangeRules" "FIRST" "[I") (by decide +kernel)) (fun _ h9 => h9) dX1_init_18 ?_
  refine lv_iconst (v := 0) hx hb dX1_init_21 (by decide) ?_
  refine lv_aload_n hx hb dX1_init_22 rfl (lv_at hl 0 rfl) ?_
  refine va_get (D := D) (ci := 1) (v := .ref qT) (C := RX1) (T := TX1) (N := 6) hx hb hts hiX1 hown hK hP 0 rfl rfl 0 (by decide) (hts (.fieldLink RX1 13 "RangeRules" "thresholds" "[I") (by decide +kernel)) (fun _ h9 => h9) rfl dX1_init_23 ?_
  refine lv_iconst (v := 0) hx hb dX1_init_26 (by decide) ?_
  refine va_gets hx hb hZ hS hown (hts (.fieldLink RX1 7 "RangeRules" "FIRST" "[I") (by decide +kernel)) (fun _ h9 => h9) dX1_init_27 ?_
  refine va_slen hx hb hX hXl hXA hS dX1_init_30 ?_
  refine W.eq (g2 := F0 m 31 ls [.int 7, .int 0, .ref qT, .int 0, .ref t0]) rfl ?_
  refine va_copyx hx hb (hml.trans hl.1.symm) hown (hts (.methodLink RX1 16 arraycopyName) (by decide +kernel)) (hts (.native arraycopyName) (by decide +kernel)) (hts (.static arraycopyName) (by decide +kernel)) (hts (.initialized "java/lang/System") (by decide +kernel)) hK hP hD hS hX hXl hXA 1 0 rfl rfl (by decide) (by decide) (by decide) (by decide) (by decide) (Nat.le_of_ble_eq_true rfl) (Nat.le_of_ble_eq_true rfl) dX1_init_31 (fun H locs hP hD hS => ?_)
  rw [show ((0 : Int32).toNatClampNeg) = 0 by decide, show ((7 : Int32).toNatClampNeg) = 7 by decide] at hP hD
  obtain ⟨f1, hf1⟩ : ∃ g : Nat → Int32, g = va_cpy rr_first (fun _ => 0) 0 0 7 := ⟨_, rfl⟩
  have hP : va_P D vwCl [(h0, .inr (1, [.ref qT, .int 0, .int 0, .int 0, .int 0, .null])), (qT, .inl (cA, 187, .inl (va_cpy rr_first (fun _ => 0) 0 0 7)))] H := hP
  have hD : va_D A [(h0, .inr (1, [.ref qT, .int 0, .int 0, .int 0, .int 0, .null])), (qT, .inl (cA, 187, .inl (va_cpy rr_first (fun _ => 0) 0 0 7)))] := hD
  rw [← hf1] at hP hD
  have hP : va_P D vwCl [(h0, .inr (1, [.ref qT, .int 0, .int 0, .int 0, .int 0, .null])), (qT, .inl (cA, 187, .inl f1))] H := hP
  have hD : va_D A [(h0, .inr (1, [.ref qT, .int 0, .int 0, .int 0, .int 0, .null])), (qT, .inl (cA, 187, .inl f1))] := hD
  have hf7 : ∀ j, j < 7 → f1 j = rr_first j := fun j hj => by rw [hf1, pk_cpy_in (Nat.zero_le j) (by omega)]; simp
  refine lv_aload_n hx hb dX1_init_34 rfl (lv_at hl 0 rfl) ?_
  refine va_gets hx hb hZ hS hown (hts (.fieldLink RX1 7 "RangeRules" "FIRST" "[I") (by decide +kernel)) (fun _ h9 => h9) dX1_init_35 ?_
  refine va_slen hx hb hX hXl hXA hS dX1_init_38 ?_
  refine W.eq (g2 := F0 m 39 ls [.int 7, .ref h0]) rfl ?_
  refine va_put (D := D) (ci := 1) (v := .int 7) (ty := .int) (C := RX1) (T := TX1) (N := 6) hx hb hts hiX1 tyX1 tyX1_ok nmX1 hown hK hP hD hS 0 rfl rfl 1 (by decide) (hts (.fieldLink RX1 22 "RangeRules" "thresholdCount" "I") (by decide +kernel)) (fun _ h9 => h9) rfl (by decide +kernel) rfl rfl (Nat.le_of_ble_eq_true rfl) dX1_init_39 (fun H locs hP hD hS => ?_)
  have hP : va_P D vwCl [(h0, .inr (1, [.ref qT, .int 7, .int 0, .int 0, .int 0, .null])), (qT, .inl (cA, 187, .inl f1))] H := hP
  have hD : va_D A [(h0, .inr (1, [.ref qT, .int 7, .int 0, .int 0, .int 0, .null])), (qT, .inl (cA, 187, .inl f1))] := hD
  refine lv_aload_n hx hb dX1_init_42 rfl (lv_at hl 0 rfl) ?_
  refine lv_iconst (v := 0) hx hb dX1_init_43 (by decide) ?_
  refine va_put (D := D) (ci := 1) (v := .int 0) (ty := .int) (C := RX1) (T := TX1) (N := 6) hx hb hts hiX1 tyX1 tyX1_ok nmX1 hown hK hP hD hS 0 rfl rfl 2 (by decide) (hts (.fieldLink RX1 26 "RangeRules" "aroundCount" "I") (by decide +kernel)) (fun _ h9 => h9) rfl (by decide +kernel) rfl rfl (Nat.le_of_ble_eq_true rfl) dX1_init_44 (fun H locs hP hD hS => ?_)
  have hP : va_P D vwCl [(h0, .inr (1, [.ref qT, .int 7, .int 0, .int 0, .int 0, .null])), (qT, .inl (cA, 187, .inl f1))] H := hP
  have hD : va_D A [(h0, .inr (1, [.ref qT, .int 7, .int 0, .int 0, .int 0, .null])), (qT, .inl (cA, 187, .inl f1))] := hD
  refine lv_aload_n hx hb dX1_init_47 rfl (lv_at hl 0 rfl) ?_
  refine lv_iconst (v := 0) hx hb dX1_init_48 (by decide) ?_
  refine va_put (D := D) (ci := 1) (v := .int 0) (ty := .int) (C := RX1) (T := TX1) (N := 6) hx hb hts hiX1 tyX1 tyX1_ok nmX1 hown hK hP hD hS 0 rfl rfl 3 (by decide) (hts (.fieldLink RX1 29 "RangeRules" "resultLow" "I") (by decide +kernel)) (fun _ h9 => h9) rfl (by decide +kernel) rfl rfl (Nat.le_of_ble_eq_true rfl) dX1_init_49 (fun H locs hP hD hS => ?_)
  have hP : va_P D vwCl [(h0, .inr (1, [.ref qT, .int 7, .int 0, .int 0, .int 0, .null])), (qT, .inl (cA, 187, .inl f1))] H := hP
  have hD : va_D A [(h0, .inr (1, [.ref qT, .int 7, .int 0, .int 0, .int 0, .null])), (qT, .inl (cA, 187, .inl f1))] := hD
  refine lv_aload_n hx hb dX1_init_52 rfl (lv_at hl 0 rfl) ?_
  refine lv_iconst (v := 0) hx hb dX1_init_53 (by decide) ?_
  refine va_put (D := D) (ci := 1) (v := .int 0) (ty := .int) (C := RX1) (T := TX1) (N := 6) hx hb hts hiX1 tyX1 tyX1_ok nmX1 hown hK hP hD hS 0 rfl rfl 4 (by decide) (hts (.fieldLink RX1 32 "RangeRules" "resultHigh" "I") (by decide +kernel)) (fun _ h9 => h9) rfl (by decide +kernel) rfl rfl (Nat.le_of_ble_eq_true rfl) dX1_init_54 (fun H locs hP hD hS => ?_)
  have hP : va_P D vwCl [(h0, .inr (1, [.ref qT, .int 7, .int 0, .int 0, .int 0, .null])), (qT, .inl (cA, 187, .inl f1))] H := hP
  have hD : va_D A [(h0, .inr (1, [.ref qT, .int 7, .int 0, .int 0, .int 0, .null])), (qT, .inl (cA, 187, .inl f1))] := hD
  refine lv_aload_n hx hb dX1_init_57 rfl (lv_at hl 0 rfl) ?_
  refine va_new (ci := 0) (fs := [.long 0, .long 0]) (C := RX0) (T := TX0) (N := 2) hx hb hts hiX0 tyX0 tyX0_ok hown (hts (.classLink RX1 35 RX0) (by decide +kernel)) (hts (.instantiable RX0 2) (by decide +kernel)) (hts (.initialized RX0) (by decide +kernel)) hK hP hD hS hA rfl (fun j hj => by rcases (show j = 0 ∨ j = 1 by omega) with rfl | rfl <;> rfl) (Nat.le_of_ble_eq_true rfl) (Nat.le_of_ble_eq_true rfl) dX1_init_58 (fun qS H hP hD hS => ?_)
  have hP : va_P D vwCl [(h0, .inr (1, [.ref qT, .int 7, .int 0, .int 0, .int 0, .null])), (qT, .inl (cA, 187, .inl f1)), (qS, .inr (0, [.long 0, .long 0]))] H := hP
  have hD : va_D A [(h0, .inr (1, [.ref qT, .int 7, .int 0, .int 0, .int 0, .null])), (qT, .inl (cA, 187, .inl f1)), (qS, .inr (0, [.long 0, .long 0]))] := hD
  refine W.widen (k := 2) (n := 189) (by omega) (by omega) ?_
  refine lv_dup hx hb dX1_init_61 rfl ?_
  have hPc := hP.sub (ws' := [(qS, .inr (0, [.long 0, .long 0]))]) [2] rfl
  have hDc := hD.sub (ws' := [(qS, .inr (0, [.long 0, .long 0]))]) [2] (by decide) rfl
  have hKc := hK.sub (tys' := []) [] rfl
  refine rr_wv (wr := [(h0, .inr (1, [.ref qT, .int 7, .int 0, .int 0, .int 0, .null])), (qT, .inl (cA, 187, .inl f1))]) [2] [0, 1] (va_runIN (As := []) (rest := [.ref qS, .ref h0]) ⟨hx, hb, hml, hown, hts⟩ (c_X0_init l D qS H.size 0 0) ⟨va_cnB 0 hts gX1_init_X0_init_n37 rfl rfl rfl hN (hts (.initialized RX0) (by decide +kernel)) (by decide +kernel) ⟨Nat.le_of_ble_eq_true rfl, Nat.le_of_ble_eq_true rfl⟩, rfl, hts (.instanceMethod yX0_init) (by decide +kernel)⟩ (rr_vS hKc hPc hDc) rfl rfl hl.1 rfl (lv_room (Nat.le_of_ble_eq_true rfl)) dX1_init_62 ⟨Nat.le_of_ble_eq_true rfl, Nat.le_of_ble_eq_true rfl⟩) hS hA hP hD rfl rfl (by decide) (by decide) (by decide) (fun _ => by simp only [rr_wx, rr_wm, List.map_cons, List.map_nil]) (fun _ H locs _ hP hD hS => ?_)
  have hP : va_P D vwCl [(h0, .inr (1, [.ref qT, .int 7, .int 0, .int 0, .int 0, .null])), (qT, .inl (cA, 187, .inl f1)), (qS, .inr (0, [.long 0, .long 0]))] H := hP
  have hD : va_D A [(h0, .inr (1, [.ref qT, .int 7, .int 0, .int 0, .int 0, .null])), (qT, .inl (cA, 187, .inl f1)), (qS, .inr (0, [.long 0, .long 0]))] := hD
  refine va_putF (D := D) (ci := 1) (v := .ref qS) (ty := .object "RangeRules$Span") (C := RX1) (T := TX1) (N := 6) hx hb hts hiX1 tyX1 tyX1_ok nmX1 hown hK hP hD hS 0 rfl rfl 5 (by decide) (hts (.fieldLink RX1 38 "RangeRules" "span" "LRangeRules$Span;") (by decide +kernel)) (fun _ h9 => h9) rfl hin rfl (by decide +kernel) rfl rfl (Nat.le_of_ble_eq_true rfl) dX1_init_65 (fun H locs hP hD hS => ?_)
  have hP : va_P D vwCl [(h0, .inr (1, [.ref qT, .int 7, .int 0, .int 0, .int 0, .ref qS])), (qT, .inl (cA, 187, .inl f1)), (qS, .inr (0, [.long 0, .long 0]))] H := hP
  have hD : va_D A [(h0, .inr (1, [.ref qT, .int 7, .int 0, .int 0, .int 0, .ref qS])), (qT, .inl (cA, 187, .inl f1)), (qS, .inr (0, [.long 0, .long 0]))] := hD
  exact W.vret hx hb hr (fun tt ht hW => ⟨⟨(qT, qS, cA, f1), rfl, hf7, by dsimp only; rw [ht]; exact hP, va_K.moved hW.alike hK, hD⟩, hS.F ht⟩) hS.2.2 dX1_init_68
