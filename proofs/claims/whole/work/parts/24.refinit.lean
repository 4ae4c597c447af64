set_option maxHeartbeats 1000000 in
set_option maxRecDepth 100000 in
/-- RangeRulesModel() -/
theorem c_X2_init (l : Launch) (D : va_G) (h0 sz : Nat) : Met l yX2_init wsX2_init ({ frames := 2, cells := 1, slots := 187, locals := 51 }) (rr_pW D [(h0, .inr (2, [.null, .int 0, .int 0, .int 0, .int 0]))] [] [.ref h0] sz) (va_Qv (fun u : Nat × ClassId × (Nat → Int32) => ∀ j, j < 7 → u.2.2 j = rr_first j) (fun u tt => va_P D vwCl (rr_wm h0 u.1 u.2.1 u.2.2 7 0 0 0) tt.heap ∧ va_K D vwCl [(u.2.1, .int)] tt ∧ va_D (va_A [(h0, .inr (2, [.null, .int 0, .int 0, .int 0, .int 0]))] sz) (rr_wm h0 u.1 u.2.1 u.2.2 7 0 0 0)) (va_A [(h0, .inr (2, [.null, .int 0, .int 0, .int 0, .int 0]))] sz)) 1 187 (va_A [(h0, .inr (2, [.null, .int 0, .int 0, .int 0, .int 0]))] sz) := by
  refine Met.ofW (cc := cX2_init) (maxL := 1) (ret := none) (by decide) rfl ?_
  intro p e s m args below meth c s₁ B hml hv
  obtain ⟨rfl, hsz, hP, hK, hD0⟩ := hv
  have hx := B.exec
  have hb := B.bytes
  have hr := B.returns
  have hts := atoms_spec (ws := wsX2_init) B.pre
  have hown : s.vm.findClass RX2 = some m.cls := findClass_of_methodNamed B.named
  have hlocks := B.notSynchronized
  subst hsz
  have hD := hD0.self (sz := s.heap.size)
  generalize hAe : va_A [(h0, .inr (2, [.null, .int 0, .int 0, .int 0, .int 0]))] s.heap.size = A at hD ⊢
  have hA : ∀ q : Nat, s.heap.size ≤ q → A q := fun q h => by rw [← hAe]; exact Or.inr h
  have hS : va_S A s.heap s.heap [] := va_S.rf
  have hP : va_P D vwCl [(h0, .inr (2, [.null, .int 0, .int 0, .int 0, .int 0]))] s.heap := hP
  have hiX2 : ∀ w ∈ wsX20, w ∈ wsX2_init := by decide +kernel
  have hl := lv_entry ([.ref h0]) (n := 1) (Nat.le_of_ble_eq_true rfl)
  rw [lg_entry_eq]
  generalize (lg_sl ([.ref h0]) ++ List.replicate (1 - (lg_sl ([.ref h0])).length) Slot.unset).toArray = ls at hl ⊢
  have hl : lv_has ls 1 [(0, .ref h0)] := hl
  have hin : meth.name = "<init>" := (name_of_methodNamed B.named B.method).1
  refine lv_aload_n hx hb dX2_init_0 rfl (lv_at hl 0 rfl) ?_
  refine W.objInit hx hb hown (hts (.methodLink RX2 1 objectInit) (by decide +kernel)) (hts (.instanceMethod objectInit) (by decide +kernel)) (hts (.code objectInit ⟨#[0xb1]⟩ 1 none) (List.mem_cons_of_mem _ (List.mem_append_left _ (List.mem_of_getElem? (i := 2) rfl)))) rfl (by rw [hml]; exact hl.1) rfl dX2_init_1 (Nat.le_of_ble_eq_true rfl) (Nat.le_of_ble_eq_true rfl) ?_
  refine W.eq (g2 := F0 m 4 ls []) rfl ?_
  refine lv_aload_n hx hb dX2_init_4 rfl (lv_at hl 0 rfl) ?_
  refine lv_sipush (v := 187) hx hb dX2_init_5 (by decide) ?_
  refine va_newa (atype := .int) (ty := .int) (n := 187) (N' := 187) (a0 := (187, .inl (fun _ => 0))) hx hb (hts (.arrayClass .int) (by decide +kernel)) rfl hK hP hD hS hA (fun cA => vp_cell_i cA 187 (fun _ => 0)) (by decide) (by decide) (by decide) (Nat.le_of_ble_eq_true rfl) (Nat.le_of_ble_eq_true rfl) dX2_init_8 (fun qT cA H hK hP hD hS => ?_)
  have hP : va_P D vwCl [(h0, .inr (2, [.null, .int 0, .int 0, .int 0, .int 0])), (qT, .inl (cA, 187, .inl (fun _ => 0)))] H := hP
  have hD : va_D A [(h0, .inr (2, [.null, .int 0, .int 0, .int 0, .int 0])), (qT, .inl (cA, 187, .inl (fun _ => 0)))] := hD
  have hK : va_K D vwCl [(cA, .int)] s := hK
  refine W.widen (k := 1) (n := 187) (by omega) (by omega) ?_
  refine va_putF (D := D) (ci := 2) (v := .ref qT) (ty := .array .int) (C := RX2) (T := TX2) (N := 5) hx hb hts hiX2 tyX2 tyX2_ok nmX2 hown hK hP hD hS 0 rfl rfl 0 (by decide) (hts (.fieldLink RX2 9 "RangeRulesModel" "threshold" "[I") (by decide +kernel)) (fun _ h9 => h9) rfl hin rfl (by decide +kernel) rfl rfl (Nat.le_of_ble_eq_true rfl) dX2_init_10 (fun H locs hP hD hS => ?_)
  have hP : va_P D vwCl [(h0, .inr (2, [.ref qT, .int 0, .int 0, .int 0, .int 0])), (qT, .inl (cA, 187, .inl (fun _ => 0)))] H := hP
  have hD : va_D A [(h0, .inr (2, [.ref qT, .int 0, .int 0, .int 0, .int 0])), (qT, .inl (cA, 187, .inl (fun _ => 0)))] := hD
  have hP : va_P D vwCl [(h0, .inr (2, [.ref qT, .int (nI 0), .int (nI 0), .int 0, .int 0])), (qT, .inl (cA, 187, .inl (fun _ => 0)))] H := hP
  have hD : va_D A [(h0, .inr (2, [.ref qT, .int (nI 0), .int (nI 0), .int 0, .int 0])), (qT, .inl (cA, 187, .inl (fun _ => 0)))] := hD
  refine lv_aload_n hx hb dX2_init_13 rfl (lv_at hl 0 rfl) ?_
  refine rr_wv (wr := []) [0, 1] [] (va_runV (As := []) (rest := []) ⟨hx, hb, hml, hown, hts⟩ (c_X2_clear l D h0 qT H.size cA (fun _ => 0) 0 0 0 0) (cwV 0 hts gX2_init_X2_clear rfl rfl rfl (by decide +kernel) ⟨Nat.le_of_ble_eq_true rfl, Nat.le_of_ble_eq_true rfl⟩) (rr_vW hK hP hD (va_recv hK hP (ci := 2) (q0 := 0) rfl rfl)) rfl rfl hl.1 rfl (lv_room (Nat.le_of_ble_eq_true rfl)) dX2_init_14 ⟨Nat.le_of_ble_eq_true rfl, Nat.le_of_ble_eq_true rfl⟩) hS hA hP hD rfl rfl (by decide) (by decide) (by decide) (fun _ => by simp only [rr_wx, rr_wm, List.map_cons, List.map_nil]) (fun u14 H locs e14 hP hD hS => ?_)
  have hP : va_P D vwCl [(h0, .inr (2, [.ref qT, .int (nI 7), .int (nI 0), .int 0, .int 0])), (qT, .inl (cA, 187, .inl u14))] H := hP
  have hD : va_D A [(h0, .inr (2, [.ref qT, .int (nI 7), .int (nI 0), .int 0, .int 0])), (qT, .inl (cA, 187, .inl u14))] := hD
  exact W.vret hx hb hr (fun tt ht hW => ⟨⟨(qT, cA, u14), rfl, e14, by dsimp only; rw [ht]; exact hP, va_K.moved hW.alike hK, hD⟩, hS.F ht⟩) hS.2.2 dX2_init_17
