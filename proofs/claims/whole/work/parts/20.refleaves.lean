set_option maxHeartbeats 1000000 in
set_option maxRecDepth 100000 in
/-- size -/
theorem c_X2_size (l : Launch) (D : va_G) (h0 qT sz : Nat) (cA : ClassId) (f : Nat → Int32) (n t : Nat) (lo hi : Int32)   : Met l yX2_size wsX2_size ({ frames := 0, cells := 0, slots := 0, locals := 0 }) (rr_pR D (rr_wm h0 qT cA f n t lo hi) [(cA, .int)] [.ref h0] sz) (va_Qi (fun r (_ : Unit) => r = nI n) (fun _ _ => True) (va_A [] sz)) 0 0 (va_A [] sz) := by
  refine Met.ofW (cc := cX2_size) (maxL := 1) (ret := (some .int)) (by decide) rfl ?_
  intro p e s m args below meth c s₁ B hml hv
  obtain ⟨rfl, hsz, hP, hK⟩ := hv
  have hx := B.exec
  have hb := B.bytes
  have hr := B.returns
  have hts := atoms_spec (ws := wsX2_size) B.pre
  have hown : s.vm.findClass RX2 = some m.cls := findClass_of_methodNamed B.named
  have hlocks := B.notSynchronized
  subst hsz
  generalize hAe : va_A [] s.heap.size = A
  have hA : ∀ q : Nat, s.heap.size ≤ q → A q := fun q h => by rw [← hAe]; exact Or.inr h
  have hS : va_S A s.heap s.heap [] := va_S.rf
  have hP : va_P D vwCl [(h0, .inr (2, [.ref qT, .int (nI n), .int (nI t), .int lo, .int hi])), (qT, .inl (cA, 187, .inl f))] s.heap := hP
  have hiX2 : ∀ w ∈ wsX20, w ∈ wsX2_size := by decide +kernel
  have hl := lv_entry ([.ref h0]) (n := 1) (Nat.le_of_ble_eq_true rfl)
  rw [lg_entry_eq]
  generalize (lg_sl ([.ref h0]) ++ List.replicate (1 - (lg_sl ([.ref h0])).length) Slot.unset).toArray = ls at hl ⊢
  have hl : lv_has ls 1 [(0, .ref h0)] := hl
  refine lv_aload_n hx hb dX2_size_0 rfl (lv_at hl 0 rfl) ?_
  refine va_get (D := D) (ci := 2) (v := .int (nI n)) (C := RX2) (T := TX2) (N := 5) hx hb hts hiX2 hown hK hP 0 rfl rfl 1 (by decide) (hts (.fieldLink RX2 20 "RangeRulesModel" "thresholds" "I") (by decide +kernel)) (fun _ h9 => h9) rfl dX2_size_1 ?_
  exact W.iret (v := nI n) hx hb hr (fun tt ht hW => ⟨⟨_, (), rfl, rfl, trivial⟩, hS.F ht⟩) hS.2.2 dX2_size_4
set_option maxHeartbeats 1000000 in
set_option maxRecDepth 100000 in
/-- low -/
theorem c_X2_low (l : Launch) (D : va_G) (h0 qT sz : Nat) (cA : ClassId) (f : Nat → Int32) (n t : Nat) (lo hi : Int32)   : Met l yX2_low wsX2_low ({ frames := 0, cells := 0, slots := 0, locals := 0 }) (rr_pR D (rr_wm h0 qT cA f n t lo hi) [(cA, .int)] [.ref h0] sz) (va_Qi (fun r (_ : Unit) => r = lo) (fun _ _ => True) (va_A [] sz)) 0 0 (va_A [] sz) := by
  refine Met.ofW (cc := cX2_low) (maxL := 1) (ret := (some .int)) (by decide) rfl ?_
  intro p e s m args below meth c s₁ B hml hv
  obtain ⟨rfl, hsz, hP, hK⟩ := hv
  have hx := B.exec
  have hb := B.bytes
  have hr := B.returns
  have hts := atoms_spec (ws := wsX2_low) B.pre
  have hown : s.vm.findClass RX2 = some m.cls := findClass_of_methodNamed B.named
  have hlocks := B.notSynchronized
  subst hsz
  generalize hAe : va_A [] s.heap.size = A
  have hA : ∀ q : Nat, s.heap.size ≤ q → A q := fun q h => by rw [← hAe]; exact Or.inr h
  have hS : va_S A s.heap s.heap [] := va_S.rf
  have hP : va_P D vwCl [(h0, .inr (2, [.ref qT, .int (nI n), .int (nI t), .int lo, .int hi])), (qT, .inl (cA, 187, .inl f))] s.heap := hP
  have hiX2 : ∀ w ∈ wsX20, w ∈ wsX2_low := by decide +kernel
  have hl := lv_entry ([.ref h0]) (n := 1) (Nat.le_of_ble_eq_true rfl)
  rw [lg_entry_eq]
  generalize (lg_sl ([.ref h0]) ++ List.replicate (1 - (lg_sl ([.ref h0])).length) Slot.unset).toArray = ls at hl ⊢
  have hl : lv_has ls 1 [(0, .ref h0)] := hl
  refine lv_aload_n hx hb dX2_low_0 rfl (lv_at hl 0 rfl) ?_
  refine va_get (D := D) (ci := 2) (v := .int lo) (C := RX2) (T := TX2) (N := 5) hx hb hts hiX2 hown hK hP 0 rfl rfl 3 (by decide) (hts (.fieldLink RX2 53 "RangeRulesModel" "low" "I") (by decide +kernel)) (fun _ h9 => h9) rfl dX2_low_1 ?_
  exact W.iret (v := lo) hx hb hr (fun tt ht hW => ⟨⟨_, (), rfl, rfl, trivial⟩, hS.F ht⟩) hS.2.2 dX2_low_4
set_option maxHeartbeats 1000000 in
set_option maxRecDepth 100000 in
/-- high -/
theorem c_X2_high (l : Launch) (D : va_G) (h0 qT sz : Nat) (cA : ClassId) (f : Nat → Int32) (n t : Nat) (lo hi : Int32)   : Met l yX2_high wsX2_high ({ frames := 0, cells := 0, slots := 0, locals := 0 }) (rr_pR D (rr_wm h0 qT cA f n t lo hi) [(cA, .int)] [.ref h0] sz) (va_Qi (fun r (_ : Unit) => r = hi) (fun _ _ => True) (va_A [] sz)) 0 0 (va_A [] sz) := by
  refine Met.ofW (cc := cX2_high) (maxL := 1) (ret := (some .int)) (by decide) rfl ?_
  intro p e s m args below meth c s₁ B hml hv
  obtain ⟨rfl, hsz, hP, hK⟩ := hv
  have hx := B.exec
  have hb := B.bytes
  have hr := B.returns
  have hts := atoms_spec (ws := wsX2_high) B.pre
  have hown : s.vm.findClass RX2 = some m.cls := findClass_of_methodNamed B.named
  have hlocks := B.notSynchronized
  subst hsz
  generalize hAe : va_A [] s.heap.size = A
  have hA : ∀ q : Nat, s.heap.size ≤ q → A q := fun q h => by rw [← hAe]; exact Or.inr h
  have hS : va_S A s.heap s.heap [] := va_S.rf
  have hP : va_P D vwCl [(h0, .inr (2, [.ref qT, .int (nI n), .int (nI t), .int lo, .int hi])), (qT, .inl (cA, 187, .inl f))] s.heap := hP
  have hiX2 : ∀ w ∈ wsX20, w ∈ wsX2_high := by decide +kernel
  have hl := lv_entry ([.ref h0]) (n := 1) (Nat.le_of_ble_eq_true rfl)
  rw [lg_entry_eq]
  generalize (lg_sl ([.ref h0]) ++ List.replicate (1 - (lg_sl ([.ref h0])).length) Slot.unset).toArray = ls at hl ⊢
  have hl : lv_has ls 1 [(0, .ref h0)] := hl
  refine lv_aload_n hx hb dX2_high_0 rfl (lv_at hl 0 rfl) ?_
  refine va_get (D := D) (ci := 2) (v := .int hi) (C := RX2) (T := TX2) (N := 5) hx hb hts hiX2 hown hK hP 0 rfl rfl 4 (by decide) (hts (.fieldLink RX2 56 "RangeRulesModel" "high" "I") (by decide +kernel)) (fun _ h9 => h9) rfl dX2_high_1 ?_
  exact W.iret (v := hi) hx hb hr (fun tt ht hW => ⟨⟨_, (), rfl, rfl, trivial⟩, hS.F ht⟩) hS.2.2 dX2_high_4
set_option maxHeartbeats 1000000 in
set_option maxRecDepth 100000 in
/-- down(v) -/
theorem c_X2_down (l : Launch) (D : va_G) (h0 qT sz : Nat) (cA : ClassId) (f : Nat → Int32) (n t : Nat) (lo hi : Int32) (v : Int32) (hn : n ≤ 187) : Met l yX2_down wsX2_down ({ frames := 1, cells := 0, slots := 0, locals := 20 }) (rr_pR D (rr_wm h0 qT cA f n t lo hi) [(cA, .int)] [.ref h0, .int v] sz) (va_Qi (fun r (_ : Unit) => r = rr_dn f v n) (fun _ _ => True) (va_A [] sz)) 0 0 (va_A [] sz) := by
  refine Met.ofW (cc := cX2_down) (maxL := 4) (ret := (some .int)) (by decide) rfl ?_
  intro p e s m args below meth c s₁ B hml hv
  obtain ⟨rfl, hsz, hP, hK⟩ := hv
  have hx := B.exec
  have hb := B.bytes
  have hr := B.returns
  have hts := atoms_spec (ws := wsX2_down) B.pre
  have hown : s.vm.findClass RX2 = some m.cls := findClass_of_methodNamed B.named
  have hlocks := B.notSynchronized
  subst hsz
  generalize hAe : va_A [] s.heap.size = A
  have hA : ∀ q : Nat, s.heap.size ≤ q → A q := fun q h => by rw [← hAe]; exact Or.inr h
  have hS : va_S A s.heap s.heap [] := va_S.rf
  have hP : va_P D vwCl [(h0, .inr (2, [.ref qT, .int (nI n), .int (nI t), .int lo, .int hi])), (qT, .inl (cA, 187, .inl f))] s.heap := hP
  have hiX2 : ∀ w ∈ wsX20, w ∈ wsX2_down := by decide +kernel
  have hl := lv_entry ([.ref h0, .int v]) (n := 4) (Nat.le_of_ble_eq_true rfl)
  rw [lg_entry_eq]
  generalize (lg_sl ([.ref h0, .int v]) ++ List.replicate (4 - (lg_sl ([.ref h0, .int v])).length) Slot.unset).toArray = ls at hl ⊢
  have hl : lv_has ls 4 [(0, .ref h0), (1, .int v)] := hl
  refine lv_ldc (v := (-2147483648)) hx hb hown (hts (.constant RX2 35 (-2147483648)) (by decide +kernel)) dX2_down_0 ?_
  refine lv_istore_n (lv' := [(2, .int ((-2147483648))), (0, .ref h0), (1, .int v)]) hx hb dX2_down_2 rfl hl (by decide) rfl (fun ls hl => ?_)
  refine lv_iconst (v := 0) hx hb dX2_down_3 (by decide) ?_
  refine lv_istore_n (lv' := [(3, .int 0), (2, .int ((-2147483648))), (0, .ref h0), (1, .int v)]) hx hb dX2_down_4 rfl hl (by decide) rfl (fun ls hl => ?_)
  obtain ⟨i, hi0⟩ : ∃ i : Nat, i = 0 := ⟨_, rfl⟩
  replace hl : lv_has ls 4 [(3, .int (nI i)), (2, .int (rr_dn f v i)), (0, .ref h0), (1, .int v)] := by rw [hi0]; exact hl
  obtain ⟨k, hk⟩ : ∃ k : Nat, i + k = n := ⟨n, by omega⟩
  clear hi0
  induction k generalizing i ls with
  | zero =>
    refine lv_iload_n hx hb dX2_down_5 rfl (lv_at hl 0 rfl) ?_
    refine lv_aload_n hx hb dX2_down_6 rfl (lv_at hl 2 rfl) ?_
    refine va_get (D := D) (ci := 2) (v := .int (nI n)) (C := RX2) (T := TX2) (N := 5) hx hb hts hiX2 hown hK hP 0 rfl rfl 1 (by decide) (hts (.fieldLink RX2 20 "RangeRulesModel" "thresholds" "I") (by decide +kernel)) (fun _ h9 => h9) rfl dX2_down_7 ?_
    refine lv_icmp_ge (tgt := 40) hx hb dX2_down_10 (by decide) (fun c10 => ?_) (fun c10 => ?_)
    · skip
      refine lv_iload_n hx hb dX2_down_40 rfl (lv_at hl 1 rfl) ?_
      exact W.iret (v := rr_dn f v i) hx hb hr (fun tt ht hW => ⟨⟨_, (), rfl, by rw [← hk]; rfl, trivial⟩, hS.F ht⟩) hS.2.2 dX2_down_41
    · skip
      exact absurd (nI_le (by omega) (by omega)) c10
  | succ k ih =>
    refine lv_iload_n hx hb dX2_down_5 rfl (lv_at hl 0 rfl) ?_
    refine lv_aload_n hx hb dX2_down_6 rfl (lv_at hl 2 rfl) ?_
    refine va_get (D := D) (ci := 2) (v := .int (nI n)) (C := RX2) (T := TX2) (N := 5) hx hb hts hiX2 hown hK hP 0 rfl rfl 1 (by decide) (hts (.fieldLink RX2 20 "RangeRulesModel" "thresholds" "I") (by decide +kernel)) (fun _ h9 => h9) rfl dX2_down_7 ?_
    refine lv_icmp_ge (tgt := 40) hx hb dX2_down_10 (by decide) (fun c10 => ?_) (fun c10 => ?_)
    · skip
      exact absurd c10 (nI_ge (by omega) (by omega))
    · skip
      refine lv_aload_n hx hb dX2_down_13 rfl (lv_at hl 2 rfl) ?_
      refine va_get (D := D) (ci := 2) (v := .ref qT) (C := RX2) (T := TX2) (N := 5) hx hb hts hiX2 hown hK hP 0 rfl rfl 0 (by decide) (hts (.fieldLink RX2 9 "RangeRulesModel" "threshold" "[I") (by decide +kernel)) (fun _ h9 => h9) rfl dX2_down_14 ?_
      refine lv_iload_n hx hb dX2_down_17 rfl (lv_at hl 0 rfl) ?_
      refine va_iald hx hb hK hP 1 0 rfl rfl (vp_in_nI (by omega) (by omega)) dX2_down_18 ?_
      refine W.eq (congrArg (fun z => F0 m 19 ls (.int z :: [])) (congrArg f (nI_clamp (by omega)))) ?_
      refine lv_iload_n hx hb dX2_down_19 rfl (lv_at hl 3 rfl) ?_
      refine lv_icmp_gt (tgt := 34) hx hb dX2_down_20 (by decide) (fun c20 => ?_) (fun c20 => ?_)
      · skip
        refine lv_iinc (v := nI (i + 1)) (lv' := [(3, .int (nI (i + 1))), (2, .int (rr_dn f v i)), (0, .ref h0), (1, .int v)]) hx hb dX2_down_34 hl (k := 0) rfl (nI_1 i) (by decide) rfl (fun ls hl => ?_)
        refine lv_goto (tgt := 5) hx hb dX2_down_37 (by decide) ?_
        have ee : rr_dn f v (i + 1) = rr_dn f v i := if_neg (c := f i ≤ v ∧ rr_dn f v i < f i) (fun z => absurd z.1 (Int32.not_le.mpr c20))
        refine ih ls (i + 1) ?_ (by omega)
        rw [ee]
        exact lv_sub hl [0, 1, 2, 3] rfl
      · skip
        refine lv_iload_n hx hb dX2_down_23 rfl (lv_at hl 1 rfl) ?_
        refine lv_aload_n hx hb dX2_down_24 rfl (lv_at hl 2 rfl) ?_
        refine va_get (D := D) (ci := 2) (v := .ref qT) (C := RX2) (T := TX2) (N := 5) hx hb hts hiX2 hown hK hP 0 rfl rfl 0 (by decide) (hts (.fieldLink RX2 9 "RangeRulesModel" "threshold" "[I") (by decide +kernel)) (fun _ h9 => h9) rfl dX2_down_25 ?_
        refine lv_iload_n hx hb dX2_down_28 rfl (lv_at hl 0 rfl) ?_
        refine va_iald hx hb hK hP 1 0 rfl rfl (vp_in_nI (by omega) (by omega)) dX2_down_29 ?_
        refine W.eq (congrArg (fun z => F0 m 30 ls (.int z :: [.int (rr_dn f v i)])) (congrArg f (nI_clamp (by omega)))) ?_
        refine va_mmax hx hb (hml.trans hl.1.symm) hown (hts (.methodLink RX2 36 Lib.Math.max.name) (by decide +kernel)) (hts (.static Lib.Math.max.name) (by decide +kernel)) (hts (.initialized "java/lang/Math") (by decide +kernel)) (hts (.code Lib.Math.max.name Lib.Math.max.code 2 (some .int)) (by decide +kernel)) (Nat.le_of_ble_eq_true rfl) (Nat.le_of_ble_eq_true rfl) (Nat.le_of_ble_eq_true rfl) (Nat.le_of_ble_eq_true rfl) dX2_down_30 ?_
        refine W.eq (g2 := F0 m 33 ls [.int (rr_xi (rr_dn f v i) (f i))]) rfl ?_
        refine lv_istore_n (lv' := [(2, .int (rr_xi (rr_dn f v i) (f i))), (3, .int (nI i)), (0, .ref h0), (1, .int v)]) hx hb dX2_down_33 rfl hl (by decide) rfl (fun ls hl => ?_)
        refine lv_iinc (v := nI (i + 1)) (lv' := [(3, .int (nI (i + 1))), (2, .int (rr_xi (rr_dn f v i) (f i))), (0, .ref h0), (1, .int v)]) hx hb dX2_down_34 hl (k := 1) rfl (nI_1 i) (by decide) rfl (fun ls hl => ?_)
        refine lv_goto (tgt := 5) hx hb dX2_down_37 (by decide) ?_
        have ee : rr_dn f v (i + 1) = rr_xi (rr_dn f v i) (f i) := rr_dn_x (Int32.not_lt.mp c20)
        refine ih ls (i + 1) ?_ (by omega)
        rw [ee]
        exact lv_sub hl [0, 1, 2, 3] rfl
set_option maxHeartbeats 1000000 in
set_option maxRecDepth 100000 in
/-- up(v) -/
theorem c_X2_up (l : Launch) (D : va_G) (h0 qT sz : Nat) (cA : ClassId) (f : Nat → Int32) (n t : Nat) (lo hi : Int32) (v : Int32) (hn : n ≤ 187) : Met l yX2_up wsX2_up ({ frames := 1, cells := 0, slots := 0, locals := 20 }) (rr_pR D (rr_wm h0 qT cA f n t lo hi) [(cA, .int)] [.ref h0, .int v] sz) (va_Qi (fun r (_ : Unit) => r = rr_up f v n) (fun _ _ => True) (va_A [] sz)) 0 0 (va_A [] sz) := by
  refine Met.ofW (cc := cX2_up) (maxL := 4) (ret := (some .int)) (by decide) rfl ?_
  intro p e s m args below meth c s₁ B hml hv
  obtain ⟨rfl, hsz, hP, hK⟩ := hv
  have hx := B.exec
  have hb := B.bytes
  have hr := B.returns
  have hts := atoms_spec (ws := wsX2_up) B.pre
  have hown : s.vm.findClass RX2 = some m.cls := findClass_of_methodNamed B.named
  have hlocks := B.notSynchronized
  subst hsz
  generalize hAe : va_A [] s.heap.size = A
  have hA : ∀ q : Nat, s.heap.size ≤ q → A q := fun q h => by rw [← hAe]; exact Or.inr h
  have hS : va_S A s.heap s.heap [] := va_S.rf
  have hP : va_P D vwCl [(h0, .inr (2, [.ref qT, .int (nI n), .int (nI t), .int lo, .int hi])), (qT, .inl (cA, 187, .inl f))] s.heap := hP
  have hiX2 : ∀ w ∈ wsX20, w ∈ wsX2_up := by decide +kernel
  have hl := lv_entry ([.ref h0, .int v]) (n := 4) (Nat.le_of_ble_eq_true rfl)
  rw [lg_entry_eq]
  generalize (lg_sl ([.ref h0, .int v]) ++ List.replicate (4 - (lg_sl ([.ref h0, .int v])).length) Slot.unset).toArray = ls at hl ⊢
  have hl : lv_has ls 4 [(0, .ref h0), (1, .int v)] := hl
  refine lv_ldc (v := 2147483647) hx hb hown (hts (.constant RX2 42 2147483647) (by decide +kernel)) dX2_up_0 ?_
  refine lv_istore_n (lv' := [(2, .int 2147483647), (0, .ref h0), (1, .int v)]) hx hb dX2_up_2 rfl hl (by decide) rfl (fun ls hl => ?_)
  refine lv_iconst (v := 0) hx hb dX2_up_3 (by decide) ?_
  refine lv_istore_n (lv' := [(3, .int 0), (2, .int 2147483647), (0, .ref h0), (1, .int v)]) hx hb dX2_up_4 rfl hl (by decide) rfl (fun ls hl => ?_)
  obtain ⟨i, hi0⟩ : ∃ i : Nat, i = 0 := ⟨_, rfl⟩
  replace hl : lv_has ls 4 [(3, .int (nI i)), (2, .int (rr_up f v i)), (0, .ref h0), (1, .int v)] := by rw [hi0]; exact hl
  obtain ⟨k, hk⟩ : ∃ k : Nat, i + k = n := ⟨n, by omega⟩
  clear hi0
  induction k generalizing i ls with
  | zero =>
    refine lv_iload_n hx hb dX2_up_5 rfl (lv_at hl 0 rfl) ?_
    refine lv_aload_n hx hb dX2_up_6 rfl (lv_at hl 2 rfl) ?_
    refine va_get (D := D) (ci := 2) (v := .int (nI n)) (C := RX2) (T := TX2) (N := 5) hx hb hts hiX2 hown hK hP 0 rfl rfl 1 (by decide) (hts (.fieldLink RX2 20 "RangeRulesModel" "thresholds" "I") (by decide +kernel)) (fun _ h9 => h9) rfl dX2_up_7 ?_
    refine lv_icmp_ge (tgt := 40) hx hb dX2_up_10 (by decide) (fun c10 => ?_) (fun c10 => ?_)
    · skip
      refine lv_iload_n hx hb dX2_up_40 rfl (lv_at hl 1 rfl) ?_
      exact W.iret (v := rr_up f v i) hx hb hr (fun tt ht hW => ⟨⟨_, (), rfl, by rw [← hk]; rfl, trivial⟩, hS.F ht⟩) hS.2.2 dX2_up_41
    · skip
      exact absurd (nI_le (by omega) (by omega)) c10
  | succ k ih =>
    refine lv_iload_n hx hb dX2_up_5 rfl (lv_at hl 0 rfl) ?_
    refine lv_aload_n hx hb dX2_up_6 rfl (lv_at hl 2 rfl) ?_
    refine va_get (D := D) (ci := 2) (v := .int (nI n)) (C := RX2) (T := TX2) (N := 5) hx hb hts hiX2 hown hK hP 0 rfl rfl 1 (by decide) (hts (.fieldLink RX2 20 "RangeRulesModel" "thresholds" "I") (by decide +kernel)) (fun _ h9 => h9) rfl dX2_up_7 ?_
    refine lv_icmp_ge (tgt := 40) hx hb dX2_up_10 (by decide) (fun c10 => ?_) (fun c10 => ?_)
    · skip
      exact absurd c10 (nI_ge (by omega) (by omega))
    · skip
      refine lv_aload_n hx hb dX2_up_13 rfl (lv_at hl 2 rfl) ?_
      refine va_get (D := D) (ci := 2) (v := .ref qT) (C := RX2) (T := TX2) (N := 5) hx hb hts hiX2 hown hK hP 0 rfl rfl 0 (by decide) (hts (.fieldLink RX2 9 "RangeRulesModel" "threshold" "[I") (by decide +kernel)) (fun _ h9 => h9) rfl dX2_up_14 ?_
      refine lv_iload_n hx hb dX2_up_17 rfl (lv_at hl 0 rfl) ?_
      refine va_iald hx hb hK hP 1 0 rfl rfl (vp_in_nI (by omega) (by omega)) dX2_up_18 ?_
      refine W.eq (congrArg (fun z => F0 m 19 ls (.int z :: [])) (congrArg f (nI_clamp (by omega)))) ?_
      refine lv_iload_n hx hb dX2_up_19 rfl (lv_at hl 3 rfl) ?_
      refine lv_icmp_lt (tgt := 34) hx hb dX2_up_20 (by decide) (fun c20 => ?_) (fun c20 => ?_)
      · skip
        refine lv_iinc (v := nI (i + 1)) (lv' := [(3, .int (nI (i + 1))), (2, .int (rr_up f v i)), (0, .ref h0), (1, .int v)]) hx hb dX2_up_34 hl (k := 0) rfl (nI_1 i) (by decide) rfl (fun ls hl => ?_)
        refine lv_goto (tgt := 5) hx hb dX2_up_37 (by decide) ?_
        have ee : rr_up f v (i + 1) = rr_up f v i := if_neg (c := v ≤ f i ∧ f i < rr_up f v i) (fun z => absurd z.1 (Int32.not_le.mpr c20))
        refine ih ls (i + 1) ?_ (by omega)
        rw [ee]
        exact lv_sub hl [0, 1, 2, 3] rfl
      · skip
        refine lv_iload_n hx hb dX2_up_23 rfl (lv_at hl 1 rfl) ?_
        refine lv_aload_n hx hb dX2_up_24 rfl (lv_at hl 2 rfl) ?_
        refine va_get (D := D) (ci := 2) (v := .ref qT) (C := RX2) (T := TX2) (N := 5) hx hb hts hiX2 hown hK hP 0 rfl rfl 0 (by decide) (hts (.fieldLink RX2 9 "RangeRulesModel" "threshold" "[I") (by decide +kernel)) (fun _ h9 => h9) rfl dX2_up_25 ?_
        refine lv_iload_n hx hb dX2_up_28 rfl (lv_at hl 0 rfl) ?_
        refine va_iald hx hb hK hP 1 0 rfl rfl (vp_in_nI (by omega) (by omega)) dX2_up_29 ?_
        refine W.eq (congrArg (fun z => F0 m 30 ls (.int z :: [.int (rr_up f v i)])) (congrArg f (nI_clamp (by omega)))) ?_
        refine va_mmin hx hb (hml.trans hl.1.symm) hown (hts (.methodLink RX2 43 Lib.Math.min.name) (by decide +kernel)) (hts (.static Lib.Math.min.name) (by decide +kernel)) (hts (.initialized "java/lang/Math") (by decide +kernel)) (hts (.code Lib.Math.min.name Lib.Math.min.code 2 (some .int)) (by decide +kernel)) (Nat.le_of_ble_eq_true rfl) (Nat.le_of_ble_eq_true rfl) (Nat.le_of_ble_eq_true rfl) (Nat.le_of_ble_eq_true rfl) dX2_up_30 ?_
        refine W.eq (g2 := F0 m 33 ls [.int (rr_ni (rr_up f v i) (f i))]) rfl ?_
        refine lv_istore_n (lv' := [(2, .int (rr_ni (rr_up f v i) (f i))), (3, .int (nI i)), (0, .ref h0), (1, .int v)]) hx hb dX2_up_33 rfl hl (by decide) rfl (fun ls hl => ?_)
        refine lv_iinc (v := nI (i + 1)) (lv' := [(3, .int (nI (i + 1))), (2, .int (rr_ni (rr_up f v i) (f i))), (0, .ref h0), (1, .int v)]) hx hb dX2_up_34 hl (k := 1) rfl (nI_1 i) (by decide) rfl (fun ls hl => ?_)
        refine lv_goto (tgt := 5) hx hb dX2_up_37 (by decide) ?_
        have ee : rr_up f v (i + 1) = rr_ni (rr_up f v i) (f i) := rr_up_x (Int32.not_lt.mp c20)
        refine ih ls (i + 1) ?_ (by omega)
        rw [ee]
        exact lv_sub hl [0, 1, 2, 3] rfl
set_option maxHeartbeats 1000000 in
set_option maxRecDepth 100000 in
/-- isRange(x, y) -/
theorem c_X2_isRange (l : Launch) (D : va_G) (h0 qT sz : Nat) (cA : ClassId) (f : Nat → Int32) (n t : Nat) (lo hi : Int32) (x y : Int32) (hn : n ≤ 187) (hk : rr_ok f n) : Met l yX2_isRange wsX2_isRange ({ frames := 2, cells := 0, slots := 0, locals := 43 }) (rr_pR D (rr_wm h0 qT cA f n t lo hi) [(cA, .int)] [.ref h0, .int x, .int y] sz) (va_Qi (fun r (_ : Unit) => r = if rr_rg f n x y = true then 1 else 0) (fun _ _ => True) (va_A [] sz)) 0 0 (va_A [] sz) := by
  refine Met.ofW (cc := cX2_isRange) (maxL := 3) (ret := (some .boolean)) (by decide) rfl ?_
  intro p e s m args below meth c s₁ B hml hv
  obtain ⟨rfl, hsz, hP, hK⟩ := hv
  have hx := B.exec
  have hb := B.bytes
  have hr := B.returns
  have hts := atoms_spec (ws := wsX2_isRange) B.pre
  have hown : s.vm.findClass RX2 = some m.cls := findClass_of_methodNamed B.named
  have hlocks := B.notSynchronized
  subst hsz
  generalize hAe : va_A [] s.heap.size = A
  have hA : ∀ q : Nat, s.heap.size ≤ q → A q := fun q h => by rw [← hAe]; exact Or.inr h
  have hS : va_S A s.heap s.heap [] := va_S.rf
  have hP : va_P D vwCl [(h0, .inr (2, [.ref qT, .int (nI n), .int (nI t), .int lo, .int hi])), (qT, .inl (cA, 187, .inl f))] s.heap := hP
  have hiX2 : ∀ w ∈ wsX20, w ∈ wsX2_isRange := by decide +kernel
  have hl := lv_entry ([.ref h0, .int x, .int y]) (n := 3) (Nat.le_of_ble_eq_true rfl)
  rw [lg_entry_eq]
  generalize (lg_sl ([.ref h0, .int x, .int y]) ++ List.replicate (3 - (lg_sl ([.ref h0, .int x, .int y])).length) Slot.unset).toArray = ls at hl ⊢
  have hl : lv_has ls 3 [(0, .ref h0), (1, .int x), (2, .int y)] := hl
  refine lv_iload_n hx hb dX2_isRange_0 rfl (lv_at hl 1 rfl) ?_
  refine lv_iload_n hx hb dX2_isRange_1 rfl (lv_at hl 2 rfl) ?_
  refine lv_icmp_gt (tgt := 27) hx hb dX2_isRange_2 (by decide) (fun c2 => ?_) (fun c2 => ?_)
  · skip
    refine lv_iconst (v := 0) hx hb dX2_isRange_27 (by decide) ?_
    exact W.zret (v := 0) hx hb hr rfl (fun tt ht hW => ⟨⟨_, (), rfl, by rw [if_neg (fun z => by have z := rr_rg_iff.mp z; first | exact absurd z.1 (Int32.not_le.mpr c2) | exact c11 ((rr_dn_iff hk x).mpr z.2.1) | exact c20 ((rr_up_iff hk y).mpr z.2.2))], trivial⟩, hS.F ht⟩) hS.2.2 dX2_isRange_28
  · skip
    refine lv_aload_n hx hb dX2_isRange_5 rfl (lv_at hl 0 rfl) ?_
    refine lv_iload_n hx hb dX2_isRange_6 rfl (lv_at hl 1 rfl) ?_
    refine rr_ri (va_runV (As := [.int x]) (rest := []) ⟨hx, hb, hml, hown, hts⟩ (c_X2_down l D h0 qT s.heap.size cA f n t lo hi x hn) (cwV 1 hts gX2_isRange_X2_down rfl rfl rfl (by decide +kernel) ⟨Nat.le_of_ble_eq_true rfl, Nat.le_of_ble_eq_true rfl⟩) (rr_vR hK hP (va_recv hK hP (ci := 2) (q0 := 0) rfl rfl)) rfl rfl hl.1 rfl (lv_room (Nat.le_of_ble_eq_true rfl)) dX2_isRange_7 ⟨Nat.le_of_ble_eq_true rfl, Nat.le_of_ble_eq_true rfl⟩) hS hA hP (fun r7 H locs e7 hP hS => ?_)
    subst e7
    refine lv_iload_n hx hb dX2_isRange_10 rfl (lv_at hl 1 rfl) ?_
    refine lv_icmp_ne (tgt := 27) hx hb dX2_isRange_11 (by decide) (fun c11 => ?_) (fun c11 => ?_)
    · skip
      refine lv_iconst (v := 0) hx hb dX2_isRange_27 (by decide) ?_
      exact W.zret (v := 0) hx hb hr rfl (fun tt ht hW => ⟨⟨_, (), rfl, by rw [if_neg (fun z => by have z := rr_rg_iff.mp z; first | exact absurd z.1 (Int32.not_le.mpr c2) | exact c11 ((rr_dn_iff hk x).mpr z.2.1) | exact c20 ((rr_up_iff hk y).mpr z.2.2))], trivial⟩, hS.F ht⟩) hS.2.2 dX2_isRange_28
    · skip
      refine lv_aload_n hx hb dX2_isRange_14 rfl (lv_at hl 0 rfl) ?_
      refine lv_iload_n hx hb dX2_isRange_15 rfl (lv_at hl 2 rfl) ?_
      refine rr_ri (va_runV (As := [.int y]) (rest := []) ⟨hx, hb, hml, hown, hts⟩ (c_X2_up l D h0 qT H.size cA f n t lo hi y hn) (cwV 1 hts gX2_isRange_X2_up rfl rfl rfl (by decide +kernel) ⟨Nat.le_of_ble_eq_true rfl, Nat.le_of_ble_eq_true rfl⟩) (rr_vR hK hP (va_recv hK hP (ci := 2) (q0 := 0) rfl rfl)) rfl rfl hl.1 rfl (lv_room (Nat.le_of_ble_eq_true rfl)) dX2_isRange_16 ⟨Nat.le_of_ble_eq_true rfl, Nat.le_of_ble_eq_true rfl⟩) hS hA hP (fun r16 H locs e16 hP hS => ?_)
      subst e16
      refine lv_iload_n hx hb dX2_isRange_19 rfl (lv_at hl 2 rfl) ?_
      refine lv_icmp_ne (tgt := 27) hx hb dX2_isRange_20 (by decide) (fun c20 => ?_) (fun c20 => ?_)
      · skip
        refine lv_iconst (v := 0) hx hb dX2_isRange_27 (by decide) ?_
        exact W.zret (v := 0) hx hb hr rfl (fun tt ht hW => ⟨⟨_, (), rfl, by rw [if_neg (fun z => by have z := rr_rg_iff.mp z; first | exact absurd z.1 (Int32.not_le.mpr c2) | exact c11 ((rr_dn_iff hk x).mpr z.2.1) | exact c20 ((rr_up_iff hk y).mpr z.2.2))], trivial⟩, hS.F ht⟩) hS.2.2 dX2_isRange_28
      · skip
        refine lv_iconst (v := 1) hx hb dX2_isRange_23 (by decide) ?_
        refine lv_goto (tgt := 28) hx hb dX2_isRange_24 (by decide) ?_
        exact W.zret (v := 1) hx hb hr rfl (fun tt ht hW => ⟨⟨_, (), rfl, by rw [if_pos (rr_rg_iff.mpr ⟨Int32.not_lt.mp c2, (rr_dn_iff hk x).mp c11, (rr_up_iff hk y).mp c20⟩)], trivial⟩, hS.F ht⟩) hS.2.2 dX2_isRange_28
set_option maxHeartbeats 1000000 in
set_option maxRecDepth 100000 in
/-- ones(v) -/
theorem c_X2_ones (l : Launch) (sz : Nat) (v : Int32)  : Met l yX2_ones wsX2_ones ({ frames := 0, cells := 0, slots := 0, locals := 0 }) (rr_p0 [.int v] sz) (va_Ql (fun r (_ : Unit) => r = lN (rr_on v 31 0)) (fun _ _ => True) (va_A [] sz)) 0 0 (va_A [] sz) := by
  refine Met.ofW (cc := cX2_ones) (maxL := 3) (ret := (some .long)) (by decide) rfl ?_
  intro p e s m args below meth c s₁ B hml hv
  obtain ⟨rfl, hsz⟩ := hv
  have hx := B.exec
  have hb := B.bytes
  have hr := B.returns
  have hts := atoms_spec (ws := wsX2_ones) B.pre
  have hown : s.vm.findClass RX2 = some m.cls := findClass_of_methodNamed B.named
  have hlocks := B.notSynchronized
  subst hsz
  generalize hAe : va_A [] s.heap.size = A
  have hA : ∀ q : Nat, s.heap.size ≤ q → A q := fun q h => by rw [← hAe]; exact Or.inr h
  have hS : va_S A s.heap s.heap [] := va_S.rf
  have hP : va_P (fun _ => 0, fun _ _ => 0) vwCl [] s.heap := fun k q h => by simp at h
  have hl := lv_entry ([.int v]) (n := 3) (Nat.le_of_ble_eq_true rfl)
  rw [lg_entry_eq]
  generalize (lg_sl ([.int v]) ++ List.replicate (3 - (lg_sl ([.int v])).length) Slot.unset).toArray = ls at hl ⊢
  have hl : lv_has ls 3 [(0, .int v)] := hl
  refine lv_lconst (v := 0) hx hb dX2_ones_0 (by decide) ?_
  refine lv_lstore_n (lv' := [(1, .long 0), (0, .int v)]) hx hb dX2_ones_1 rfl hl (by decide) rfl (fun ls hl => ?_)
  obtain ⟨x, hx0⟩ : ∃ x : Nat, x = 0 := ⟨_, rfl⟩
  obtain ⟨k, hk0⟩ : ∃ k : Nat, k = 31 := ⟨_, rfl⟩
  replace hl : lv_has ls 3 [(1, .long (lN x)), (0, .int v)] := by rw [hx0]; exact hl
  have hjk : (x + 1) * 2 ^ k = 2147483648 := by subst hx0; subst hk0; decide
  have hon : rr_on v 31 0 = rr_on v k x := by rw [hk0, hx0]
  clear hx0 hk0
  have hxb : x < 2147483648 := by have := Nat.le_mul_of_pos_right (x + 1) (Nat.pow_pos (n := k) (show 0 < 2 by decide)); omega
  induction k generalizing x ls with
  | zero =>
    refine lv_lload_n hx hb dX2_ones_2 rfl (lv_at hl 0 rfl) ?_
    refine lv_iload_n hx hb dX2_ones_3 rfl (lv_at hl 1 rfl) ?_
    refine lv_i2l (v := v.toInt64) hx hb dX2_ones_4 rfl ?_
    refine W.lcmp hx hb dX2_ones_5 ?_
    refine lv_if_ge (tgt := 20) hx hb dX2_ones_6 (by decide) (fun c6 => ?_) (fun c6 => ?_)
    · skip
      refine lv_lload_n hx hb dX2_ones_20 rfl (lv_at hl 0 rfl) ?_
      exact W.lret (v := lN x) hx hb hr (fun tt ht hW => ⟨⟨_, (), rfl, by rw [hon]; rfl, trivial⟩, hS.F ht⟩) hS.2.2 dX2_ones_21
    · skip
      exact absurd ((lg_cmp_ge _ _).mpr ((rr_on_c hxb).mpr (fun z => absurd (Int32.lt_iff_toInt_lt.mp z) (by rw [nI_toInt hxb]; have h1 := (rr_bd v).2; simp at hjk; omega)))) c6
  | succ k ih =>
    refine lv_lload_n hx hb dX2_ones_2 rfl (lv_at hl 0 rfl) ?_
    refine lv_iload_n hx hb dX2_ones_3 rfl (lv_at hl 1 rfl) ?_
    refine lv_i2l (v := v.toInt64) hx hb dX2_ones_4 rfl ?_
    refine W.lcmp hx hb dX2_ones_5 ?_
    refine lv_if_ge (tgt := 20) hx hb dX2_ones_6 (by decide) (fun c6 => ?_) (fun c6 => ?_)
    · skip
      refine lv_lload_n hx hb dX2_ones_20 rfl (lv_at hl 0 rfl) ?_
      exact W.lret (v := lN x) hx hb hr (fun tt ht hW => ⟨⟨_, (), rfl, by rw [hon]; exact congrArg lN (if_neg (c := nI x < v) ((rr_on_c hxb).mp ((lg_cmp_ge _ _).mp c6))).symm, trivial⟩, hS.F ht⟩) hS.2.2 dX2_ones_21
    · skip
      refine lv_ldc2 (v := 2) hx hb hown (hts (.constantLong RX2 92 2) (by decide +kernel)) dX2_ones_9 ?_
      refine lv_lload_n hx hb dX2_ones_12 rfl (lv_at hl 0 rfl) ?_
      refine lv_lmul hx hb dX2_ones_13 ?_
      refine lv_lconst (v := 1) hx hb dX2_ones_14 (by decide) ?_
      refine lv_ladd hx hb dX2_ones_15 ?_
      refine W.eq (congrArg (fun z => F0 m 16 ls (.long z :: [])) (show (2 : Int64) * lN x + 1 = lN (2 * x + 1) by rw [show (2 : Int64) = lN 2 from rfl, lN_mul, lN_1])) ?_
      refine lv_lstore_n (lv' := [(1, .long (lN (2 * x + 1))), (0, .int v)]) hx hb dX2_ones_16 rfl hl (by decide) rfl (fun ls hl => ?_)
      refine lv_goto (tgt := 2) hx hb dX2_ones_17 (by decide) ?_
      have h3 : (x + 1) * 2 ^ (k + 1) = (2 * x + 1 + 1) * 2 ^ k := by
        rw [Nat.pow_succ, Nat.mul_comm (2 ^ k) 2, ← Nat.mul_assoc]
        congr 1
        omega
      rw [h3] at hjk
      exact ih ls (2 * x + 1) (lv_sub hl [0, 1] rfl) hjk (by rw [hon]; exact if_pos (c := nI x < v) (Classical.byContradiction (fun z => c6 ((lg_cmp_ge _ _).mpr ((rr_on_c hxb).mpr z))))) (by have := Nat.le_mul_of_pos_right (2 * x + 1 + 1) (Nat.pow_pos (n := k) (show 0 < 2 by decide)); omega)
set_option maxHeartbeats 1000000 in
set_option maxRecDepth 100000 in
/-- add(w) -/
theorem c_X2_add (l : Launch) (D : va_G) (h0 qT sz : Nat) (cA : ClassId) (f : Nat → Int32) (n t : Nat) (lo hi : Int32) (v : Int64) (hn : n < 187) : Met l yX2_add wsX2_add ({ frames := 0, cells := 0, slots := 0, locals := 0 }) (rr_pW D (rr_wm h0 qT cA f n t lo hi) [(cA, .int)] [.ref h0, .long v] sz) (va_Qv (fun (_ : Unit) => True) (fun _ tt => va_P D vwCl (rr_wm h0 qT cA (rr_al f n v).1 (rr_al f n v).2 t lo hi) tt.heap) (va_A (rr_wm h0 qT cA f n t lo hi) sz)) 0 0 (va_A (rr_wm h0 qT cA f n t lo hi) sz) := by
  refine Met.ofW (cc := cX2_add) (maxL := 4) (ret := none) (by decide) rfl ?_
  intro p e s m args below meth c s₁ B hml hv
  obtain ⟨rfl, hsz, hP, hK, hD0⟩ := hv
  have hx := B.exec
  have hb := B.bytes
  have hr := B.returns
  have hts := atoms_spec (ws := wsX2_add) B.pre
  have hown : s.vm.findClass RX2 = some m.cls := findClass_of_methodNamed B.named
  have hlocks := B.notSynchronized
  subst hsz
  have hD := hD0.self (sz := s.heap.size)
  generalize hAe : va_A [(h0, .inr (2, [.ref qT, .int (nI n), .int (nI t), .int lo, .int hi])), (qT, .inl (cA, 187, .inl f))] s.heap.size = A at hD ⊢
  have hA : ∀ q : Nat, s.heap.size ≤ q → A q := fun q h => by rw [← hAe]; exact Or.inr h
  have hS : va_S A s.heap s.heap [] := va_S.rf
  have hP : va_P D vwCl [(h0, .inr (2, [.ref qT, .int (nI n), .int (nI t), .int lo, .int hi])), (qT, .inl (cA, 187, .inl f))] s.heap := hP
  have hiX2 : ∀ w ∈ wsX20, w ∈ wsX2_add := by decide +kernel
  have hl := lv_entry ([.ref h0, .long v]) (n := 4) (Nat.le_of_ble_eq_true rfl)
  rw [lg_entry_eq]
  generalize (lg_sl ([.ref h0, .long v]) ++ List.replicate (4 - (lg_sl ([.ref h0, .long v])).length) Slot.unset).toArray = ls at hl ⊢
  have hl : lv_has ls 4 [(0, .ref h0), (1, .long v)] := hl
  refine lv_lload_n hx hb dX2_add_0 rfl (lv_at hl 1 rfl) ?_
  refine lv_ldc2 (v := (-2147483648)) hx hb hown (hts (.constantLong RX2 23 (-2147483648)) (by decide +kernel)) dX2_add_1 ?_
  refine W.lcmp hx hb dX2_add_4 ?_
  refine lv_if_lt (tgt := 16) hx hb dX2_add_5 (by decide) (fun c5 => ?_) (fun c5 => ?_)
  · skip
    have ee : rr_al f n v = (f, n) := if_neg (fun z => by first | exact absurd z.1 (Int64.not_le.mpr ((lg_cmp_lt _ _).mp c5)) | exact c13 ((lg_cmp_le _ _).mpr z.2))
    exact W.vret hx hb hr (fun tt ht hW => ⟨⟨(), rfl, trivial, by dsimp only; rw [ht, ee]; exact hP⟩, hS.F ht⟩) hS.2.2 dX2_add_16
  · skip
    refine lv_lload_n hx hb dX2_add_8 rfl (lv_at hl 1 rfl) ?_
    refine lv_ldc2 (v := 2147483647) hx hb hown (hts (.constantLong RX2 33 2147483647) (by decide +kernel)) dX2_add_9 ?_
    refine W.lcmp hx hb dX2_add_12 ?_
    refine lv_if_le (tgt := 17) hx hb dX2_add_13 (by decide) (fun c13 => ?_) (fun c13 => ?_)
    · skip
      refine lv_iconst (v := 0) hx hb dX2_add_17 (by decide) ?_
      refine lv_istore_n (lv' := [(3, .int 0), (0, .ref h0), (1, .long v)]) hx hb dX2_add_18 rfl hl (by decide) rfl (fun ls hl => ?_)
      have hv1 : -2147483648 ≤ v := Int64.not_lt.mp (fun z => c5 ((lg_cmp_lt _ _).mpr z))
      have hv2 : v ≤ 2147483647 := (lg_cmp_le _ _).mp c13
      obtain ⟨i, hi0⟩ : ∃ i : Nat, i = 0 := ⟨_, rfl⟩
      replace hl : lv_has ls 4 [(3, .int (nI i)), (0, .ref h0), (1, .long v)] := by rw [hi0]; exact hl
      have hfd : rr_fd f v.toInt32 i = false := by rw [hi0]; rfl
      obtain ⟨k, hk⟩ : ∃ k : Nat, i + k = n := ⟨n, by omega⟩
      clear hi0
      induction k generalizing i ls with
      | zero =>
        refine lv_iload_n hx hb dX2_add_19 rfl (lv_at hl 0 rfl) ?_
        refine lv_aload_n hx hb dX2_add_20 rfl (lv_at hl 1 rfl) ?_
        refine va_get (D := D) (ci := 2) (v := .int (nI n)) (C := RX2) (T := TX2) (N := 5) hx hb hts hiX2 hown hK hP 0 rfl rfl 1 (by decide) (hts (.fieldLink RX2 20 "RangeRulesModel" "thresholds" "I") (by decide +kernel)) (fun _ h9 => h9) rfl dX2_add_21 ?_
        refine lv_icmp_ge (tgt := 46) hx hb dX2_add_24 (by decide) (fun c24 => ?_) (fun c24 => ?_)
        · skip
          refine lv_aload_n hx hb dX2_add_46 rfl (lv_at hl 1 rfl) ?_
          refine va_get (D := D) (ci := 2) (v := .ref qT) (C := RX2) (T := TX2) (N := 5) hx hb hts hiX2 hown hK hP 0 rfl rfl 0 (by decide) (hts (.fieldLink RX2 9 "RangeRulesModel" "threshold" "[I") (by decide +kernel)) (fun _ h9 => h9) rfl dX2_add_47 ?_
          refine lv_aload_n hx hb dX2_add_50 rfl (lv_at hl 1 rfl) ?_
          refine va_get (D := D) (ci := 2) (v := .int (nI n)) (C := RX2) (T := TX2) (N := 5) hx hb hts hiX2 hown hK hP 0 rfl rfl 1 (by decide) (hts (.fieldLink RX2 20 "RangeRulesModel" "thresholds" "I") (by decide +kernel)) (fun _ h9 => h9) rfl dX2_add_51 ?_
          refine lv_lload_n hx hb dX2_add_54 rfl (lv_at hl 2 rfl) ?_
          refine lv_l2i (v := v.toInt32) hx hb dX2_add_55 rfl ?_
          refine va_iast hx hb hK hP hD hS 1 0 rfl rfl (vp_in_nI (by omega) (by omega)) dX2_add_56 (fun H locs hP hD hS => ?_)
          rw [nI_clamp (by omega)] at hP hD
          have hP : va_P D vwCl [(h0, .inr (2, [.ref qT, .int (nI n), .int (nI t), .int lo, .int hi])), (qT, .inl (cA, 187, .inl (upd f n v.toInt32)))] H := hP
          have hD : va_D A [(h0, .inr (2, [.ref qT, .int (nI n), .int (nI t), .int lo, .int hi])), (qT, .inl (cA, 187, .inl (upd f n v.toInt32)))] := hD
          refine lv_aload_n hx hb dX2_add_57 rfl (lv_at hl 1 rfl) ?_
          refine lv_dup hx hb dX2_add_58 rfl ?_
          refine va_get (D := D) (ci := 2) (v := .int (nI n)) (C := RX2) (T := TX2) (N := 5) hx hb hts hiX2 hown hK hP 0 rfl rfl 1 (by decide) (hts (.fieldLink RX2 20 "RangeRulesModel" "thresholds" "I") (by decide +kernel)) (fun _ h9 => h9) rfl dX2_add_59 ?_
          refine lv_iconst (v := 1) hx hb dX2_add_62 (by decide) ?_
          refine lv_iadd hx hb dX2_add_63 ?_
          refine W.eq (congrArg (fun z => F0 m 64 ls (.int z :: [.ref h0])) (nI_1 n)) ?_
          refine va_put (D := D) (ci := 2) (v := .int (nI (n + 1))) (ty := .int) (C := RX2) (T := TX2) (N := 5) hx hb hts hiX2 tyX2 tyX2_ok nmX2 hown hK hP hD hS 0 rfl rfl 1 (by decide) (hts (.fieldLink RX2 20 "RangeRulesModel" "thresholds" "I") (by decide +kernel)) (fun _ h9 => h9) rfl (by decide +kernel) rfl rfl (Nat.le_of_ble_eq_true rfl) dX2_add_64 (fun H locs hP hD hS => ?_)
          have hP : va_P D vwCl [(h0, .inr (2, [.ref qT, .int (nI (n + 1)), .int (nI t), .int lo, .int hi])), (qT, .inl (cA, 187, .inl (upd f n v.toInt32)))] H := hP
          have hD : va_D A [(h0, .inr (2, [.ref qT, .int (nI (n + 1)), .int (nI t), .int lo, .int hi])), (qT, .inl (cA, 187, .inl (upd f n v.toInt32)))] := hD
          have ee : rr_al f n v = (upd f n v.toInt32, n + 1) := (if_pos ⟨hv1, hv2⟩).trans (if_neg (by rw [← hk]; show ¬ rr_fd f v.toInt32 i = true; rw [hfd]; decide))
          exact W.vret hx hb hr (fun tt ht hW => ⟨⟨(), rfl, trivial, by dsimp only; rw [ht, ee]; exact hP⟩, hS.F ht⟩) hS.2.2 dX2_add_67
        · skip
          exact absurd (nI_le (by omega) (by omega)) c24
      | succ k ih =>
        refine lv_iload_n hx hb dX2_add_19 rfl (lv_at hl 0 rfl) ?_
        refine lv_aload_n hx hb dX2_add_20 rfl (lv_at hl 1 rfl) ?_
        refine va_get (D := D) (ci := 2) (v := .int (nI n)) (C := RX2) (T := TX2) (N := 5) hx hb hts hiX2 hown hK hP 0 rfl rfl 1 (by decide) (hts (.fieldLink RX2 20 "RangeRulesModel" "thresholds" "I") (by decide +kernel)) (fun _ h9 => h9) rfl dX2_add_21 ?_
        refine lv_icmp_ge (tgt := 46) hx hb dX2_add_24 (by decide) (fun c24 => ?_) (fun c24 => ?_)
        · skip
          exact absurd c24 (nI_ge (by omega) (by omega))
        · skip
          refine lv_aload_n hx hb dX2_add_27 rfl (lv_at hl 1 rfl) ?_
          refine va_get (D := D) (ci := 2) (v := .ref qT) (C := RX2) (T := TX2) (N := 5) hx hb hts hiX2 hown hK hP 0 rfl rfl 0 (by decide) (hts (.fieldLink RX2 9 "RangeRulesModel" "threshold" "[I") (by decide +kernel)) (fun _ h9 => h9) rfl dX2_add_28 ?_
          refine lv_iload_n hx hb dX2_add_31 rfl (lv_at hl 0 rfl) ?_
          refine va_iald hx hb hK hP 1 0 rfl rfl (vp_in_nI (by omega) (by omega)) dX2_add_32 ?_
          refine W.eq (congrArg (fun z => F0 m 33 ls (.int z :: [])) (congrArg f (nI_clamp (by omega)))) ?_
          refine lv_i2l (v := (f i).toInt64) hx hb dX2_add_33 rfl ?_
          refine lv_lload_n hx hb dX2_add_34 rfl (lv_at hl 2 rfl) ?_
          refine W.lcmp hx hb dX2_add_35 ?_
          refine lv_if_ne (tgt := 40) hx hb dX2_add_36 (by decide) (fun c36 => ?_) (fun c36 => ?_)
          · skip
            refine lv_iinc (v := nI (i + 1)) (lv' := [(3, .int (nI (i + 1))), (0, .ref h0), (1, .long v)]) hx hb dX2_add_40 hl (k := 0) rfl (nI_1 i) (by decide) rfl (fun ls hl => ?_)
            refine lv_goto (tgt := 19) hx hb dX2_add_43 (by decide) ?_
            exact ih ls (i + 1) (lv_sub hl [0, 1, 2] rfl) (by show (rr_fd f v.toInt32 i || decide (f i = v.toInt32)) = false; rw [hfd, decide_eq_false (fun z => c36 ((lg_cmp_eq _ _).mpr ((rr_wi32 hv1 hv2 _).mpr z)))]; rfl) (by omega)
          · skip
            have ee : rr_al f n v = (f, n) := (if_pos ⟨hv1, hv2⟩).trans (if_pos (rr_fd_of (j := i) (by omega) ((rr_wi32 hv1 hv2 _).mp ((lg_cmp_eq _ _).mp c36))))
            exact W.vret hx hb hr (fun tt ht hW => ⟨⟨(), rfl, trivial, by dsimp only; rw [ht, ee]; exact hP⟩, hS.F ht⟩) hS.2.2 dX2_add_39
    · skip
      have ee : rr_al f n v = (f, n) := if_neg (fun z => by first | exact absurd z.1 (Int64.not_le.mpr ((lg_cmp_lt _ _).mp c5)) | exact c13 ((lg_cmp_le _ _).mpr z.2))
      exact W.vret hx hb hr (fun tt ht hW => ⟨⟨(), rfl, trivial, by dsimp only; rw [ht, ee]; exact hP⟩, hS.F ht⟩) hS.2.2 dX2_add_16
