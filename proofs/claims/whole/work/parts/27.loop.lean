theorem rr_vZ {s : State} {H : Heap} {D : va_G} {ws : va_W} {A : Nat → Prop} {tys : List (ClassId × FieldType)} {C : String} {b t0 : Nat} {As : List Value} {locs : List Loc} (hst : rr_st t0 A s) (hS : va_S A s.heap H locs) (hF : ∀ q, va_A ws H.size q → A q) (hK : va_K D vwCl tys s) (hP : va_P D vwCl ws H) (hD : va_D A ws) (hr : ∃ cell : Cell, H[b]? = some cell ∧ cell.vm.isStatics = false ∧ s.vm.findClass C = some cell.cls) : PreV s H C b (rr_pZ D ws tys t0 (.ref b :: As) H.size) As :=
  ⟨rr_bZ, hr, fun U hU hW => ⟨rfl, by rw [hU], by rw [hU]; exact hP, va_K.moved hW.alike hK, hD.weaken (fun _ _ _ _ => trivial), hst.at hS hF hU hW⟩⟩
theorem rr_vI {s : State} {H : Heap} {D : va_G} {ws : va_W} {A : Nat → Prop} {tys : List (ClassId × FieldType)} {t0 : Nat} {As : List Value} {locs : List Loc} (hst : rr_st t0 A s) (hS : va_S A s.heap H locs) (hF : ∀ q, va_A ws H.size q → A q) (hN : va_Nw (.methodLinkNest RX1 37 yX0_init RX1) s) (hK : va_K D vwCl tys s) (hP : va_P D vwCl ws H) (hD : va_D A ws) : PreS s H (rr_pI D ws tys t0 As H.size) As :=
  ⟨rr_bI, fun U hU hW => ⟨rfl, by rw [hU], by rw [hU]; exact hP, va_K.moved hW.alike hK, hD.weaken (fun _ _ _ _ => trivial), hst.at hS hF hU hW, va_Nw.warmM hW hN⟩⟩
set_option maxHeartbeats 1000000 in
set_option maxRecDepth 100000 in
/-- the loop of the law -/
theorem rr_loop {p : Program} {l : Launch} {e : Env} {s : State} {m : MethodId} {below : List Frame} {meth : Method} {c : Code} {D : va_G} {b L : Nat} {xs : Nat → Int32} {A : Nat → Prop} {qX qT qS qM qU t0 : Nat} {cX cM : ClassId} (hL : L ≤ 3072) (C0 : lw_At p s m meth c b L xs) (hA : ∀ q, s.heap.size ≤ q → A q) (hA2 : ∀ q, A q → s.heap.size ≤ q) (hN : rr_N s) (hst : rr_st t0 A s) (hK : va_K D vwCl [(cX, .int), (cM, .int)] s) : ∀ (k i : Nat) (f g : Nat → Int32) (n t : Nat) (lo hi : Int32) (y z : Int64), i ≤ L → L + 1 ≤ i + k → rr_iv f g n t → ∀ (H : Heap) (locs : List Loc), va_P D vwCl [(qX, .inr (1, [.ref qT, .int (nI n), .int (nI t), .int lo, .int hi, .ref qS])), (qT, .inl (cX, 187, .inl f)), (qS, .inr (0, [.long y, .long z])), (qM, .inr (2, [.ref qU, .int (nI n), .int (nI t), .int lo, .int hi])), (qU, .inl (cM, 187, .inl g))] H → va_D A [(qX, .inr (1, [.ref qT, .int (nI n), .int (nI t), .int lo, .int hi, .ref qS])), (qT, .inl (cX, 187, .inl f)), (qS, .inr (0, [.long y, .long z])), (qM, .inr (2, [.ref qU, .int (nI n), .int (nI t), .int lo, .int hi])), (qU, .inl (cM, 187, .inl g))] → va_S A s.heap H locs → ∀ (ls : Array Slot), lv_has ls 4 [(3, .int (nI i)), (2, .ref qM), (1, .ref qX), (0, .ref b)] → W p l e room_1 s m #[Value.ref b] below meth c H locs 5 387 (lw_Z below #[Value.ref b] s) (F0 m 18 ls []) := by
  obtain ⟨hx, hb, hr, hml, hown0, hts0, hX, hXl, hlocks, hgv⟩ := C0
  have hown : s.vm.findClass RL = some m.cls := hown0
  have hts : ∀ w ∈ wsL_law, w.before #[Value.ref b] s = true := fun w h => hts0 w (wsL_law_in w h)
  have hXA : ¬ A b := fun h => absurd (hA2 b h) (Nat.not_le.mpr hXl)
  intro k
  induction k with
  | zero =>
    intro i f g n t lo hi y z h1 h2
    exact absurd h2 (by omega)
  | succ k ih =>
    intro i f g n t lo hi y z hi0 hk0 hiv H locs hP hD hS ls hl
    refine lv_iload_n hx hb dL_law_18 rfl (lv_at hl 0 rfl) ?_
    refine lv_aload_n hx hb dL_law_19 rfl (lv_at hl 3 rfl) ?_
    refine va_slen hx hb hX hXl hXA hS dL_law_20 ?_
    refine W.eq (g2 := F0 m 21 ls [.int (Int32.ofNat L), .int (nI i)]) rfl ?_
    refine lv_bipush (v := 6) hx hb dL_law_21 (by decide) ?_
    refine lv_isub hx hb dL_law_23 ?_
    refine lv_icmp_gt (tgt := 305) hx hb dL_law_24 (by decide) (fun c24 => ?_) (fun c24 => ?_)
    · skip
      refine lv_iconst (v := 1) hx hb dL_law_305 (by decide) ?_
      refine va_forget (fun q hq => hA2 _ (hS.2.2 q hq)) ?_
      refine W.widen (k := 600000) (n := 7302250) (Nat.le_of_ble_eq_true rfl) (Nat.le_of_ble_eq_true rfl) ?_
      exact lw_ret hx hb hr hlocks dL_law_306
    · skip
      have hlt : i + 6 ≤ L := rr_6 hi0 hL c24
      refine lv_aload_n hx hb dL_law_27 rfl (lv_at hl 3 rfl) ?_
      refine lv_iload_n hx hb dL_law_28 rfl (lv_at hl 0 rfl) ?_
      refine va_sld hx hb hX hXl hXA hS (vp_in_nI (by omega) (by omega)) dL_law_29 ?_
      refine W.eq (congrArg (fun z => F0 m 30 ls (.int z :: [])) (congrArg xs (nI_clamp (by omega)))) ?_
      refine lv_bipush (v := 15) hx hb dL_law_30 (by decide) ?_
      refine lv_iand hx hb dL_law_32 ?_
      obtain ⟨j, hj, ej⟩ := pk_andE (xs i) (m := 15) 4 (by decide)
      have hj : j < 16 := hj
      refine W.eq (congrArg (fun z => F0 m 33 ls (.int z :: [])) (ej)) ?_
      clear ej
      rcases (show j = 0 ∨ j = 1 ∨ j = 2 ∨ j = 3 ∨ j = 4 ∨ j = 5 ∨ j = 6 ∨ j = 7 ∨ j = 8 ∨ 9 ≤ j by omega) with rfl | rfl | rfl | rfl | rfl | rfl | rfl | rfl | rfl | h9
      · skip
        refine lv_tableIn (off := 51) (tgt := 84) hx hb dL_law_33 (by decide) (by decide) (by decide +kernel) (by decide) ?_
        refine lv_aload_n hx hb dL_law_84 rfl (lv_at hl 2 rfl) ?_
        refine lv_aload_n hx hb dL_law_85 rfl (lv_at hl 3 rfl) ?_
        refine lv_iload_n hx hb dL_law_86 rfl (lv_at hl 0 rfl) ?_
        refine lv_iconst (v := 1) hx hb dL_law_87 (by decide) ?_
        refine lv_iadd hx hb dL_law_88 ?_
        refine W.eq (congrArg (fun z => F0 m 89 ls (.int z :: [.ref b, .ref qX])) (nI_1 i)) ?_
        refine va_sld hx hb hX hXl hXA hS (vp_in_nI (by omega) (by omega)) dL_law_89 ?_
        refine W.eq (congrArg (fun z => F0 m 90 ls (.int z :: [.ref qX])) (congrArg xs (nI_clamp (by omega)))) ?_
        have hPc := hP.sub (ws' := [(qX, .inr (1, [.ref qT, .int (nI n), .int (nI t), .int lo, .int hi, .ref qS])), (qT, .inl (cX, 187, .inl f)), (qS, .inr (0, [.long y, .long z]))]) [0, 1, 2] rfl
        have hDc := hD.sub (ws' := [(qX, .inr (1, [.ref qT, .int (nI n), .int (nI t), .int lo, .int hi, .ref qS])), (qT, .inl (cX, 187, .inl f)), (qS, .inr (0, [.long y, .long z]))]) [0, 1, 2] (by decide) rfl
        have hKc := hK.sub (tys' := [(cX, .int)]) [0] rfl
        refine rr_wi (wr := [(qM, .inr (2, [.ref qU, .int (nI n), .int (nI t), .int lo, .int hi])), (qU, .inl (cM, 187, .inl g))]) [0, 1, 2] [3, 4] (va_runV (As := [.int (xs (i + 1))]) (rest := []) ⟨hx, hb, hml, hown, hts⟩ (c_X1_around l D qX qT qS H.size cX f n t lo hi y z (xs (i + 1)) hiv.2.1 hiv.2.2.1 hiv.2.2.2) (cwV 1 hts gL_law_X1_around rfl rfl rfl (by decide +kernel) ⟨Nat.le_of_ble_eq_true rfl, Nat.le_of_ble_eq_true rfl⟩) (rr_vW hKc hPc hDc (va_recv hKc hPc (ci := 1) (q0 := 0) rfl rfl)) rfl rfl hl.1 rfl (lv_room (Nat.le_of_ble_eq_true rfl)) dL_law_90 ⟨Nat.le_of_ble_eq_true rfl, Nat.le_of_ble_eq_true rfl⟩) hS hA hP hD rfl rfl (by decide) (by decide) (by decide) (fun _ => by simp only [rr_wx, rr_wm, List.map_cons, List.map_nil]) (fun r90 u90 H locs e90 hP hD hS => ?_)
        have hP : va_P D vwCl [(qX, .inr (1, [.ref qT, .int (nI (if t = 60 then n else (rr_ar f n (xs (i + 1))).2)), .int (nI (if t = 60 then t else t + 1)), .int lo, .int hi, .ref qS])), (qT, .inl (cX, 187, .inl (if t = 60 then f else (rr_ar f n (xs (i + 1))).1))), (qS, .inr (0, [.long y, .long z])), (qM, .inr (2, [.ref qU, .int (nI n), .int (nI t), .int lo, .int hi])), (qU, .inl (cM, 187, .inl g))] H := hP.sub [2, 3, 4, 0, 1] rfl
        have hD : va_D A [(qX, .inr (1, [.ref qT, .int (nI (if t = 60 then n else (rr_ar f n (xs (i + 1))).2)), .int (nI (if t = 60 then t else t + 1)), .int lo, .int hi, .ref qS])), (qT, .inl (cX, 187, .inl (if t = 60 then f else (rr_ar f n (xs (i + 1))).1))), (qS, .inr (0, [.long y, .long z])), (qM, .inr (2, [.ref qU, .int (nI n), .int (nI t), .int lo, .int hi])), (qU, .inl (cM, 187, .inl g))] := hD.sub [2, 3, 4, 0, 1] (by decide) rfl
        subst e90
        refine lv_aload_n hx hb dL_law_93 rfl (lv_at hl 1 rfl) ?_
        refine lv_aload_n hx hb dL_law_94 rfl (lv_at hl 3 rfl) ?_
        refine lv_iload_n hx hb dL_law_95 rfl (lv_at hl 0 rfl) ?_
        refine lv_iconst (v := 1) hx hb dL_law_96 (by decide) ?_
        refine lv_iadd hx hb dL_law_97 ?_
        refine W.eq (congrArg (fun z => F0 m 98 ls (.int z :: [.ref b, .ref qM, .int (if t = 60 then -1 else nI (rr_ar f n (xs (i + 1))).2)])) (nI_1 i)) ?_
        refine va_sld hx hb hX hXl hXA hS (vp_in_nI (by omega) (by omega)) dL_law_98 ?_
        refine W.eq (congrArg (fun z => F0 m 99 ls (.int z :: [.ref qM, .int (if t = 60 then -1 else nI (rr_ar f n (xs (i + 1))).2)])) (congrArg xs (nI_clamp (by omega)))) ?_
        have hPc := hP.sub (ws' := [(qM, .inr (2, [.ref qU, .int (nI n), .int (nI t), .int lo, .int hi])), (qU, .inl (cM, 187, .inl g))]) [3, 4] rfl
        have hDc := hD.sub (ws' := [(qM, .inr (2, [.ref qU, .int (nI n), .int (nI t), .int lo, .int hi])), (qU, .inl (cM, 187, .inl g))]) [3, 4] (by decide) rfl
        have hKc := hK.sub (tys' := [(cM, .int)]) [1] rfl
        refine rr_wi (wr := [(qX, .inr (1, [.ref qT, .int (nI (if t = 60 then n else (rr_ar f n (xs (i + 1))).2)), .int (nI (if t = 60 then t else t + 1)), .int lo, .int hi, .ref qS])), (qT, .inl (cX, 187, .inl (if t = 60 then f else (rr_ar f n (xs (i + 1))).1))), (qS, .inr (0, [.long y, .long z]))]) [3, 4] [0, 1, 2] (va_runV (As := [.int (xs (i + 1))]) (rest := [.int (if t = 60 then -1 else nI (rr_ar f n (xs (i + 1))).2)]) ⟨hx, hb, hml, hown, hts⟩ (c_X2_around l D qM qU H.size cM g n t lo hi (xs (i + 1)) hiv.ok hiv.2.2.1 hiv.2.2.2) (cwV 1 hts gL_law_X2_around rfl rfl rfl (by decide +kernel) ⟨Nat.le_of_ble_eq_true rfl, Nat.le_of_ble_eq_true rfl⟩) (rr_vW hKc hPc hDc (va_recv hKc hPc (ci := 2) (q0 := 0) rfl rfl)) rfl rfl hl.1 rfl (lv_room (Nat.le_of_ble_eq_true rfl)) dL_law_99 ⟨Nat.le_of_ble_eq_true rfl, Nat.le_of_ble_eq_true rfl⟩) hS hA hP hD rfl rfl (by decide) (by decide) (by decide) (fun _ => by simp only [rr_wx, rr_wm, List.map_cons, List.map_nil]) (fun r99 u99 H locs e99 hP hD hS => ?_)
        have hP : va_P D vwCl [(qX, .inr (1, [.ref qT, .int (nI (if t = 60 then n else (rr_ar f n (xs (i + 1))).2)), .int (nI (if t = 60 then t else t + 1)), .int lo, .int hi, .ref qS])), (qT, .inl (cX, 187, .inl (if t = 60 then f else (rr_ar f n (xs (i + 1))).1))), (qS, .inr (0, [.long y, .long z])), (qM, .inr (2, [.ref qU, .int (nI (if t = 60 then n else (rr_ar g n (xs (i + 1))).2)), .int (nI (if t = 60 then t else t + 1)), .int lo, .int hi])), (qU, .inl (cM, 187, .inl (if t = 60 then g else (rr_ar g n (xs (i + 1))).1)))] H := hP
        have hD : va_D A [(qX, .inr (1, [.ref qT, .int (nI (if t = 60 then n else (rr_ar f n (xs (i + 1))).2)), .int (nI (if t = 60 then t else t + 1)), .int lo, .int hi, .ref qS])), (qT, .inl (cX, 187, .inl (if t = 60 then f else (rr_ar f n (xs (i + 1))).1))), (qS, .inr (0, [.long y, .long z])), (qM, .inr (2, [.ref qU, .int (nI (if t = 60 then n else (rr_ar g n (xs (i + 1))).2)), .int (nI (if t = 60 then t else t + 1)), .int lo, .int hi])), (qU, .inl (cM, 187, .inl (if t = 60 then g else (rr_ar g n (xs (i + 1))).1)))] := hD
        subst e99
        refine lv_icmp_eq (tgt := 299) hx hb dL_law_102 (by decide) (fun c102 => ?_) (fun c102 => ?_)
        · skip
          have en := (rr_ar_c (v := xs (i + 1)) hiv.1).1
          rw [← en] at hP hD
          have hP : va_P D vwCl [(qX, .inr (1, [.ref qT, .int (nI (if t = 60 then n else (rr_ar f n (xs (i + 1))).2)), .int (nI (if t = 60 then t else t + 1)), .int lo, .int hi, .ref qS])), (qT, .inl (cX, 187, .inl (if t = 60 then f else (rr_ar f n (xs (i + 1))).1))), (qS, .inr (0, [.long y, .long z])), (qM, .inr (2, [.ref qU, .int (nI (if t = 60 then n else (rr_ar f n (xs (i + 1))).2)), .int (nI (if t = 60 then t else t + 1)), .int lo, .int hi])), (qU, .inl (cM, 187, .inl (if t = 60 then g else (rr_ar g n (xs (i + 1))).1)))] H := hP
          have hD : va_D A [(qX, .inr (1, [.ref qT, .int (nI (if t = 60 then n else (rr_ar f n (xs (i + 1))).2)), .int (nI (if t = 60 then t else t + 1)), .int lo, .int hi, .ref qS])), (qT, .inl (cX, 187, .inl (if t = 60 then f else (rr_ar f n (xs (i + 1))).1))), (qS, .inr (0, [.long y, .long z])), (qM, .inr (2, [.ref qU, .int (nI (if t = 60 then n else (rr_ar f n (xs (i + 1))).2)), .int (nI (if t = 60 then t else t + 1)), .int lo, .int hi])), (qU, .inl (cM, 187, .inl (if t = 60 then g else (rr_ar g n (xs (i + 1))).1)))] := hD
          refine lv_iinc (v := nI (i + 6)) (lv' := [(3, .int (nI (i + 6))), (2, .ref qM), (1, .ref qX), (0, .ref b)]) hx hb dL_law_299 hl (k := 0) rfl (nI_add i 6) (by decide) rfl (fun ls hl => ?_)
          refine lv_goto (tgt := 18) hx hb dL_law_302 (by decide) ?_
          exact ih (i + 6) (if t = 60 then f else (rr_ar f n (xs (i + 1))).1) (if t = 60 then g else (rr_ar g n (xs (i + 1))).1) (if t = 60 then n else (rr_ar f n (xs (i + 1))).2) (if t = 60 then t else t + 1) lo hi y z (by omega) (by omega) (hiv.ar (xs (i + 1))) H locs hP hD hS ls (lv_sub hl [0, 1, 2, 3] rfl)
        · skip
          exact absurd (by rw [(rr_ar_c (v := xs (i + 1)) hiv.1).1]) c102
      · skip
        refine lv_tableIn (off := 74) (tgt := 107) hx hb dL_law_33 (by decide) (by decide) (by decide +kernel) (by decide) ?_
        refine lv_aload_n hx hb dL_law_107 rfl (lv_at hl 2 rfl) ?_
        have hPc := hP.sub (ws' := [(qX, .inr (1, [.ref qT, .int (nI n), .int (nI t), .int lo, .int hi, .ref qS])), (qT, .inl (cX, 187, .inl f)), (qS, .inr (0, [.long y, .long z]))]) [0, 1, 2] rfl
        have hDc := hD.sub (ws' := [(qX, .inr (1, [.ref qT, .int (nI n), .int (nI t), .int lo, .int hi, .ref qS])), (qT, .inl (cX, 187, .inl f)), (qS, .inr (0, [.long y, .long z]))]) [0, 1, 2] (by decide) rfl
        have hKc := hK.sub (tys' := [(cX, .int)]) [0] rfl
        refine rr_wv (wr := [(qM, .inr (2, [.ref qU, .int (nI n), .int (nI t), .int lo, .int hi])), (qU, .inl (cM, 187, .inl g))]) [0, 1, 2] [3, 4] (va_runV (As := []) (rest := []) ⟨hx, hb, hml, hown, hts⟩ (c_X1_clear l D qX qT qS H.size cX f n t lo hi y z   t0) (cwV 0 hts gL_law_X1_clear rfl rfl rfl (by decide +kernel) ⟨Nat.le_of_ble_eq_true rfl, Nat.le_of_ble_eq_true rfl⟩) (rr_vZ hst hS (va_free (wc := [(qX, .inr (1, [.ref qT, .int (nI n), .int (nI t), .int lo, .int hi, .ref qS])), (qT, .inl (cX, 187, .inl f)), (qS, .inr (0, [.long y, .long z]))]) hD hS hA [0, 1, 2] rfl) hKc hPc hDc (va_recv hKc hPc (ci := 1) (q0 := 0) rfl rfl)) rfl rfl hl.1 rfl (lv_room (Nat.le_of_ble_eq_true rfl)) dL_law_108 ⟨Nat.le_of_ble_eq_true rfl, Nat.le_of_ble_eq_true rfl⟩) hS hA hP hD rfl rfl (by decide) (by decide) (by decide) (fun _ => by simp only [rr_wx, rr_wm, List.map_cons, List.map_nil]) (fun u108 H locs e108 hP hD hS => ?_)
        have hP : va_P D vwCl [(qX, .inr (1, [.ref qT, .int (nI 7), .int (nI 0), .int lo, .int hi, .ref qS])), (qT, .inl (cX, 187, .inl f)), (qS, .inr (0, [.long y, .long z])), (qM, .inr (2, [.ref qU, .int (nI n), .int (nI t), .int lo, .int hi])), (qU, .inl (cM, 187, .inl g))] H := hP.sub [2, 3, 4, 0, 1] rfl
        have hD : va_D A [(qX, .inr (1, [.ref qT, .int (nI 7), .int (nI 0), .int lo, .int hi, .ref qS])), (qT, .inl (cX, 187, .inl f)), (qS, .inr (0, [.long y, .long z])), (qM, .inr (2, [.ref qU, .int (nI n), .int (nI t), .int lo, .int hi])), (qU, .inl (cM, 187, .inl g))] := hD.sub [2, 3, 4, 0, 1] (by decide) rfl
        refine lv_aload_n hx hb dL_law_111 rfl (lv_at hl 1 rfl) ?_
        have hPc := hP.sub (ws' := [(qM, .inr (2, [.ref qU, .int (nI n), .int (nI t), .int lo, .int hi])), (qU, .inl (cM, 187, .inl g))]) [3, 4] rfl
        have hDc := hD.sub (ws' := [(qM, .inr (2, [.ref qU, .int (nI n), .int (nI t), .int lo, .int hi])), (qU, .inl (cM, 187, .inl g))]) [3, 4] (by decide) rfl
        have hKc := hK.sub (tys' := [(cM, .int)]) [1] rfl
        refine rr_wv (wr := [(qX, .inr (1, [.ref qT, .int (nI 7), .int (nI 0), .int lo, .int hi, .ref qS])), (qT, .inl (cX, 187, .inl f)), (qS, .inr (0, [.long y, .long z]))]) [3, 4] [0, 1, 2] (va_runV (As := []) (rest := []) ⟨hx, hb, hml, hown, hts⟩ (c_X2_clear l D qM qU H.size cM g n t lo hi) (cwV 0 hts gL_law_X2_clear rfl rfl rfl (by decide +kernel) ⟨Nat.le_of_ble_eq_true rfl, Nat.le_of_ble_eq_true rfl⟩) (rr_vW hKc hPc hDc (va_recv hKc hPc (ci := 2) (q0 := 0) rfl rfl)) rfl rfl hl.1 rfl (lv_room (Nat.le_of_ble_eq_true rfl)) dL_law_112 ⟨Nat.le_of_ble_eq_true rfl, Nat.le_of_ble_eq_true rfl⟩) hS hA hP hD rfl rfl (by decide) (by decide) (by decide) (fun _ => by simp only [rr_wx, rr_wm, List.map_cons, List.map_nil]) (fun u112 H locs e112 hP hD hS => ?_)
        have hP : va_P D vwCl [(qX, .inr (1, [.ref qT, .int (nI 7), .int (nI 0), .int lo, .int hi, .ref qS])), (qT, .inl (cX, 187, .inl f)), (qS, .inr (0, [.long y, .long z])), (qM, .inr (2, [.ref qU, .int (nI 7), .int (nI 0), .int lo, .int hi])), (qU, .inl (cM, 187, .inl u112))] H := hP
        have hD : va_D A [(qX, .inr (1, [.ref qT, .int (nI 7), .int (nI 0), .int lo, .int hi, .ref qS])), (qT, .inl (cX, 187, .inl f)), (qS, .inr (0, [.long y, .long z])), (qM, .inr (2, [.ref qU, .int (nI 7), .int (nI 0), .int lo, .int hi])), (qU, .inl (cM, 187, .inl u112))] := hD
        refine lv_goto (tgt := 299) hx hb dL_law_115 (by decide) ?_
        refine lv_iinc (v := nI (i + 6)) (lv' := [(3, .int (nI (i + 6))), (2, .ref qM), (1, .ref qX), (0, .ref b)]) hx hb dL_law_299 hl (k := 0) rfl (nI_add i 6) (by decide) rfl (fun ls hl => ?_)
        refine lv_goto (tgt := 18) hx hb dL_law_302 (by decide) ?_
        exact ih (i + 6) f u112 7 0 lo hi y z (by omega) (by omega) (hiv.cl e112) H locs hP hD hS ls (lv_sub hl [0, 1, 2, 3] rfl)
      · skip
        refine lv_tableIn (off := 85) (tgt := 118) hx hb dL_law_33 (by decide) (by decide) (by decide +kernel) (by decide) ?_
        refine lv_aload_n hx hb dL_law_118 rfl (lv_at hl 2 rfl) ?_
        have hPc := hP.sub (ws' := [(qX, .inr (1, [.ref qT, .int (nI n), .int (nI t), .int lo, .int hi, .ref qS])), (qT, .inl (cX, 187, .inl f)), (qS, .inr (0, [.long y, .long z]))]) [0, 1, 2] rfl
        have hDc := hD.sub (ws' := [(qX, .inr (1, [.ref qT, .int (nI n), .int (nI t), .int lo, .int hi, .ref qS])), (qT, .inl (cX, 187, .inl f)), (qS, .inr (0, [.long y, .long z]))]) [0, 1, 2] (by decide) rfl
        have hKc := hK.sub (tys' := [(cX, .int)]) [0] rfl
        refine rr_ri (va_runV (As := []) (rest := []) ⟨hx, hb, hml, hown, hts⟩ (c_X1_size l D qX qT qS H.size cX f n t lo hi y z) (cwV 0 hts gL_law_X1_size rfl rfl rfl (by decide +kernel) ⟨Nat.le_of_ble_eq_true rfl, Nat.le_of_ble_eq_true rfl⟩) (rr_vR hKc hPc (va_recv hKc hPc (ci := 1) (q0 := 0) rfl rfl)) rfl rfl hl.1 rfl (lv_room (Nat.le_of_ble_eq_true rfl)) dL_law_119 ⟨Nat.le_of_ble_eq_true rfl, Nat.le_of_ble_eq_true rfl⟩) hS hA hP (fun r119 H locs e119 hP hS => ?_)
        replace e119 := e119.symm
        subst e119
        refine lv_aload_n hx hb dL_law_122 rfl (lv_at hl 1 rfl) ?_
        have hPc := hP.sub (ws' := [(qM, .inr (2, [.ref qU, .int (nI n), .int (nI t), .int lo, .int hi])), (qU, .inl (cM, 187, .inl g))]) [3, 4] rfl
        have hDc := hD.sub (ws' := [(qM, .inr (2, [.ref qU, .int (nI n), .int (nI t), .int lo, .int hi])), (qU, .inl (cM, 187, .inl g))]) [3, 4] (by decide) rfl
        have hKc := hK.sub (tys' := [(cM, .int)]) [1] rfl
        refine rr_ri (va_runV (As := []) (rest := [.int (nI n)]) ⟨hx, hb, hml, hown, hts⟩ (c_X2_size l D qM qU H.size cM g n t lo hi) (cwV 0 hts gL_law_X2_size rfl rfl rfl (by decide +kernel) ⟨Nat.le_of_ble_eq_true rfl, Nat.le_of_ble_eq_true rfl⟩) (rr_vR hKc hPc (va_recv hKc hPc (ci := 2) (q0 := 0) rfl rfl)) rfl rfl hl.1 rfl (lv_room (Nat.le_of_ble_eq_true rfl)) dL_law_123 ⟨Nat.le_of_ble_eq_true rfl, Nat.le_of_ble_eq_true rfl⟩) hS hA hP (fun r123 H locs e123 hP hS => ?_)
        replace e123 := e123.symm
        subst e123
        refine lv_icmp_eq (tgt := 299) hx hb dL_law_126 (by decide) (fun c126 => ?_) (fun c126 => ?_)
        · skip
          refine lv_iinc (v := nI (i + 6)) (lv' := [(3, .int (nI (i + 6))), (2, .ref qM), (1, .ref qX), (0, .ref b)]) hx hb dL_law_299 hl (k := 0) rfl (nI_add i 6) (by decide) rfl (fun ls hl => ?_)
          refine lv_goto (tgt := 18) hx hb dL_law_302 (by decide) ?_
          exact ih (i + 6) f g n t lo hi y z (by omega) (by omega) hiv H locs hP hD hS ls (lv_sub hl [0, 1, 2, 3] rfl)
        · skip
          exact absurd (rfl) c126
      · skip
        refine lv_tableIn (off := 98) (tgt := 131) hx hb dL_law_33 (by decide) (by decide) (by decide +kernel) (by decide) ?_
        refine lv_aload_n hx hb dL_law_131 rfl (lv_at hl 2 rfl) ?_
        refine lv_aload_n hx hb dL_law_132 rfl (lv_at hl 3 rfl) ?_
        refine lv_iload_n hx hb dL_law_133 rfl (lv_at hl 0 rfl) ?_
        refine lv_iconst (v := 1) hx hb dL_law_134 (by decide) ?_
        refine lv_iadd hx hb dL_law_135 ?_
        refine W.eq (congrArg (fun z => F0 m 136 ls (.int z :: [.ref b, .ref qX])) (nI_1 i)) ?_
        refine va_sld hx hb hX hXl hXA hS (vp_in_nI (by omega) (by omega)) dL_law_136 ?_
        refine W.eq (congrArg (fun z => F0 m 137 ls (.int z :: [.ref qX])) (congrArg xs (nI_clamp (by omega)))) ?_
        have hPc := hP.sub (ws' := [(qX, .inr (1, [.ref qT, .int (nI n), .int (nI t), .int lo, .int hi, .ref qS])), (qT, .inl (cX, 187, .inl f)), (qS, .inr (0, [.long y, .long z]))]) [0, 1, 2] rfl
        have hDc := hD.sub (ws' := [(qX, .inr (1, [.ref qT, .int (nI n), .int (nI t), .int lo, .int hi, .ref qS])), (qT, .inl (cX, 187, .inl f)), (qS, .inr (0, [.long y, .long z]))]) [0, 1, 2] (by decide) rfl
        have hKc := hK.sub (tys' := [(cX, .int)]) [0] rfl
        refine rr_ri (va_runV (As := [.int (xs (i + 1))]) (rest := []) ⟨hx, hb, hml, hown, hts⟩ (c_X1_down l D qX qT qS H.size cX f n t lo hi y z (xs (i + 1)) hiv.le) (cwV 1 hts gL_law_X1_down rfl rfl rfl (by decide +kernel) ⟨Nat.le_of_ble_eq_true rfl, Nat.le_of_ble_eq_true rfl⟩) (rr_vR hKc hPc (va_recv hKc hPc (ci := 1) (q0 := 0) rfl rfl)) rfl rfl hl.1 rfl (lv_room (Nat.le_of_ble_eq_true rfl)) dL_law_137 ⟨Nat.le_of_ble_eq_true rfl, Nat.le_of_ble_eq_true rfl⟩) hS hA hP (fun r137 H locs e137 hP hS => ?_)
        replace e137 := e137.symm
        subst e137
        refine lv_aload_n hx hb dL_law_140 rfl (lv_at hl 1 rfl) ?_
        refine lv_aload_n hx hb dL_law_141 rfl (lv_at hl 3 rfl) ?_
        refine lv_iload_n hx hb dL_law_142 rfl (lv_at hl 0 rfl) ?_
        refine lv_iconst (v := 1) hx hb dL_law_143 (by decide) ?_
        refine lv_iadd hx hb dL_law_144 ?_
        refine W.eq (congrArg (fun z => F0 m 145 ls (.int z :: [.ref b, .ref qM, .int (rr_dn f (xs (i + 1)) n)])) (nI_1 i)) ?_
        refine va_sld hx hb hX hXl hXA hS (vp_in_nI (by omega) (by omega)) dL_law_145 ?_
        refine W.eq (congrArg (fun z => F0 m 146 ls (.int z :: [.ref qM, .int (rr_dn f (xs (i + 1)) n)])) (congrArg xs (nI_clamp (by omega)))) ?_
        have hPc := hP.sub (ws' := [(qM, .inr (2, [.ref qU, .int (nI n), .int (nI t), .int lo, .int hi])), (qU, .inl (cM, 187, .inl g))]) [3, 4] rfl
        have hDc := hD.sub (ws' := [(qM, .inr (2, [.ref qU, .int (nI n), .int (nI t), .int lo, .int hi])), (qU, .inl (cM, 187, .inl g))]) [3, 4] (by decide) rfl
        have hKc := hK.sub (tys' := [(cM, .int)]) [1] rfl
        refine rr_ri (va_runV (As := [.int (xs (i + 1))]) (rest := [.int (rr_dn f (xs (i + 1)) n)]) ⟨hx, hb, hml, hown, hts⟩ (c_X2_down l D qM qU H.size cM g n t lo hi (xs (i + 1)) hiv.le) (cwV 1 hts gL_law_X2_down rfl rfl rfl (by decide +kernel) ⟨Nat.le_of_ble_eq_true rfl, Nat.le_of_ble_eq_true rfl⟩) (rr_vR hKc hPc (va_recv hKc hPc (ci := 2) (q0 := 0) rfl rfl)) rfl rfl hl.1 rfl (lv_room (Nat.le_of_ble_eq_true rfl)) dL_law_146 ⟨Nat.le_of_ble_eq_true rfl, Nat.le_of_ble_eq_true rfl⟩) hS hA hP (fun r146 H locs e146 hP hS => ?_)
        replace e146 := e146.symm
        subst e146
        refine lv_icmp_eq (tgt := 299) hx hb dL_law_149 (by decide) (fun c149 => ?_) (fun c149 => ?_)
        · skip
          refine lv_iinc (v := nI (i + 6)) (lv' := [(3, .int (nI (i + 6))), (2, .ref qM), (1, .ref qX), (0, .ref b)]) hx hb dL_law_299 hl (k := 0) rfl (nI_add i 6) (by decide) rfl (fun ls hl => ?_)
          refine lv_goto (tgt := 18) hx hb dL_law_302 (by decide) ?_
          exact ih (i + 6) f g n t lo hi y z (by omega) (by omega) hiv H locs hP hD hS ls (lv_sub hl [0, 1, 2, 3] rfl)
        · skip
          exact absurd (rr_dn_c hiv.1) c149
      · skip
        refine lv_tableIn (off := 121) (tgt := 154) hx hb dL_law_33 (by decide) (by decide) (by decide +kernel) (by decide) ?_
        refine lv_aload_n hx hb dL_law_154 rfl (lv_at hl 2 rfl) ?_
        refine lv_aload_n hx hb dL_law_155 rfl (lv_at hl 3 rfl) ?_
        refine lv_iload_n hx hb dL_law_156 rfl (lv_at hl 0 rfl) ?_
        refine lv_iconst (v := 1) hx hb dL_law_157 (by decide) ?_
        refine lv_iadd hx hb dL_law_158 ?_
        refine W.eq (congrArg (fun z => F0 m 159 ls (.int z :: [.ref b, .ref qX])) (nI_1 i)) ?_
        refine va_sld hx hb hX hXl hXA hS (vp_in_nI (by omega) (by omega)) dL_law_159 ?_
        refine W.eq (congrArg (fun z => F0 m 160 ls (.int z :: [.ref qX])) (congrArg xs (nI_clamp (by omega)))) ?_
        have hPc := hP.sub (ws' := [(qX, .inr (1, [.ref qT, .int (nI n), .int (nI t), .int lo, .int hi, .ref qS])), (qT, .inl (cX, 187, .inl f)), (qS, .inr (0, [.long y, .long z]))]) [0, 1, 2] rfl
        have hDc := hD.sub (ws' := [(qX, .inr (1, [.ref qT, .int (nI n), .int (nI t), .int lo, .int hi, .ref qS])), (qT, .inl (cX, 187, .inl f)), (qS, .inr (0, [.long y, .long z]))]) [0, 1, 2] (by decide) rfl
        have hKc := hK.sub (tys' := [(cX, .int)]) [0] rfl
        refine rr_ri (va_runV (As := [.int (xs (i + 1))]) (rest := []) ⟨hx, hb, hml, hown, hts⟩ (c_X1_up l D qX qT qS H.size cX f n t lo hi y z (xs (i + 1)) hiv.le) (cwV 1 hts gL_law_X1_up rfl rfl rfl (by decide +kernel) ⟨Nat.le_of_ble_eq_true rfl, Nat.le_of_ble_eq_true rfl⟩) (rr_vR hKc hPc (va_recv hKc hPc (ci := 1) (q0 := 0) rfl rfl)) rfl rfl hl.1 rfl (lv_room (Nat.le_of_ble_eq_true rfl)) dL_law_160 ⟨Nat.le_of_ble_eq_true rfl, Nat.le_of_ble_eq_true rfl⟩) hS hA hP (fun r160 H locs e160 hP hS => ?_)
        replace e160 := e160.symm
        subst e160
        refine lv_aload_n hx hb dL_law_163 rfl (lv_at hl 1 rfl) ?_
        refine lv_aload_n hx hb dL_law_164 rfl (lv_at hl 3 rfl) ?_
        refine lv_iload_n hx hb dL_law_165 rfl (lv_at hl 0 rfl) ?_
        refine lv_iconst (v := 1) hx hb dL_law_166 (by decide) ?_
        refine lv_iadd hx hb dL_law_167 ?_
        refine W.eq (congrArg (fun z => F0 m 168 ls (.int z :: [.ref b, .ref qM, .int (rr_up f (xs (i + 1)) n)])) (nI_1 i)) ?_
        refine va_sld hx hb hX hXl hXA hS (vp_in_nI (by omega) (by omega)) dL_law_168 ?_
        refine W.eq (congrArg (fun z => F0 m 169 ls (.int z :: [.ref qM, .int (rr_up f (xs (i + 1)) n)])) (congrArg xs (nI_clamp (by omega)))) ?_
        have hPc := hP.sub (ws' := [(qM, .inr (2, [.ref qU, .int (nI n), .int (nI t), .int lo, .int hi])), (qU, .inl (cM, 187, .inl g))]) [3, 4] rfl
        have hDc := hD.sub (ws' := [(qM, .inr (2, [.ref qU, .int (nI n), .int (nI t), .int lo, .int hi])), (qU, .inl (cM, 187, .inl g))]) [3, 4] (by decide) rfl
        have hKc := hK.sub (tys' := [(cM, .int)]) [1] rfl
        refine rr_ri (va_runV (As := [.int (xs (i + 1))]) (rest := [.int (rr_up f (xs (i + 1)) n)]) ⟨hx, hb, hml, hown, hts⟩ (c_X2_up l D qM qU H.size cM g n t lo hi (xs (i + 1)) hiv.le) (cwV 1 hts gL_law_X2_up rfl rfl rfl (by decide +kernel) ⟨Nat.le_of_ble_eq_true rfl, Nat.le_of_ble_eq_true rfl⟩) (rr_vR hKc hPc (va_recv hKc hPc (ci := 2) (q0 := 0) rfl rfl)) rfl rfl hl.1 rfl (lv_room (Nat.le_of_ble_eq_true rfl)) dL_law_169 ⟨Nat.le_of_ble_eq_true rfl, Nat.le_of_ble_eq_true rfl⟩) hS hA hP (fun r169 H locs e169 hP hS => ?_)
        replace e169 := e169.symm
        subst e169
        refine lv_icmp_eq (tgt := 299) hx hb dL_law_172 (by decide) (fun c172 => ?_) (fun c172 => ?_)
        · skip
          refine lv_iinc (v := nI (i + 6)) (lv' := [(3, .int (nI (i + 6))), (2, .ref qM), (1, .ref qX), (0, .ref b)]) hx hb dL_law_299 hl (k := 0) rfl (nI_add i 6) (by decide) rfl (fun ls hl => ?_)
          refine lv_goto (tgt := 18) hx hb dL_law_302 (by decide) ?_
          exact ih (i + 6) f g n t lo hi y z (by omega) (by omega) hiv H locs hP hD hS ls (lv_sub hl [0, 1, 2, 3] rfl)
        · skip
          exact absurd (rr_up_c hiv.1) c172
      · skip
        refine lv_tableIn (off := 144) (tgt := 177) hx hb dL_law_33 (by decide) (by decide) (by decide +kernel) (by decide) ?_
        refine lv_aload_n hx hb dL_law_177 rfl (lv_at hl 2 rfl) ?_
        refine lv_aload_n hx hb dL_law_178 rfl (lv_at hl 3 rfl) ?_
        refine lv_iload_n hx hb dL_law_179 rfl (lv_at hl 0 rfl) ?_
        refine lv_iconst (v := 1) hx hb dL_law_180 (by decide) ?_
        refine lv_iadd hx hb dL_law_181 ?_
        refine W.eq (congrArg (fun z => F0 m 182 ls (.int z :: [.ref b, .ref qX])) (nI_1 i)) ?_
        refine va_sld hx hb hX hXl hXA hS (vp_in_nI (by omega) (by omega)) dL_law_182 ?_
        refine W.eq (congrArg (fun z => F0 m 183 ls (.int z :: [.ref qX])) (congrArg xs (nI_clamp (by omega)))) ?_
        refine lv_aload_n hx hb dL_law_183 rfl (lv_at hl 3 rfl) ?_
        refine lv_iload_n hx hb dL_law_184 rfl (lv_at hl 0 rfl) ?_
        refine lv_iconst (v := 2) hx hb dL_law_185 (by decide) ?_
        refine lv_iadd hx hb dL_law_186 ?_
        refine W.eq (congrArg (fun z => F0 m 187 ls (.int z :: [.ref b, .int (xs (i + 1)), .ref qX])) (nI_add i 2)) ?_
        refine va_sld hx hb hX hXl hXA hS (vp_in_nI (by omega) (by omega)) dL_law_187 ?_
        refine W.eq (congrArg (fun z => F0 m 188 ls (.int z :: [.int (xs (i + 1)), .ref qX])) (congrArg xs (nI_clamp (by omega)))) ?_
        refine lv_aload_n hx hb dL_law_188 rfl (lv_at hl 3 rfl) ?_
        refine lv_iload_n hx hb dL_law_189 rfl (lv_at hl 0 rfl) ?_
        refine lv_iconst (v := 3) hx hb dL_law_190 (by decide) ?_
        refine lv_iadd hx hb dL_law_191 ?_
        refine W.eq (congrArg (fun z => F0 m 192 ls (.int z :: [.ref b, .int (xs (i + 2)), .int (xs (i + 1)), .ref qX])) (nI_add i 3)) ?_
        refine va_sld hx hb hX hXl hXA hS (vp_in_nI (by omega) (by omega)) dL_law_192 ?_
        refine W.eq (congrArg (fun z => F0 m 193 ls (.int z :: [.int (xs (i + 2)), .int (xs (i + 1)), .ref qX])) (congrArg xs (nI_clamp (by omega)))) ?_
        refine lv_aload_n hx hb dL_law_193 rfl (lv_at hl 3 rfl) ?_
        refine lv_iload_n hx hb dL_law_194 rfl (lv_at hl 0 rfl) ?_
        refine lv_iconst (v := 4) hx hb dL_law_195 (by decide) ?_
        refine lv_iadd hx hb dL_law_196 ?_
        refine W.eq (congrArg (fun z => F0 m 197 ls (.int z :: [.ref b, .int (xs (i + 3)), .int (xs (i + 2)), .int (xs (i + 1)), .ref qX])) (nI_add i 4)) ?_
        refine va_sld hx hb hX hXl hXA hS (vp_in_nI (by omega) (by omega)) dL_law_197 ?_
        refine W.eq (congrArg (fun z => F0 m 198 ls (.int z :: [.int (xs (i + 3)), .int (xs (i + 2)), .int (xs (i + 1)), .ref qX])) (congrArg xs (nI_clamp (by omega)))) ?_
        refine lv_aload_n hx hb dL_law_198 rfl (lv_at hl 3 rfl) ?_
        refine lv_iload_n hx hb dL_law_199 rfl (lv_at hl 0 rfl) ?_
        refine lv_iconst (v := 5) hx hb dL_law_200 (by decide) ?_
        refine lv_iadd hx hb dL_law_201 ?_
        refine W.eq (congrArg (fun z => F0 m 202 ls (.int z :: [.ref b, .int (xs (i + 4)), .int (xs (i + 3)), .int (xs (i + 2)), .int (xs (i + 1)), .ref qX])) (nI_add i 5)) ?_
        refine va_sld hx hb hX hXl hXA hS (vp_in_nI (by omega) (by omega)) dL_law_202 ?_
        refine W.eq (congrArg (fun z => F0 m 203 ls (.int z :: [.int (xs (i + 4)), .int (xs (i + 3)), .int (xs (i + 2)), .int (xs (i + 1)), .ref qX])) (congrArg xs (nI_clamp (by omega)))) ?_
        have hPc := hP.sub (ws' := [(qX, .inr (1, [.ref qT, .int (nI n), .int (nI t), .int lo, .int hi, .ref qS])), (qT, .inl (cX, 187, .inl f)), (qS, .inr (0, [.long y, .long z]))]) [0, 1, 2] rfl
        have hDc := hD.sub (ws' := [(qX, .inr (1, [.ref qT, .int (nI n), .int (nI t), .int lo, .int hi, .ref qS])), (qT, .inl (cX, 187, .inl f)), (qS, .inr (0, [.long y, .long z]))]) [0, 1, 2] (by decide) rfl
        have hKc := hK.sub (tys' := [(cX, .int)]) [0] rfl
        refine rr_wi (wr := [(qM, .inr (2, [.ref qU, .int (nI n), .int (nI t), .int lo, .int hi])), (qU, .inl (cM, 187, .inl g))]) [0, 1, 2] [3, 4] (va_runV (As := [.int (xs (i + 1)), .int (xs (i + 2)), .int (xs (i + 3)), .int (xs (i + 4)), .int (xs (i + 5))]) (rest := []) ⟨hx, hb, hml, hown, hts⟩ (c_X1_work l D qX qT qS H.size cX f n t lo hi y z (xs (i + 1)) (xs (i + 2)) (xs (i + 3)) (xs (i + 4)) (xs (i + 5)) hiv.le hiv.2.1) (cwV 5 hts gL_law_X1_work rfl rfl rfl (by decide +kernel) ⟨Nat.le_of_ble_eq_true rfl, Nat.le_of_ble_eq_true rfl⟩) (rr_vN hN hKc hPc hDc (va_recv hKc hPc (ci := 1) (q0 := 0) rfl rfl)) rfl rfl hl.1 rfl (lv_room (Nat.le_of_ble_eq_true rfl)) dL_law_203 ⟨Nat.le_of_ble_eq_true rfl, Nat.le_of_ble_eq_true rfl⟩) hS hA hP hD rfl rfl (by decide) (by decide) (by decide) (fun _ => by simp only [rr_wx, rr_wm, List.map_cons, List.map_nil]) (fun r203 u203 H locs e203 hP hD hS => ?_)
        have hP : va_P D vwCl [(qX, .inr (1, [.ref qT, .int (nI n), .int (nI t), .int ((rr_wk f n lo hi (xs (i + 1)) (xs (i + 2)) (xs (i + 3)) (xs (i + 4)) (xs (i + 5))).2.1), .int ((rr_wk f n lo hi (xs (i + 1)) (xs (i + 2)) (xs (i + 3)) (xs (i + 4)) (xs (i + 5))).2.2), .ref qS])), (qT, .inl (cX, 187, .inl f)), (qS, .inr (0, [.long u203.1, .long u203.2])), (qM, .inr (2, [.ref qU, .int (nI n), .int (nI t), .int lo, .int hi])), (qU, .inl (cM, 187, .inl g))] H := hP.sub [2, 3, 4, 0, 1] rfl
        have hD : va_D A [(qX, .inr (1, [.ref qT, .int (nI n), .int (nI t), .int ((rr_wk f n lo hi (xs (i + 1)) (xs (i + 2)) (xs (i + 3)) (xs (i + 4)) (xs (i + 5))).2.1), .int ((rr_wk f n lo hi (xs (i + 1)) (xs (i + 2)) (xs (i + 3)) (xs (i + 4)) (xs (i + 5))).2.2), .ref qS])), (qT, .inl (cX, 187, .inl f)), (qS, .inr (0, [.long u203.1, .long u203.2])), (qM, .inr (2, [.ref qU, .int (nI n), .int (nI t), .int lo, .int hi])), (qU, .inl (cM, 187, .inl g))] := hD.sub [2, 3, 4, 0, 1] (by decide) rfl
        subst e203
        refine lv_aload_n hx hb dL_law_206 rfl (lv_at hl 1 rfl) ?_
        refine lv_aload_n hx hb dL_law_207 rfl (lv_at hl 3 rfl) ?_
        refine lv_iload_n hx hb dL_law_208 rfl (lv_at hl 0 rfl) ?_
        refine lv_iconst (v := 1) hx hb dL_law_209 (by decide) ?_
        refine lv_iadd hx hb dL_law_210 ?_
        refine W.eq (congrArg (fun z => F0 m 211 ls (.int z :: [.ref b, .ref qM, .int ((rr_wk f n lo hi (xs (i + 1)) (xs (i + 2)) (xs (i + 3)) (xs (i + 4)) (xs (i + 5))).1)])) (nI_1 i)) ?_
        refine va_sld hx hb hX hXl hXA hS (vp_in_nI (by omega) (by omega)) dL_law_211 ?_
        refine W.eq (congrArg (fun z => F0 m 212 ls (.int z :: [.ref qM, .int ((rr_wk f n lo hi (xs (i + 1)) (xs (i + 2)) (xs (i + 3)) (xs (i + 4)) (xs (i + 5))).1)])) (congrArg xs (nI_clamp (by omega)))) ?_
        refine lv_aload_n hx hb dL_law_212 rfl (lv_at hl 3 rfl) ?_
        refine lv_iload_n hx hb dL_law_213 rfl (lv_at hl 0 rfl) ?_
        refine lv_iconst (v := 2) hx hb dL_law_214 (by decide) ?_
        refine lv_iadd hx hb dL_law_215 ?_
        refine W.eq (congrArg (fun z => F0 m 216 ls (.int z :: [.ref b, .int (xs (i + 1)), .ref qM, .int ((rr_wk f n lo hi (xs (i + 1)) (xs (i + 2)) (xs (i + 3)) (xs (i + 4)) (xs (i + 5))).1)])) (nI_add i 2)) ?_
        refine va_sld hx hb hX hXl hXA hS (vp_in_nI (by omega) (by omega)) dL_law_216 ?_
        refine W.eq (congrArg (fun z => F0 m 217 ls (.int z :: [.int (xs (i + 1)), .ref qM, .int ((rr_wk f n lo hi (xs (i + 1)) (xs (i + 2)) (xs (i + 3)) (xs (i + 4)) (xs (i + 5))).1)])) (congrArg xs (nI_clamp (by omega)))) ?_
        refine lv_aload_n hx hb dL_law_217 rfl (lv_at hl 3 rfl) ?_
        refine lv_iload_n hx hb dL_law_218 rfl (lv_at hl 0 rfl) ?_
        refine lv_iconst (v := 3) hx hb dL_law_219 (by decide) ?_
        refine lv_iadd hx hb dL_law_220 ?_
        refine W.eq (congrArg (fun z => F0 m 221 ls (.int z :: [.ref b, .int (xs (i + 2)), .int (xs (i + 1)), .ref qM, .int ((rr_wk f n lo hi (xs (i + 1)) (xs (i + 2)) (xs (i + 3)) (xs (i + 4)) (xs (i + 5))).1)])) (nI_add i 3)) ?_
        refine va_sld hx hb hX hXl hXA hS (vp_in_nI (by omega) (by omega)) dL_law_221 ?_
        refine W.eq (congrArg (fun z => F0 m 222 ls (.int z :: [.int (xs (i + 2)), .int (xs (i + 1)), .ref qM, .int ((rr_wk f n lo hi (xs (i + 1)) (xs (i + 2)) (xs (i + 3)) (xs (i + 4)) (xs (i + 5))).1)])) (congrArg xs (nI_clamp (by omega)))) ?_
        refine lv_aload_n hx hb dL_law_222 rfl (lv_at hl 3 rfl) ?_
        refine lv_iload_n hx hb dL_law_223 rfl (lv_at hl 0 rfl) ?_
        refine lv_iconst (v := 4) hx hb dL_law_224 (by decide) ?_
        refine lv_iadd hx hb dL_law_225 ?_
        refine W.eq (congrArg (fun z => F0 m 226 ls (.int z :: [.ref b, .int (xs (i + 3)), .int (xs (i + 2)), .int (xs (i + 1)), .ref qM, .int ((rr_wk f n lo hi (xs (i + 1)) (xs (i + 2)) (xs (i + 3)) (xs (i + 4)) (xs (i + 5))).1)])) (nI_add i 4)) ?_
        refine va_sld hx hb hX hXl hXA hS (vp_in_nI (by omega) (by omega)) dL_law_226 ?_
        refine W.eq (congrArg (fun z => F0 m 227 ls (.int z :: [.int (xs (i + 3)), .int (xs (i + 2)), .int (xs (i + 1)), .ref qM, .int ((rr_wk f n lo hi (xs (i + 1)) (xs (i + 2)) (xs (i + 3)) (xs (i + 4)) (xs (i + 5))).1)])) (congrArg xs (nI_clamp (by omega)))) ?_
        refine lv_aload_n hx hb dL_law_227 rfl (lv_at hl 3 rfl) ?_
        refine lv_iload_n hx hb dL_law_228 rfl (lv_at hl 0 rfl) ?_
        refine lv_iconst (v := 5) hx hb dL_law_229 (by decide) ?_
        refine lv_iadd hx hb dL_law_230 ?_
        refine W.eq (congrArg (fun z => F0 m 231 ls (.int z :: [.ref b, .int (xs (i + 4)), .int (xs (i + 3)), .int (xs (i + 2)), .int (xs (i + 1)), .ref qM, .int ((rr_wk f n lo hi (xs (i + 1)) (xs (i + 2)) (xs (i + 3)) (xs (i + 4)) (xs (i + 5))).1)])) (nI_add i 5)) ?_
        refine va_sld hx hb hX hXl hXA hS (vp_in_nI (by omega) (by omega)) dL_law_231 ?_
        refine W.eq (congrArg (fun z => F0 m 232 ls (.int z :: [.int (xs (i + 4)), .int (xs (i + 3)), .int (xs (i + 2)), .int (xs (i + 1)), .ref qM, .int ((rr_wk f n lo hi (xs (i + 1)) (xs (i + 2)) (xs (i + 3)) (xs (i + 4)) (xs (i + 5))).1)])) (congrArg xs (nI_clamp (by omega)))) ?_
        have hPc := hP.sub (ws' := [(qM, .inr (2, [.ref qU, .int (nI n), .int (nI t), .int lo, .int hi])), (qU, .inl (cM, 187, .inl g))]) [3, 4] rfl
        have hDc := hD.sub (ws' := [(qM, .inr (2, [.ref qU, .int (nI n), .int (nI t), .int lo, .int hi])), (qU, .inl (cM, 187, .inl g))]) [3, 4] (by decide) rfl
        have hKc := hK.sub (tys' := [(cM, .int)]) [1] rfl
        refine rr_wi (wr := [(qX, .inr (1, [.ref qT, .int (nI n), .int (nI t), .int ((rr_wk f n lo hi (xs (i + 1)) (xs (i + 2)) (xs (i + 3)) (xs (i + 4)) (xs (i + 5))).2.1), .int ((rr_wk f n lo hi (xs (i + 1)) (xs (i + 2)) (xs (i + 3)) (xs (i + 4)) (xs (i + 5))).2.2), .ref qS])), (qT, .inl (cX, 187, .inl f)), (qS, .inr (0, [.long u203.1, .long u203.2]))]) [3, 4] [0, 1, 2] (va_runV (As := [.int (xs (i + 1)), .int (xs (i + 2)), .int (xs (i + 3)), .int (xs (i + 4)), .int (xs (i + 5))]) (rest := [.int ((rr_wk f n lo hi (xs (i + 1)) (xs (i + 2)) (xs (i + 3)) (xs (i + 4)) (xs (i + 5))).1)]) ⟨hx, hb, hml, hown, hts⟩ (c_X2_work l D qM qU H.size cM g n t lo hi (xs (i + 1)) (xs (i + 2)) (xs (i + 3)) (xs (i + 4)) (xs (i + 5)) hiv.le hiv.ok) (cwV 5 hts gL_law_X2_work rfl rfl rfl (by decide +kernel) ⟨Nat.le_of_ble_eq_true rfl, Nat.le_of_ble_eq_true rfl⟩) (rr_vW hKc hPc hDc (va_recv hKc hPc (ci := 2) (q0 := 0) rfl rfl)) rfl rfl hl.1 rfl (lv_room (Nat.le_of_ble_eq_true rfl)) dL_law_232 ⟨Nat.le_of_ble_eq_true rfl, Nat.le_of_ble_eq_true rfl⟩) hS hA hP hD rfl rfl (by decide) (by decide) (by decide) (fun _ => by simp only [rr_wx, rr_wm, List.map_cons, List.map_nil]) (fun r232 u232 H locs e232 hP hD hS => ?_)
        have hP : va_P D vwCl [(qX, .inr (1, [.ref qT, .int (nI n), .int (nI t), .int ((rr_wk f n lo hi (xs (i + 1)) (xs (i + 2)) (xs (i + 3)) (xs (i + 4)) (xs (i + 5))).2.1), .int ((rr_wk f n lo hi (xs (i + 1)) (xs (i + 2)) (xs (i + 3)) (xs (i + 4)) (xs (i + 5))).2.2), .ref qS])), (qT, .inl (cX, 187, .inl f)), (qS, .inr (0, [.long u203.1, .long u203.2])), (qM, .inr (2, [.ref qU, .int (nI n), .int (nI t), .int ((rr_wk g n lo hi (xs (i + 1)) (xs (i + 2)) (xs (i + 3)) (xs (i + 4)) (xs (i + 5))).2.1), .int ((rr_wk g n lo hi (xs (i + 1)) (xs (i + 2)) (xs (i + 3)) (xs (i + 4)) (xs (i + 5))).2.2)])), (qU, .inl (cM, 187, .inl g))] H := hP
        have hD : va_D A [(qX, .inr (1, [.ref qT, .int (nI n), .int (nI t), .int ((rr_wk f n lo hi (xs (i + 1)) (xs (i + 2)) (xs (i + 3)) (xs (i + 4)) (xs (i + 5))).2.1), .int ((rr_wk f n lo hi (xs (i + 1)) (xs (i + 2)) (xs (i + 3)) (xs (i + 4)) (xs (i + 5))).2.2), .ref qS])), (qT, .inl (cX, 187, .inl f)), (qS, .inr (0, [.long u203.1, .long u203.2])), (qM, .inr (2, [.ref qU, .int (nI n), .int (nI t), .int ((rr_wk g n lo hi (xs (i + 1)) (xs (i + 2)) (xs (i + 3)) (xs (i + 4)) (xs (i + 5))).2.1), .int ((rr_wk g n lo hi (xs (i + 1)) (xs (i + 2)) (xs (i + 3)) (xs (i + 4)) (xs (i + 5))).2.2)])), (qU, .inl (cM, 187, .inl g))] := hD
        subst e232
        refine lv_icmp_eq (tgt := 299) hx hb dL_law_235 (by decide) (fun c235 => ?_) (fun c235 => ?_)
        · skip
          have ew : (rr_wk f n lo hi (xs (i + 1)) (xs (i + 2)) (xs (i + 3)) (xs (i + 4)) (xs (i + 5))) = (rr_wk g n lo hi (xs (i + 1)) (xs (i + 2)) (xs (i + 3)) (xs (i + 4)) (xs (i + 5))) := rr_wk_c hiv.1
          rw [← ew] at hP hD
          have hP : va_P D vwCl [(qX, .inr (1, [.ref qT, .int (nI n), .int (nI t), .int ((rr_wk f n lo hi (xs (i + 1)) (xs (i + 2)) (xs (i + 3)) (xs (i + 4)) (xs (i + 5))).2.1), .int ((rr_wk f n lo hi (xs (i + 1)) (xs (i + 2)) (xs (i + 3)) (xs (i + 4)) (xs (i + 5))).2.2), .ref qS])), (qT, .inl (cX, 187, .inl f)), (qS, .inr (0, [.long u203.1, .long u203.2])), (qM, .inr (2, [.ref qU, .int (nI n), .int (nI t), .int ((rr_wk f n lo hi (xs (i + 1)) (xs (i + 2)) (xs (i + 3)) (xs (i + 4)) (xs (i + 5))).2.1), .int ((rr_wk f n lo hi (xs (i + 1)) (xs (i + 2)) (xs (i + 3)) (xs (i + 4)) (xs (i + 5))).2.2)])), (qU, .inl (cM, 187, .inl g))] H := hP
          have hD : va_D A [(qX, .inr (1, [.ref qT, .int (nI n), .int (nI t), .int ((rr_wk f n lo hi (xs (i + 1)) (xs (i + 2)) (xs (i + 3)) (xs (i + 4)) (xs (i + 5))).2.1), .int ((rr_wk f n lo hi (xs (i + 1)) (xs (i + 2)) (xs (i + 3)) (xs (i + 4)) (xs (i + 5))).2.2), .ref qS])), (qT, .inl (cX, 187, .inl f)), (qS, .inr (0, [.long u203.1, .long u203.2])), (qM, .inr (2, [.ref qU, .int (nI n), .int (nI t), .int ((rr_wk f n lo hi (xs (i + 1)) (xs (i + 2)) (xs (i + 3)) (xs (i + 4)) (xs (i + 5))).2.1), .int ((rr_wk f n lo hi (xs (i + 1)) (xs (i + 2)) (xs (i + 3)) (xs (i + 4)) (xs (i + 5))).2.2)])), (qU, .inl (cM, 187, .inl g))] := hD
          refine lv_iinc (v := nI (i + 6)) (lv' := [(3, .int (nI (i + 6))), (2, .ref qM), (1, .ref qX), (0, .ref b)]) hx hb dL_law_299 hl (k := 0) rfl (nI_add i 6) (by decide) rfl (fun ls hl => ?_)
          refine lv_goto (tgt := 18) hx hb dL_law_302 (by decide) ?_
          exact ih (i + 6) f g n t ((rr_wk f n lo hi (xs (i + 1)) (xs (i + 2)) (xs (i + 3)) (xs (i + 4)) (xs (i + 5))).2.1) ((rr_wk f n lo hi (xs (i + 1)) (xs (i + 2)) (xs (i + 3)) (xs (i + 4)) (xs (i + 5))).2.2) u203.1 u203.2 (by omega) (by omega) hiv H locs hP hD hS ls (lv_sub hl [0, 1, 2, 3] rfl)
        · skip
          exact absurd (by rw [rr_wk_c hiv.1]) c235
      · skip
        refine lv_tableIn (off := 207) (tgt := 240) hx hb dL_law_33 (by decide) (by decide) (by decide +kernel) (by decide) ?_
        refine lv_aload_n hx hb dL_law_240 rfl (lv_at hl 2 rfl) ?_
        refine lv_aload_n hx hb dL_law_241 rfl (lv_at hl 3 rfl) ?_
        refine lv_iload_n hx hb dL_law_242 rfl (lv_at hl 0 rfl) ?_
        refine lv_iconst (v := 1) hx hb dL_law_243 (by decide) ?_
        refine lv_iadd hx hb dL_law_244 ?_
        refine W.eq (congrArg (fun z => F0 m 245 ls (.int z :: [.ref b, .ref qX])) (nI_1 i)) ?_
        refine va_sld hx hb hX hXl hXA hS (vp_in_nI (by omega) (by omega)) dL_law_245 ?_
        refine W.eq (congrArg (fun z => F0 m 246 ls (.int z :: [.ref qX])) (congrArg xs (nI_clamp (by omega)))) ?_
        refine lv_aload_n hx hb dL_law_246 rfl (lv_at hl 3 rfl) ?_
        refine lv_iload_n hx hb dL_law_247 rfl (lv_at hl 0 rfl) ?_
        refine lv_iconst (v := 2) hx hb dL_law_248 (by decide) ?_
        refine lv_iadd hx hb dL_law_249 ?_
        refine W.eq (congrArg (fun z => F0 m 250 ls (.int z :: [.ref b, .int (xs (i + 1)), .ref qX])) (nI_add i 2)) ?_
        refine va_sld hx hb hX hXl hXA hS (vp_in_nI (by omega) (by omega)) dL_law_250 ?_
        refine W.eq (congrArg (fun z => F0 m 251 ls (.int z :: [.int (xs (i + 1)), .ref qX])) (congrArg xs (nI_clamp (by omega)))) ?_
        have hPc := hP.sub (ws' := [(qX, .inr (1, [.ref qT, .int (nI n), .int (nI t), .int lo, .int hi, .ref qS])), (qT, .inl (cX, 187, .inl f)), (qS, .inr (0, [.long y, .long z]))]) [0, 1, 2] rfl
        have hDc := hD.sub (ws' := [(qX, .inr (1, [.ref qT, .int (nI n), .int (nI t), .int lo, .int hi, .ref qS])), (qT, .inl (cX, 187, .inl f)), (qS, .inr (0, [.long y, .long z]))]) [0, 1, 2] (by decide) rfl
        have hKc := hK.sub (tys' := [(cX, .int)]) [0] rfl
        refine rr_wi (wr := [(qM, .inr (2, [.ref qU, .int (nI n), .int (nI t), .int lo, .int hi])), (qU, .inl (cM, 187, .inl g))]) [0, 1, 2] [3, 4] (va_runV (As := [.int (xs (i + 1)), .int (xs (i + 2))]) (rest := []) ⟨hx, hb, hml, hown, hts⟩ (c_X1_negate l D qX qT qS H.size cX f n t lo hi y z (xs (i + 1)) (xs (i + 2)) hiv.le hiv.2.1) (cwV 2 hts gL_law_X1_negate rfl rfl rfl (by decide +kernel) ⟨Nat.le_of_ble_eq_true rfl, Nat.le_of_ble_eq_true rfl⟩) (rr_vW hKc hPc hDc (va_recv hKc hPc (ci := 1) (q0 := 0) rfl rfl)) rfl rfl hl.1 rfl (lv_room (Nat.le_of_ble_eq_true rfl)) dL_law_251 ⟨Nat.le_of_ble_eq_true rfl, Nat.le_of_ble_eq_true rfl⟩) hS hA hP hD rfl rfl (by decide) (by decide) (by decide) (fun _ => by simp only [rr_wx, rr_wm, List.map_cons, List.map_nil]) (fun r251 u251 H locs e251 hP hD hS => ?_)
        have hP : va_P D vwCl [(qX, .inr (1, [.ref qT, .int (nI n), .int (nI t), .int ((rr_ng f n lo hi (xs (i + 1)) (xs (i + 2))).2.1), .int ((rr_ng f n lo hi (xs (i + 1)) (xs (i + 2))).2.2), .ref qS])), (qT, .inl (cX, 187, .inl f)), (qS, .inr (0, [.long y, .long z])), (qM, .inr (2, [.ref qU, .int (nI n), .int (nI t), .int lo, .int hi])), (qU, .inl (cM, 187, .inl g))] H := hP.sub [2, 3, 4, 0, 1] rfl
        have hD : va_D A [(qX, .inr (1, [.ref qT, .int (nI n), .int (nI t), .int ((rr_ng f n lo hi (xs (i + 1)) (xs (i + 2))).2.1), .int ((rr_ng f n lo hi (xs (i + 1)) (xs (i + 2))).2.2), .ref qS])), (qT, .inl (cX, 187, .inl f)), (qS, .inr (0, [.long y, .long z])), (qM, .inr (2, [.ref qU, .int (nI n), .int (nI t), .int lo, .int hi])), (qU, .inl (cM, 187, .inl g))] := hD.sub [2, 3, 4, 0, 1] (by decide) rfl
        subst e251
        refine lv_aload_n hx hb dL_law_254 rfl (lv_at hl 1 rfl) ?_
        refine lv_aload_n hx hb dL_law_255 rfl (lv_at hl 3 rfl) ?_
        refine lv_iload_n hx hb dL_law_256 rfl (lv_at hl 0 rfl) ?_
        refine lv_iconst (v := 1) hx hb dL_law_257 (by decide) ?_
        refine lv_iadd hx hb dL_law_258 ?_
        refine W.eq (congrArg (fun z => F0 m 259 ls (.int z :: [.ref b, .ref qM, .int ((rr_ng f n lo hi (xs (i + 1)) (xs (i + 2))).1)])) (nI_1 i)) ?_
        refine va_sld hx hb hX hXl hXA hS (vp_in_nI (by omega) (by omega)) dL_law_259 ?_
        refine W.eq (congrArg (fun z => F0 m 260 ls (.int z :: [.ref qM, .int ((rr_ng f n lo hi (xs (i + 1)) (xs (i + 2))).1)])) (congrArg xs (nI_clamp (by omega)))) ?_
        refine lv_aload_n hx hb dL_law_260 rfl (lv_at hl 3 rfl) ?_
        refine lv_iload_n hx hb dL_law_261 rfl (lv_at hl 0 rfl) ?_
        refine lv_iconst (v := 2) hx hb dL_law_262 (by decide) ?_
        refine lv_iadd hx hb dL_law_263 ?_
        refine W.eq (congrArg (fun z => F0 m 264 ls (.int z :: [.ref b, .int (xs (i + 1)), .ref qM, .int ((rr_ng f n lo hi (xs (i + 1)) (xs (i + 2))).1)])) (nI_add i 2)) ?_
        refine va_sld hx hb hX hXl hXA hS (vp_in_nI (by omega) (by omega)) dL_law_264 ?_
        refine W.eq (congrArg (fun z => F0 m 265 ls (.int z :: [.int (xs (i + 1)), .ref qM, .int ((rr_ng f n lo hi (xs (i + 1)) (xs (i + 2))).1)])) (congrArg xs (nI_clamp (by omega)))) ?_
        have hPc := hP.sub (ws' := [(qM, .inr (2, [.ref qU, .int (nI n), .int (nI t), .int lo, .int hi])), (qU, .inl (cM, 187, .inl g))]) [3, 4] rfl
        have hDc := hD.sub (ws' := [(qM, .inr (2, [.ref qU, .int (nI n), .int (nI t), .int lo, .int hi])), (qU, .inl (cM, 187, .inl g))]) [3, 4] (by decide) rfl
        have hKc := hK.sub (tys' := [(cM, .int)]) [1] rfl
        refine rr_wi (wr := [(qX, .inr (1, [.ref qT, .int (nI n), .int (nI t), .int ((rr_ng f n lo hi (xs (i + 1)) (xs (i + 2))).2.1), .int ((rr_ng f n lo hi (xs (i + 1)) (xs (i + 2))).2.2), .ref qS])), (qT, .inl (cX, 187, .inl f)), (qS, .inr (0, [.long y, .long z]))]) [3, 4] [0, 1, 2] (va_runV (As := [.int (xs (i + 1)), .int (xs (i + 2))]) (rest := [.int ((rr_ng f n lo hi (xs (i + 1)) (xs (i + 2))).1)]) ⟨hx, hb, hml, hown, hts⟩ (c_X2_negate l D qM qU H.size cM g n t lo hi (xs (i + 1)) (xs (i + 2)) hiv.le hiv.ok) (cwV 2 hts gL_law_X2_negate rfl rfl rfl (by decide +kernel) ⟨Nat.le_of_ble_eq_true rfl, Nat.le_of_ble_eq_true rfl⟩) (rr_vW hKc hPc hDc (va_recv hKc hPc (ci := 2) (q0 := 0) rfl rfl)) rfl rfl hl.1 rfl (lv_room (Nat.le_of_ble_eq_true rfl)) dL_law_265 ⟨Nat.le_of_ble_eq_true rfl, Nat.le_of_ble_eq_true rfl⟩) hS hA hP hD rfl rfl (by decide) (by decide) (by decide) (fun _ => by simp only [rr_wx, rr_wm, List.map_cons, List.map_nil]) (fun r265 u265 H locs e265 hP hD hS => ?_)
        have hP : va_P D vwCl [(qX, .inr (1, [.ref qT, .int (nI n), .int (nI t), .int ((rr_ng f n lo hi (xs (i + 1)) (xs (i + 2))).2.1), .int ((rr_ng f n lo hi (xs (i + 1)) (xs (i + 2))).2.2), .ref qS])), (qT, .inl (cX, 187, .inl f)), (qS, .inr (0, [.long y, .long z])), (qM, .inr (2, [.ref qU, .int (nI n), .int (nI t), .int ((rr_ng g n lo hi (xs (i + 1)) (xs (i + 2))).2.1), .int ((rr_ng g n lo hi (xs (i + 1)) (xs (i + 2))).2.2)])), (qU, .inl (cM, 187, .inl g))] H := hP
        have hD : va_D A [(qX, .inr (1, [.ref qT, .int (nI n), .int (nI t), .int ((rr_ng f n lo hi (xs (i + 1)) (xs (i + 2))).2.1), .int ((rr_ng f n lo hi (xs (i + 1)) (xs (i + 2))).2.2), .ref qS])), (qT, .inl (cX, 187, .inl f)), (qS, .inr (0, [.long y, .long z])), (qM, .inr (2, [.ref qU, .int (nI n), .int (nI t), .int ((rr_ng g n lo hi (xs (i + 1)) (xs (i + 2))).2.1), .int ((rr_ng g n lo hi (xs (i + 1)) (xs (i + 2))).2.2)])), (qU, .inl (cM, 187, .inl g))] := hD
        subst e265
        refine lv_icmp_eq (tgt := 299) hx hb dL_law_268 (by decide) (fun c268 => ?_) (fun c268 => ?_)
        · skip
          have ew : (rr_ng f n lo hi (xs (i + 1)) (xs (i + 2))) = (rr_ng g n lo hi (xs (i + 1)) (xs (i + 2))) := rr_ng_c hiv.1
          rw [← ew] at hP hD
          have hP : va_P D vwCl [(qX, .inr (1, [.ref qT, .int (nI n), .int (nI t), .int ((rr_ng f n lo hi (xs (i + 1)) (xs (i + 2))).2.1), .int ((rr_ng f n lo hi (xs (i + 1)) (xs (i + 2))).2.2), .ref qS])), (qT, .inl (cX, 187, .inl f)), (qS, .inr (0, [.long y, .long z])), (qM, .inr (2, [.ref qU, .int (nI n), .int (nI t), .int ((rr_ng f n lo hi (xs (i + 1)) (xs (i + 2))).2.1), .int ((rr_ng f n lo hi (xs (i + 1)) (xs (i + 2))).2.2)])), (qU, .inl (cM, 187, .inl g))] H := hP
          have hD : va_D A [(qX, .inr (1, [.ref qT, .int (nI n), .int (nI t), .int ((rr_ng f n lo hi (xs (i + 1)) (xs (i + 2))).2.1), .int ((rr_ng f n lo hi (xs (i + 1)) (xs (i + 2))).2.2), .ref qS])), (qT, .inl (cX, 187, .inl f)), (qS, .inr (0, [.long y, .long z])), (qM, .inr (2, [.ref qU, .int (nI n), .int (nI t), .int ((rr_ng f n lo hi (xs (i + 1)) (xs (i + 2))).2.1), .int ((rr_ng f n lo hi (xs (i + 1)) (xs (i + 2))).2.2)])), (qU, .inl (cM, 187, .inl g))] := hD
          refine lv_iinc (v := nI (i + 6)) (lv' := [(3, .int (nI (i + 6))), (2, .ref qM), (1, .ref qX), (0, .ref b)]) hx hb dL_law_299 hl (k := 0) rfl (nI_add i 6) (by decide) rfl (fun ls hl => ?_)
          refine lv_goto (tgt := 18) hx hb dL_law_302 (by decide) ?_
          exact ih (i + 6) f g n t ((rr_ng f n lo hi (xs (i + 1)) (xs (i + 2))).2.1) ((rr_ng f n lo hi (xs (i + 1)) (xs (i + 2))).2.2) y z (by omega) (by omega) hiv H locs hP hD hS ls (lv_sub hl [0, 1, 2, 3] rfl)
        · skip
          exact absurd (by rw [rr_ng_c hiv.1]) c268
      · skip
        refine lv_tableIn (off := 240) (tgt := 273) hx hb dL_law_33 (by decide) (by decide) (by decide +kernel) (by decide) ?_
        refine lv_aload_n hx hb dL_law_273 rfl (lv_at hl 2 rfl) ?_
        have hPc := hP.sub (ws' := [(qX, .inr (1, [.ref qT, .int (nI n), .int (nI t), .int lo, .int hi, .ref qS])), (qT, .inl (cX, 187, .inl f)), (qS, .inr (0, [.long y, .long z]))]) [0, 1, 2] rfl
        have hDc := hD.sub (ws' := [(qX, .inr (1, [.ref qT, .int (nI n), .int (nI t), .int lo, .int hi, .ref qS])), (qT, .inl (cX, 187, .inl f)), (qS, .inr (0, [.long y, .long z]))]) [0, 1, 2] (by decide) rfl
        have hKc := hK.sub (tys' := [(cX, .int)]) [0] rfl
        refine rr_ri (va_runV (As := []) (rest := []) ⟨hx, hb, hml, hown, hts⟩ (c_X1_low l D qX qT qS H.size cX f n t lo hi y z) (cwV 0 hts gL_law_X1_low rfl rfl rfl (by decide +kernel) ⟨Nat.le_of_ble_eq_true rfl, Nat.le_of_ble_eq_true rfl⟩) (rr_vR hKc hPc (va_recv hKc hPc (ci := 1) (q0 := 0) rfl rfl)) rfl rfl hl.1 rfl (lv_room (Nat.le_of_ble_eq_true rfl)) dL_law_274 ⟨Nat.le_of_ble_eq_true rfl, Nat.le_of_ble_eq_true rfl⟩) hS hA hP (fun r274 H locs e274 hP hS => ?_)
        replace e274 := e274.symm
        subst e274
        refine lv_aload_n hx hb dL_law_277 rfl (lv_at hl 1 rfl) ?_
        have hPc := hP.sub (ws' := [(qM, .inr (2, [.ref qU, .int (nI n), .int (nI t), .int lo, .int hi])), (qU, .inl (cM, 187, .inl g))]) [3, 4] rfl
        have hDc := hD.sub (ws' := [(qM, .inr (2, [.ref qU, .int (nI n), .int (nI t), .int lo, .int hi])), (qU, .inl (cM, 187, .inl g))]) [3, 4] (by decide) rfl
        have hKc := hK.sub (tys' := [(cM, .int)]) [1] rfl
        refine rr_ri (va_runV (As := []) (rest := [.int lo]) ⟨hx, hb, hml, hown, hts⟩ (c_X2_low l D qM qU H.size cM g n t lo hi) (cwV 0 hts gL_law_X2_low rfl rfl rfl (by decide +kernel) ⟨Nat.le_of_ble_eq_true rfl, Nat.le_of_ble_eq_true rfl⟩) (rr_vR hKc hPc (va_recv hKc hPc (ci := 2) (q0 := 0) rfl rfl)) rfl rfl hl.1 rfl (lv_room (Nat.le_of_ble_eq_true rfl)) dL_law_278 ⟨Nat.le_of_ble_eq_true rfl, Nat.le_of_ble_eq_true rfl⟩) hS hA hP (fun r278 H locs e278 hP hS => ?_)
        replace e278 := e278.symm
        subst e278
        refine lv_icmp_eq (tgt := 299) hx hb dL_law_281 (by decide) (fun c281 => ?_) (fun c281 => ?_)
        · skip
          refine lv_iinc (v := nI (i + 6)) (lv' := [(3, .int (nI (i + 6))), (2, .ref qM), (1, .ref qX), (0, .ref b)]) hx hb dL_law_299 hl (k := 0) rfl (nI_add i 6) (by decide) rfl (fun ls hl => ?_)
          refine lv_goto (tgt := 18) hx hb dL_law_302 (by decide) ?_
          exact ih (i + 6) f g n t lo hi y z (by omega) (by omega) hiv H locs hP hD hS ls (lv_sub hl [0, 1, 2, 3] rfl)
        · skip
          exact absurd (rfl) c281
      · skip
        refine lv_tableIn (off := 253) (tgt := 286) hx hb dL_law_33 (by decide) (by decide) (by decide +kernel) (by decide) ?_
        refine lv_aload_n hx hb dL_law_286 rfl (lv_at hl 2 rfl) ?_
        have hPc := hP.sub (ws' := [(qX, .inr (1, [.ref qT, .int (nI n), .int (nI t), .int lo, .int hi, .ref qS])), (qT, .inl (cX, 187, .inl f)), (qS, .inr (0, [.long y, .long z]))]) [0, 1, 2] rfl
        have hDc := hD.sub (ws' := [(qX, .inr (1, [.ref qT, .int (nI n), .int (nI t), .int lo, .int hi, .ref qS])), (qT, .inl (cX, 187, .inl f)), (qS, .inr (0, [.long y, .long z]))]) [0, 1, 2] (by decide) rfl
        have hKc := hK.sub (tys' := [(cX, .int)]) [0] rfl
        refine rr_ri (va_runV (As := []) (rest := []) ⟨hx, hb, hml, hown, hts⟩ (c_X1_high l D qX qT qS H.size cX f n t lo hi y z) (cwV 0 hts gL_law_X1_high rfl rfl rfl (by decide +kernel) ⟨Nat.le_of_ble_eq_true rfl, Nat.le_of_ble_eq_true rfl⟩) (rr_vR hKc hPc (va_recv hKc hPc (ci := 1) (q0 := 0) rfl rfl)) rfl rfl hl.1 rfl (lv_room (Nat.le_of_ble_eq_true rfl)) dL_law_287 ⟨Nat.le_of_ble_eq_true rfl, Nat.le_of_ble_eq_true rfl⟩) hS hA hP (fun r287 H locs e287 hP hS => ?_)
        replace e287 := e287.symm
        subst e287
        refine lv_aload_n hx hb dL_law_290 rfl (lv_at hl 1 rfl) ?_
        have hPc := hP.sub (ws' := [(qM, .inr (2, [.ref qU, .int (nI n), .int (nI t), .int lo, .int hi])), (qU, .inl (cM, 187, .inl g))]) [3, 4] rfl
        have hDc := hD.sub (ws' := [(qM, .inr (2, [.ref qU, .int (nI n), .int (nI t), .int lo, .int hi])), (qU, .inl (cM, 187, .inl g))]) [3, 4] (by decide) rfl
        have hKc := hK.sub (tys' := [(cM, .int)]) [1] rfl
        refine rr_ri (va_runV (As := []) (rest := [.int hi]) ⟨hx, hb, hml, hown, hts⟩ (c_X2_high l D qM qU H.size cM g n t lo hi) (cwV 0 hts gL_law_X2_high rfl rfl rfl (by decide +kernel) ⟨Nat.le_of_ble_eq_true rfl, Nat.le_of_ble_eq_true rfl⟩) (rr_vR hKc hPc (va_recv hKc hPc (ci := 2) (q0 := 0) rfl rfl)) rfl rfl hl.1 rfl (lv_room (Nat.le_of_ble_eq_true rfl)) dL_law_291 ⟨Nat.le_of_ble_eq_true rfl, Nat.le_of_ble_eq_true rfl⟩) hS hA hP (fun r291 H locs e291 hP hS => ?_)
        replace e291 := e291.symm
        subst e291
        refine lv_icmp_eq (tgt := 299) hx hb dL_law_294 (by decide) (fun c294 => ?_) (fun c294 => ?_)
        · skip
          refine lv_iinc (v := nI (i + 6)) (lv' := [(3, .int (nI (i + 6))), (2, .ref qM), (1, .ref qX), (0, .ref b)]) hx hb dL_law_299 hl (k := 0) rfl (nI_add i 6) (by decide) rfl (fun ls hl => ?_)
          refine lv_goto (tgt := 18) hx hb dL_law_302 (by decide) ?_
          exact ih (i + 6) f g n t lo hi y z (by omega) (by omega) hiv H locs hP hD hS ls (lv_sub hl [0, 1, 2, 3] rfl)
        · skip
          exact absurd (rfl) c294
      · skip
        refine lv_tableOut (tgt := 299) hx hb dL_law_33 (Or.inr (by rw [nI_toInt (by omega)]; omega)) (by decide) ?_
        refine lv_iinc (v := nI (i + 6)) (lv' := [(3, .int (nI (i + 6))), (2, .ref qM), (1, .ref qX), (0, .ref b)]) hx hb dL_law_299 hl (k := 0) rfl (nI_add i 6) (by decide) rfl (fun ls hl => ?_)
        refine lv_goto (tgt := 18) hx hb dL_law_302 (by decide) ?_
        exact ih (i + 6) f g n t lo hi y z (by omega) (by omega) hiv H locs hP hD hS ls (lv_sub hl [0, 1, 2, 3] rfl)
