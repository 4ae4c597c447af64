/-! the worlds of the class's object and of the reference's, and how a call is passed over -/
abbrev rr_wx (h0 qT qS : Nat) (cA : ClassId) (f : Nat → Int32) (n t : Nat) (lo hi : Int32) (a b : Int64) : va_W := [(h0, .inr (1, [.ref qT, .int (nI n), .int (nI t), .int lo, .int hi, .ref qS])), (qT, .inl (cA, 187, .inl f)), (qS, .inr (0, [.long a, .long b]))]
abbrev rr_wm (h0 qT : Nat) (cA : ClassId) (f : Nat → Int32) (n t : Nat) (lo hi : Int32) : va_W := [(h0, .inr (2, [.ref qT, .int (nI n), .int (nI t), .int lo, .int hi])), (qT, .inl (cA, 187, .inl f))]
/-- the words on the nest mates' links -/
def rr_N (U : State) : Prop := va_Nw (.methodLinkNest RX1 101 yX0_empty RX1) U ∧ va_Nw (.methodLinkNest RX1 104 yX0_take RX1) U ∧ va_Nw (.fieldLinkNest RX1 108 "RangeRules$Span" "least" "J" RX1) U ∧ va_Nw (.fieldLinkNest RX1 112 "RangeRules$Span" "greatest" "J" RX1) U
theorem rr_N.same {u U : State} (h : u.vm = U.vm) (hN : rr_N u) : rr_N U := ⟨va_Nw.same rfl h hN.1, va_Nw.same rfl h hN.2.1, va_Nw.same rfl h hN.2.2.1, va_Nw.same rfl h hN.2.2.2⟩
theorem rr_N.warm {s U : State} (hW : s.WarmedH U.vm) (hN : rr_N s) : rr_N U := ⟨va_Nw.warmM hW hN.1, va_Nw.warmM hW hN.2.1, va_Nw.warmF hW hN.2.2.1, va_Nw.warmF hW hN.2.2.2⟩
def rr_p0 (av : List Value) (sz : Nat) : Array Value → State → Prop := va_Pc av (fun U => U.heap.size = sz)
def rr_pR (D : va_G) (ws : va_W) (tys : List (ClassId × FieldType)) (av : List Value) (sz : Nat) : Array Value → State → Prop := va_Pc av (fun U => U.heap.size = sz ∧ va_P D vwCl ws U.heap ∧ va_K D vwCl tys U)
def rr_pW (D : va_G) (ws : va_W) (tys : List (ClassId × FieldType)) (av : List Value) (sz : Nat) : Array Value → State → Prop := va_Pc av (fun U => U.heap.size = sz ∧ va_P D vwCl ws U.heap ∧ va_K D vwCl tys U ∧ va_D (fun _ => True) ws)
def rr_pN (D : va_G) (ws : va_W) (tys : List (ClassId × FieldType)) (av : List Value) (sz : Nat) : Array Value → State → Prop := va_Pc av (fun U => U.heap.size = sz ∧ va_P D vwCl ws U.heap ∧ va_K D vwCl tys U ∧ va_D (fun _ => True) ws ∧ rr_N U)
theorem rr_b0 {av : List Value} {sz : Nat} : FrameBlind (rr_p0 av sz) := fun _ _ _ _ q => q
theorem rr_bR {D : va_G} {ws : va_W} {tys : List (ClassId × FieldType)} {av : List Value} {sz : Nat} : FrameBlind (rr_pR D ws tys av sz) := fun a U g mk q => by
  obtain ⟨q0, q1, qP, qK⟩ := q
  exact ⟨q0, q1, qP, va_K.moved (u := U) (U := U.calling g mk a) (Vm.Alike.refl U.vm) qK⟩
theorem rr_bW {D : va_G} {ws : va_W} {tys : List (ClassId × FieldType)} {av : List Value} {sz : Nat} : FrameBlind (rr_pW D ws tys av sz) := fun a U g mk q => by
  obtain ⟨q0, q1, qP, qK, qD⟩ := q
  exact ⟨q0, q1, qP, va_K.moved (u := U) (U := U.calling g mk a) (Vm.Alike.refl U.vm) qK, qD⟩
theorem rr_bN {D : va_G} {ws : va_W} {tys : List (ClassId × FieldType)} {av : List Value} {sz : Nat} : FrameBlind (rr_pN D ws tys av sz) := fun a U g mk q => by
  obtain ⟨q0, q1, qP, qK, qD, qN⟩ := q
  exact ⟨q0, q1, qP, va_K.moved (u := U) (U := U.calling g mk a) (Vm.Alike.refl U.vm) qK, qD, rr_N.same (u := U) (U := U.calling g mk a) rfl qN⟩
theorem rr_v0 {s : State} {H : Heap} {As : List Value} : PreS s H (rr_p0 As H.size) As := ⟨rr_b0, fun U hU _ => ⟨rfl, congrArg Array.size hU⟩⟩
theorem rr_vR {s : State} {H : Heap} {D : va_G} {ws : va_W} {tys : List (ClassId × FieldType)} {C : String} {b : Nat} {As : List Value} (hK : va_K D vwCl tys s) (hP : va_P D vwCl ws H) (hr : ∃ cell : Cell, H[b]? = some cell ∧ cell.vm.isStatics = false ∧ s.vm.findClass C = some cell.cls) : PreV s H C b (rr_pR D ws tys (.ref b :: As) H.size) As :=
  ⟨rr_bR, hr, fun U hU hW => ⟨rfl, by rw [hU], by rw [hU]; exact hP, va_K.moved hW.alike hK⟩⟩
theorem rr_vW {s : State} {H : Heap} {D : va_G} {ws : va_W} {A : Nat → Prop} {tys : List (ClassId × FieldType)} {C : String} {b : Nat} {As : List Value} (hK : va_K D vwCl tys s) (hP : va_P D vwCl ws H) (hD : va_D A ws) (hr : ∃ cell : Cell, H[b]? = some cell ∧ cell.vm.isStatics = false ∧ s.vm.findClass C = some cell.cls) : PreV s H C b (rr_pW D ws tys (.ref b :: As) H.size) As :=
  ⟨rr_bW, hr, fun U hU hW => ⟨rfl, by rw [hU], by rw [hU]; exact hP, va_K.moved hW.alike hK, hD.weaken (fun _ _ _ _ => trivial)⟩⟩
theorem rr_vN {s : State} {H : Heap} {D : va_G} {ws : va_W} {A : Nat → Prop} {tys : List (ClassId × FieldType)} {C : String} {b : Nat} {As : List Value} (hN : rr_N s) (hK : va_K D vwCl tys s) (hP : va_P D vwCl ws H) (hD : va_D A ws) (hr : ∃ cell : Cell, H[b]? = some cell ∧ cell.vm.isStatics = false ∧ s.vm.findClass C = some cell.cls) : PreV s H C b (rr_pN D ws tys (.ref b :: As) H.size) As :=
  ⟨rr_bN, hr, fun U hU hW => ⟨rfl, by rw [hU], by rw [hU]; exact hP, va_K.moved hW.alike hK, hD.weaken (fun _ _ _ _ => trivial), hN.warm hW⟩⟩
theorem rr_nil {A0 : Nat → Prop} {H0 H : Heap} {locs : List Loc} (hS : va_S A0 H0 H locs) (hA : ∀ q, H0.size ≤ q → A0 q) : ∀ q, va_A [] H.size q → A0 q := by
  intro q h
  rcases h with ⟨k, e, h⟩ | h
  · simp at h
  · exact hA q (Nat.le_trans hS.1 h)
theorem rr_old {D : va_G} {cl : List vw_C} {ws : va_W} {H H1 : Heap} (hP : va_P D cl ws H) (hk : ∀ q : Nat, q < H.size → ¬ va_A [] H.size q → H1[q]? = H[q]?) : va_P D cl ws H1 := by
  refine hP.kept (fun k q hq => hk q.1 (hP k q hq).lt ?_)
  intro h
  rcases h with ⟨k, e, h⟩ | h
  · simp at h
  · exact absurd (hP k q hq).lt (Nat.not_lt.mpr h)
theorem rr_at {w1 wc : va_W} (h : w1.map (fun q => q.1) = wc.map (fun q => q.1)) {k : Nat} {q : Nat × va_E} (hk : w1[k]? = some q) : ∃ q0, wc[k]? = some q0 ∧ q0.1 = q.1 := by
  have h1 : (w1.map (fun q => q.1))[k]? = some q.1 := by rw [List.getElem?_map, hk]; rfl
  rw [h, List.getElem?_map] at h1
  cases hc : wc[k]? with
  | none => rw [hc] at h1; cases h1
  | some q0 => rw [hc] at h1; exact ⟨q0, rfl, Option.some.inj h1⟩
theorem rr_sameD {A : Nat → Prop} {w1 wc : va_W} {sz : Nat} (hD : va_D A wc) (h : w1.map (fun q => q.1) = wc.map (fun q => q.1)) : va_D (va_A wc sz) w1 := by
  refine ⟨fun i j p q hi hj e => ?_, fun k q hk => ?_⟩
  · obtain ⟨p0, hp, e1⟩ := rr_at h hi
    obtain ⟨q0, hq, e2⟩ := rr_at h hj
    exact hD.1 i j p0 q0 hp hq (by rw [e1, e2, e])
  · obtain ⟨q0, hq, e1⟩ := rr_at h hk
    rw [← e1]
    exact va_A.in hq
section RRC
variable {p : Program} {l : Launch} {e : Env} {R : Room} {s : State} {m : MethodId} {args : Array Value} {below : List Frame} {meth : Method} {c : Code} {H : Heap} {locs : List Loc} {cells slots : Nat} {Q : State → Prop}
variable {pc : Nat} {ls : Array Slot} {rest st0 : List Value} {a : Array Value} {A0 : Nat → Prop} {H0 : Heap} {mc ms : Nat} {D : va_G} {cl : List vw_C} {ws : va_W}
/-- behind a call that only reads, with an int for an answer -/
theorem rr_ri {post : Int32 → Prop} (hr : va_Run p l e R s m args below meth c H locs cells slots mc ms (F0 m pc ls st0) rest (va_Qi (fun r (_ : Unit) => post r) (fun _ _ => True) (va_A [] H.size) a) (va_A [] H.size)) (hS : va_S A0 H0 H locs) (hA : ∀ q, H0.size ≤ q → A0 q) (hP : va_P D cl ws H)
    (kk : ∀ (r : Int32) (H1 : Heap) (locs1 : List Loc), post r → va_P D cl ws H1 → va_S A0 H0 H1 locs1 → W p l e R s m args below meth c H1 locs1 (cells + mc) (slots + ms) Q (F0 m (pc + 3) ls (.int r :: rest))) : W p l e R s m args below meth c H locs cells slots Q (F0 m pc ls st0) :=
  va_calli hr hS (fun q _ h => rr_nil hS hA q h) (rr_nil hS hA) (fun r _ _ H1 locs1 _ _ hw _ _ hk1 hS1 => kk r H1 locs1 hw (rr_old hP hk1) hS1)
theorem rr_rl {post : Int64 → Prop} (hr : va_Run p l e R s m args below meth c H locs cells slots mc ms (F0 m pc ls st0) rest (va_Ql (fun r (_ : Unit) => post r) (fun _ _ => True) (va_A [] H.size) a) (va_A [] H.size)) (hS : va_S A0 H0 H locs) (hA : ∀ q, H0.size ≤ q → A0 q) (hP : va_P D cl ws H)
    (kk : ∀ (r : Int64) (H1 : Heap) (locs1 : List Loc), post r → va_P D cl ws H1 → va_S A0 H0 H1 locs1 → W p l e R s m args below meth c H1 locs1 (cells + mc) (slots + ms) Q (F0 m (pc + 3) ls (.long r :: rest))) : W p l e R s m args below meth c H locs cells slots Q (F0 m pc ls st0) :=
  va_calll hr hS (fun q _ h => rr_nil hS hA q h) (rr_nil hS hA) (fun r _ _ H1 locs1 _ _ hw _ _ hk1 hS1 => kk r H1 locs1 hw (rr_old hP hk1) hS1)
/-- behind a call that writes cells of the world wc -/
theorem rr_wv {S : Type} {post : S → Prop} {w1 : S → va_W} {wc wr : va_W} (isC isR : List Nat) (hr : va_Run p l e R s m args below meth c H locs cells slots mc ms (F0 m pc ls st0) rest (va_Qv post (fun u t => va_P D cl (w1 u) t.heap) (va_A wc H.size) a) (va_A wc H.size)) (hS : va_S A0 H0 H locs) (hA : ∀ q, H0.size ≤ q → A0 q) (hP : va_P D cl ws H) (hD : va_D A0 ws)
    (hC : isC.map (fun i => ws[i]?) = wc.map some) (hR : isR.map (fun i => ws[i]?) = wr.map some) (hnC : va_nd isC = true) (hn : va_nd isR = true) (hdis : ∀ i ∈ isR, i ∉ isC) (hsame : ∀ u, (w1 u).map (fun q => q.1) = wc.map (fun q => q.1))
    (kk : ∀ (u : S) (H1 : Heap) (locs1 : List Loc), post u → va_P D cl (wr ++ w1 u) H1 → va_D A0 (wr ++ w1 u) → va_S A0 H0 H1 locs1 → W p l e R s m args below meth c H1 locs1 (cells + mc) (slots + ms) Q (F0 m (pc + 3) ls rest)) : W p l e R s m args below meth c H locs cells slots Q (F0 m pc ls st0) := by
  have hF := va_free (wc := wc) hD hS hA isC hC
  refine va_callv hr hS (fun q _ h => hF q h) hF (fun u t H1 locs1 ht _ hw hB _ hk1 hS1 => ?_)
  rw [ht] at hB
  obtain ⟨h1, h2⟩ := va_join (wr := wr) (w1 := w1 u) hP hD isC isR hC hR hn hdis hk1 hF hB (rr_sameD (hD.sub (ws' := wc) isC hnC hC) (hsame u))
  exact kk u H1 locs1 hw h1 h2 hS1
theorem rr_wi {S : Type} {post : Int32 → S → Prop} {w1 : S → va_W} {wc wr : va_W} (isC isR : List Nat) (hr : va_Run p l e R s m args below meth c H locs cells slots mc ms (F0 m pc ls st0) rest (va_Qi post (fun u t => va_P D cl (w1 u) t.heap) (va_A wc H.size) a) (va_A wc H.size)) (hS : va_S A0 H0 H locs) (hA : ∀ q, H0.size ≤ q → A0 q) (hP : va_P D cl ws H) (hD : va_D A0 ws)
    (hC : isC.map (fun i => ws[i]?) = wc.map some) (hR : isR.map (fun i => ws[i]?) = wr.map some) (hnC : va_nd isC = true) (hn : va_nd isR = true) (hdis : ∀ i ∈ isR, i ∉ isC) (hsame : ∀ u, (w1 u).map (fun q => q.1) = wc.map (fun q => q.1))
    (kk : ∀ (r : Int32) (u : S) (H1 : Heap) (locs1 : List Loc), post r u → va_P D cl (wr ++ w1 u) H1 → va_D A0 (wr ++ w1 u) → va_S A0 H0 H1 locs1 → W p l e R s m args below meth c H1 locs1 (cells + mc) (slots + ms) Q (F0 m (pc + 3) ls (.int r :: rest))) : W p l e R s m args below meth c H locs cells slots Q (F0 m pc ls st0) := by
  have hF := va_free (wc := wc) hD hS hA isC hC
  refine va_calli hr hS (fun q _ h => hF q h) hF (fun r u t H1 locs1 ht _ hw hB _ hk1 hS1 => ?_)
  rw [ht] at hB
  obtain ⟨h1, h2⟩ := va_join (wr := wr) (w1 := w1 u) hP hD isC isR hC hR hn hdis hk1 hF hB (rr_sameD (hD.sub (ws' := wc) isC hnC hC) (hsame u))
  exact kk r u H1 locs1 hw h1 h2 hS1
end RRC
