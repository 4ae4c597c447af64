/-! two rows that agree in their first n places answer alike -/
theorem rr_dn_c {f g : Nat → Int32} {v : Int32} : ∀ {k : Nat}, (∀ j, j < k → f j = g j) → rr_dn f v k = rr_dn g v k
  | 0, _ => rfl
  | k + 1, h => by
    show (if f k ≤ v ∧ rr_dn f v k < f k then f k else rr_dn f v k) = (if g k ≤ v ∧ rr_dn g v k < g k then g k else rr_dn g v k)
    rw [rr_dn_c (fun j hj => h j (Nat.lt_succ_of_lt hj)), h k (Nat.lt_succ_self k)]
theorem rr_up_c {f g : Nat → Int32} {v : Int32} : ∀ {k : Nat}, (∀ j, j < k → f j = g j) → rr_up f v k = rr_up g v k
  | 0, _ => rfl
  | k + 1, h => by
    show (if v ≤ f k ∧ f k < rr_up f v k then f k else rr_up f v k) = (if v ≤ g k ∧ g k < rr_up g v k then g k else rr_up g v k)
    rw [rr_up_c (fun j hj => h j (Nat.lt_succ_of_lt hj)), h k (Nat.lt_succ_self k)]
theorem rr_fd_c {f g : Nat → Int32} {v : Int32} : ∀ {k : Nat}, (∀ j, j < k → f j = g j) → rr_fd f v k = rr_fd g v k
  | 0, _ => rfl
  | k + 1, h => by
    show (rr_fd f v k || decide (f k = v)) = (rr_fd g v k || decide (g k = v))
    rw [rr_fd_c (fun j hj => h j (Nat.lt_succ_of_lt hj)), h k (Nat.lt_succ_self k)]
theorem rr_rg_c {f g : Nat → Int32} {n : Nat} {x y : Int32} (h : ∀ j, j < n → f j = g j) : rr_rg f n x y = rr_rg g n x y := by
  unfold rr_rg
  rw [rr_fd_c h, rr_fd_c h]
theorem rr_tl_c {f g : Nat → Int32} {n : Nat} {x y : Int64} (h : ∀ j, j < n → f j = g j) : rr_tl f n x y = rr_tl g n x y := by
  unfold rr_tl
  rw [rr_dn_c h, rr_up_c h]
theorem rr_wk_c {f g : Nat → Int32} {n : Nat} {lo hi op x1 x2 x3 x4 : Int32} (h : ∀ j, j < n → f j = g j) : rr_wk f n lo hi op x1 x2 x3 x4 = rr_wk g n lo hi op x1 x2 x3 x4 := by
  unfold rr_wk
  rw [rr_rg_c h, rr_rg_c h, rr_tl_c h]
theorem rr_ng_c {f g : Nat → Int32} {n : Nat} {lo hi x1 x2 : Int32} (h : ∀ j, j < n → f j = g j) : rr_ng f n lo hi x1 x2 = rr_ng g n lo hi x1 x2 := by
  unfold rr_ng
  rw [rr_rg_c h, rr_tl_c h]
theorem rr_ad_c {f g : Nat → Int32} {n : Nat} {v : Int32} (h : ∀ j, j < n → f j = g j) : (rr_ad f n v).2 = (rr_ad g n v).2 ∧ ∀ j, j < (rr_ad f n v).2 → (rr_ad f n v).1 j = (rr_ad g n v).1 j := by
  unfold rr_ad
  rw [rr_fd_c h]
  split
  · exact ⟨rfl, h⟩
  · refine ⟨rfl, fun j hj => ?_⟩
    show (if j = n then v else f j) = (if j = n then v else g j)
    by_cases e : j = n
    · rw [if_pos e, if_pos e]
    · rw [if_neg e, if_neg e]
      have hj : j < n + 1 := hj
      exact h j (by omega)
theorem rr_al_c {f g : Nat → Int32} {n : Nat} {v : Int64} (h : ∀ j, j < n → f j = g j) : (rr_al f n v).2 = (rr_al g n v).2 ∧ ∀ j, j < (rr_al f n v).2 → (rr_al f n v).1 j = (rr_al g n v).1 j := by
  unfold rr_al
  split
  · exact rr_ad_c h
  · exact ⟨rfl, h⟩
theorem rr_ar_c {f g : Nat → Int32} {n : Nat} {v : Int32} (h : ∀ j, j < n → f j = g j) : (rr_ar f n v).2 = (rr_ar g n v).2 ∧ ∀ j, j < (rr_ar f n v).2 → (rr_ar f n v).1 j = (rr_ar g n v).1 j := by
  unfold rr_ar
  obtain ⟨e1, h1⟩ := rr_al_c (v := v.toInt64 - 1) h
  rw [← e1]
  obtain ⟨e2, h2⟩ := rr_al_c (v := v.toInt64) h1
  rw [← e2]
  exact rr_al_c (v := v.toInt64 + 1) h2
theorem rr_ar_of {f : Nat → Int32} {n : Nat} (v : Int32) (hk : rr_ok f n) : rr_ok (rr_ar f n v).1 (rr_ar f n v).2 ∧ (rr_ar f n v).2 ≤ n + 3 := by
  unfold rr_ar
  obtain ⟨a1, b1, c1⟩ := rr_al_of (f1 := (rr_al f n (v.toInt64 - 1)).1) (n1 := (rr_al f n (v.toInt64 - 1)).2) (v := v.toInt64 - 1) hk rfl
  obtain ⟨a2, b2, c2⟩ := rr_al_of (f1 := (rr_al (rr_al f n (v.toInt64 - 1)).1 (rr_al f n (v.toInt64 - 1)).2 v.toInt64).1) (n1 := (rr_al (rr_al f n (v.toInt64 - 1)).1 (rr_al f n (v.toInt64 - 1)).2 v.toInt64).2) (v := v.toInt64) a1 rfl
  obtain ⟨a3, b3, c3⟩ := rr_al_of (f1 := (rr_al (rr_al (rr_al f n (v.toInt64 - 1)).1 (rr_al f n (v.toInt64 - 1)).2 v.toInt64).1 (rr_al (rr_al f n (v.toInt64 - 1)).1 (rr_al f n (v.toInt64 - 1)).2 v.toInt64).2 (v.toInt64 + 1)).1) (n1 := (rr_al (rr_al (rr_al f n (v.toInt64 - 1)).1 (rr_al f n (v.toInt64 - 1)).2 v.toInt64).1 (rr_al (rr_al f n (v.toInt64 - 1)).1 (rr_al f n (v.toInt64 - 1)).2 v.toInt64).2 (v.toInt64 + 1)).2) (v := v.toInt64 + 1) a2 rfl
  exact ⟨a3, by omega⟩
/-- what holds between the class's row and the reference's, between two calls -/
def rr_iv (f g : Nat → Int32) (n t : Nat) : Prop := (∀ j, j < n → f j = g j) ∧ rr_ok f n ∧ t ≤ 60 ∧ n ≤ 7 + 3 * t
theorem rr_iv.ok {f g : Nat → Int32} {n t : Nat} (h : rr_iv f g n t) : rr_ok g n := ⟨h.2.1.1, fun j hj => by rw [← h.1 j (by have := h.2.1.1; omega)]; exact h.2.1.2 j hj⟩
theorem rr_iv.le {f g : Nat → Int32} {n t : Nat} (h : rr_iv f g n t) : n ≤ 187 := by have := h.2.2; omega
theorem rr_iv.ar {f g : Nat → Int32} {n t : Nat} (v : Int32) (h : rr_iv f g n t) : rr_iv (if t = 60 then f else (rr_ar f n v).1) (if t = 60 then g else (rr_ar g n v).1) (if t = 60 then n else (rr_ar f n v).2) (if t = 60 then t else t + 1) := by
  obtain ⟨h1, h2, h3, h4⟩ := h
  by_cases e : t = 60
  · simp only [if_pos e]
    exact ⟨h1, h2, h3, h4⟩
  · simp only [if_neg e]
    obtain ⟨a1, a2⟩ := rr_ar_of v h2
    exact ⟨(rr_ar_c h1).2, a1, by omega, by omega⟩
theorem rr_iv.cl {f g u : Nat → Int32} {n t : Nat} (h : rr_iv f g n t) (hu : ∀ j, j < 7 → u j = rr_first j) : rr_iv f u 7 0 := ⟨fun j hj => by rw [h.2.1.2 j hj, hu j hj], ⟨Nat.le_refl 7, h.2.1.2⟩, Nat.zero_le _, Nat.le_refl _⟩
theorem rr_iv.st {f u : Nat → Int32} (hf : ∀ j, j < 7 → f j = rr_first j) (hu : ∀ j, j < 7 → u j = rr_first j) : rr_iv f u 7 0 := ⟨fun j hj => by rw [hf j hj, hu j hj], ⟨Nat.le_refl 7, hf⟩, Nat.zero_le _, Nat.le_refl _⟩
theorem rr_6 {i L : Nat} (hi : i ≤ L) (hL : L ≤ 3072) (h : ¬ Int32.ofNat L - 6 < nI i) : i + 6 ≤ L := by
  rw [Int32.lt_iff_toInt_lt] at h
  have e : (Int32.ofNat L - 6).toInt = (L : Int) - 6 := pk_sub_toInt (a := L) (b := 6) (by omega) (by decide)
  rw [e, nI_toInt (by omega)] at h
  omega
theorem rr_len31 {args : Array Value} {s : State} {tm : Term} {b : Nat} {cell : Cell} {v : Value} (hv : (Term.length tm).eval args s none [] s = some v) (ht : tm.eval args s none [] s = some (.ref b)) (harr : s.arrayAt? b = some cell) : cell.slots.size < 2147483648 := by
  simp only [Term.eval, ht, harr, Option.bind_eq_bind, Option.bind_some] at hv
  by_cases hlt : cell.slots.size < 2147483648
  · exact hlt
  · simp [hlt] at hv
/-- the static row, out of what the Statement says of the start -/
theorem rr_stof {args : Array Value} {s : State} {A : Nat → Prop} (hl : (Cond.laysStatic "RangeRules" "FIRST" "[I").before args s = true) (hini : (Cond.initialized "RangeRules").before args s = true) (harr : (Cond.arrayOf (.static "RangeRules" "FIRST" "[I") .int).before args s = true) (hlen : (Cond.eq (.length (.static "RangeRules" "FIRST" "[I")) (.int 7)).before args s = true)
    (hel : ∀ j : Nat, j < 7 → (Cond.eq (.elem (.static "RangeRules" "FIRST" "[I") (.int (Int32.ofNat j))) (.int (rr_first j))).before args s = true) (hA : ∀ a : Nat, a < s.heap.size → ¬ A a) : ∃ t0 : Nat, rr_st t0 A s := by
  have hlv := va_eqt hlen
  obtain ⟨t, ht, cell, h1, h2, h3, h4, h5, h6, h7⟩ := va_Tof (N := 7) (f := fun j => .int (rr_first j)) (A := A) (by decide) harr hlv (fun j hj => va_eqt (hel j hj)) hA
  obtain ⟨b, cell2, hb, harr2, hv⟩ := Term.length_spec hlv
  obtain ⟨hcell2, -, -, -⟩ := State.arrayAt?_spec harr2
  cases ht.symm.trans hb
  cases h1.symm.trans hcell2
  have hsz : cell.slots.size < 2147483648 := rr_len31 hlv hb harr2
  have hs7 : cell.slots.size = 7 := (nI_eq (a := cell.slots.size) (b := 7) hsz (by decide)).mp h5
  exact ⟨t, va_Zref hl hini ht hA, ⟨cell, h1, h2, h3, hs7, h6⟩, (Array.getElem?_eq_some_iff.mp h1).1, h7⟩
