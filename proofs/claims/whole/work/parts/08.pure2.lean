/-! the operations: orders, and the class's way against the reference's -/
theorem rr_rg_iff {f : Nat → Int32} {n : Nat} {x y : Int32} : rr_rg f n x y = true ↔ x ≤ y ∧ rr_fd f x n = true ∧ rr_fd f y n = true := by simp [rr_rg]
theorem rr_mn_t (x y : Int64) : (rr_mn x y).toInt = min x.toInt y.toInt := by
  unfold rr_mn
  simp only [Int64.lt_iff_toInt_lt]
  split <;> omega
theorem rr_mx_t (x y : Int64) : (rr_mx x y).toInt = max x.toInt y.toInt := by
  unfold rr_mx
  simp only [Int64.lt_iff_toInt_lt]
  split <;> omega
theorem rr_ni_t (x y : Int32) : (rr_ni x y).toInt = min x.toInt y.toInt := by
  unfold rr_ni
  simp only [Int32.lt_iff_toInt_lt]
  split <;> omega
theorem rr_xi_t (x y : Int32) : (rr_xi x y).toInt = max x.toInt y.toInt := by
  unfold rr_xi
  simp only [Int32.lt_iff_toInt_lt]
  split <;> omega
theorem rr_mn4 (p q r s : Int64) : rr_mn (rr_mn (rr_mn (rr_mn 9223372036854775807 p) q) r) s = rr_mn (rr_mn p q) (rr_mn r s) := by
  rw [← Int64.toInt_inj]
  simp only [rr_mn_t, rr_xL]
  have := (rr_bdL p).2
  omega
theorem rr_mx4 (p q r s : Int64) : rr_mx (rr_mx (rr_mx (rr_mx (-9223372036854775808) p) q) r) s = rr_mx (rr_mx p q) (rr_mx r s) := by
  rw [← Int64.toInt_inj]
  simp only [rr_mx_t, rr_mL]
  have := (rr_bdL p).1
  omega
theorem rr_mn3 (p q r : Int64) : rr_mn (rr_mn p q) r = rr_mn p (rr_mn q r) := by
  rw [← Int64.toInt_inj]
  simp only [rr_mn_t]
  omega
theorem rr_mx3 (p q r : Int64) : rr_mx (rr_mx p q) r = rr_mx p (rr_mx q r) := by
  rw [← Int64.toInt_inj]
  simp only [rr_mx_t]
  omega
theorem rr_mnS (p q r : Int64) : rr_mn (rr_mn p q) r = rr_mn (rr_mn p r) q := by
  rw [← Int64.toInt_inj]
  simp only [rr_mn_t]
  omega
theorem rr_mxS (p q r : Int64) : rr_mx (rr_mx p q) r = rr_mx (rr_mx p r) q := by
  rw [← Int64.toInt_inj]
  simp only [rr_mx_t]
  omega
-- thresholds added
theorem rr_ad_of {f f1 : Nat → Int32} {n n1 : Nat} {v : Int32} (hk : rr_ok f n) (g : rr_ad f n v = (f1, n1)) : rr_ok f1 n1 ∧ n ≤ n1 ∧ n1 ≤ n + 1 := by
  unfold rr_ad at g
  split at g
  · cases g
    exact ⟨hk, Nat.le_refl _, by omega⟩
  · cases g
    refine ⟨⟨by have := hk.1; omega, fun j hj => ?_⟩, by omega, Nat.le_refl _⟩
    have h7 := hk.1
    show (if j = n then v else f j) = _
    rw [if_neg (by omega)]
    exact hk.2 j hj
theorem rr_al_of {f f1 : Nat → Int32} {n n1 : Nat} {v : Int64} (hk : rr_ok f n) (g : rr_al f n v = (f1, n1)) : rr_ok f1 n1 ∧ n ≤ n1 ∧ n1 ≤ n + 1 := by
  unfold rr_al at g
  split at g
  · exact rr_ad_of hk g
  · cases g
    exact ⟨hk, Nat.le_refl _, by omega⟩
theorem rr_sub1 (v : Int32) : (v.toInt64 - 1).toInt = v.toInt - 1 := by
  have := rr_bd v
  rw [Int64.toInt_sub, Int32.toInt_toInt64, rr_1L, rr_bm (by omega) (by omega)]
theorem rr_add1 (v : Int32) : (v.toInt64 + 1).toInt = v.toInt + 1 := by
  have := rr_bd v
  rw [Int64.toInt_add, Int32.toInt_toInt64, rr_1L, rr_bm (by omega) (by omega)]
theorem rr_e1 {f : Nat → Int32} {n : Nat} {v : Int32} (h : v ≤ -2147483648) : rr_al f n (v.toInt64 - 1) = (f, n) := by
  refine if_neg (fun z => ?_)
  have z1 := z.1
  rw [Int64.le_iff_toInt_le, rr_sub1, rr_m64] at z1
  rw [Int32.le_iff_toInt_le, rr_m32] at h
  omega
theorem rr_e2 {f : Nat → Int32} {n : Nat} {v : Int32} (h : ¬ v ≤ -2147483648) : rr_al f n (v.toInt64 - 1) = rr_ad f n (v - 1) := by
  have hb := rr_bd v
  rw [Int32.le_iff_toInt_le, rr_m32] at h
  have e : (v.toInt64 - 1).toInt32 = v - 1 := by
    rw [← Int32.toInt_inj, Int64.toInt_toInt32, rr_sub1, Int32.toInt_sub]
    rfl
  unfold rr_al
  rw [e]
  refine if_pos ?_
  rw [Int64.le_iff_toInt_le, Int64.le_iff_toInt_le, rr_sub1, rr_m64, rr_x64]
  omega
theorem rr_e3 {f : Nat → Int32} {n : Nat} {v : Int32} : rr_al f n v.toInt64 = rr_ad f n v := by
  have hb := rr_bd v
  unfold rr_al
  rw [Int32.toInt32_toInt64]
  refine if_pos ?_
  rw [Int64.le_iff_toInt_le, Int64.le_iff_toInt_le, Int32.toInt_toInt64, rr_m64, rr_x64]
  omega
theorem rr_e4 {f : Nat → Int32} {n : Nat} {v : Int32} (h : 2147483647 ≤ v) : rr_al f n (v.toInt64 + 1) = (f, n) := by
  refine if_neg (fun z => ?_)
  have z1 := z.2
  rw [Int64.le_iff_toInt_le, rr_add1, rr_x64] at z1
  rw [Int32.le_iff_toInt_le, rr_x32] at h
  omega
theorem rr_e5 {f : Nat → Int32} {n : Nat} {v : Int32} (h : ¬ 2147483647 ≤ v) : rr_al f n (v.toInt64 + 1) = rr_ad f n (v + 1) := by
  have hb := rr_bd v
  rw [Int32.le_iff_toInt_le, rr_x32] at h
  have e : (v.toInt64 + 1).toInt32 = v + 1 := by
    rw [← Int32.toInt_inj, Int64.toInt_toInt32, rr_add1, Int32.toInt_add]
    rfl
  unfold rr_al
  rw [e]
  refine if_pos ?_
  rw [Int64.le_iff_toInt_le, Int64.le_iff_toInt_le, rr_add1, rr_m64, rr_x64]
  omega
-- quotients
theorem rr_qm_t {a b l h d : Int64} (hd : ¬ d = 0) : rr_qm (decide (¬ d = 0)) l h d (a, b) = (rr_mn (rr_mn a (l / d)) (h / d), rr_mx (rr_mx b (l / d)) (h / d)) := by
  unfold rr_qm
  rw [if_pos (by simp [hd]), rr_mn3, rr_mx3]
theorem rr_qm_f {l h d : Int64} {z : Int64 × Int64} (hd : d = 0) : rr_qm (decide (¬ d = 0)) l h d z = z := by
  unfold rr_qm
  rw [if_neg (by simp [hd])]
theorem rr_qm_s (c1 c2 : Bool) (l h d1 d2 : Int64) (z : Int64 × Int64) : rr_qm c1 l h d1 (rr_qm c2 l h d2 z) = rr_qm c2 l h d2 (rr_qm c1 l h d1 z) := by
  unfold rr_qm
  cases c1 <;> cases c2 <;> simp only [if_true, if_false, Bool.false_eq_true] <;> try rfl
  rw [rr_mnS, rr_mxS]
theorem rr_qc_m {m n : Int64} (h : m ≤ n) : rr_qc m n m = decide (¬ m = 0) := by
  unfold rr_qc
  simp [h]
theorem rr_qc_n {m n : Int64} (h : m ≤ n) : rr_qc m n n = decide (¬ n = 0) := by
  unfold rr_qc
  simp [h]
theorem rr_qs_x {l h m n : Int64} (hmn : m ≤ n) : rr_qs l h m n = rr_qm (rr_qc m n 1) l h 1 (rr_qm (rr_qc m n (-1)) l h (-1) (rr_qm (decide (¬ n = 0)) l h n (rr_qm (decide (¬ m = 0)) l h m rr_q0))) := by
  unfold rr_qs
  rw [rr_qc_m hmn, rr_qc_n hmn]
  rw [rr_qm_s _ _ _ _ m 1, rr_qm_s _ _ _ _ n 1, rr_qm_s _ _ _ _ m (-1), rr_qm_s _ _ _ _ n (-1)]
theorem rr_qm_1 {c : Bool} {l h d : Int64} {z : Int64 × Int64} (hc : c = true) : (rr_qm c l h d z).1 ≤ (rr_qm c l h d z).2 := by
  unfold rr_qm
  rw [if_pos hc, Int64.le_iff_toInt_le]
  simp only [rr_mn_t, rr_mx_t]
  omega
theorem rr_qm_2 {c : Bool} {l h d : Int64} {z : Int64 × Int64} (hz : z.1 ≤ z.2) : (rr_qm c l h d z).1 ≤ (rr_qm c l h d z).2 := by
  unfold rr_qm
  rw [Int64.le_iff_toInt_le] at *
  split
  · simp only [rr_mn_t, rr_mx_t]
    omega
  · exact hz
theorem rr_qs_le {l h m n : Int64} (hmn : m ≤ n) (h0 : ¬ (m = 0 ∧ n = 0)) : (rr_qs l h m n).1 ≤ (rr_qs l h m n).2 := by
  rw [rr_qs_x hmn]
  refine rr_qm_2 (rr_qm_2 ?_)
  by_cases hm : m = 0
  · exact rr_qm_1 (by simp; exact fun z => h0 ⟨hm, z⟩)
  · exact rr_qm_2 (rr_qm_1 (by simp [hm]))
theorem rr_qs_0 (l h : Int64) : rr_qs l h 0 0 = rr_q0 := by
  rw [rr_qs_x (by decide)]
  rw [rr_qm_f rfl, rr_qm_f rfl]
  rfl
-- the reference's tell, where the ends are in order
theorem rr_tl_t {f : Nat → Int32} {n : Nat} {x y : Int64} (h : x ≤ y) (h1 : -2147483648 ≤ x) (h2 : y ≤ 2147483647) : rr_tl f n x y = (rr_dn f x.toInt32 n, rr_up f y.toInt32 n) := by
  refine if_pos ?_
  simp only [Int64.le_iff_toInt_le, rr_m64, rr_x64] at *
  omega
theorem rr_tl_1 {f : Nat → Int32} {n : Nat} {x y : Int64} (h1 : x < -2147483648) : rr_tl f n x y = (-2147483648, 2147483647) := by
  refine if_neg ?_
  simp only [Int64.le_iff_toInt_le, Int64.lt_iff_toInt_lt, rr_m64, rr_x64] at *
  omega
theorem rr_tl_2 {f : Nat → Int32} {n : Nat} {x y : Int64} (h1 : 2147483647 < y) : rr_tl f n x y = (-2147483648, 2147483647) := by
  refine if_neg ?_
  simp only [Int64.le_iff_toInt_le, Int64.lt_iff_toInt_lt, rr_m64, rr_x64] at *
  omega
-- the orders of what is told
theorem rr_le0 {l h m k : Int32} (h1 : l ≤ h) (h2 : m ≤ k) : l.toInt64 + m.toInt64 ≤ h.toInt64 + k.toInt64 := by
  have a1 := rr_bd l; have a2 := rr_bd h; have a3 := rr_bd m; have a4 := rr_bd k
  rw [Int32.le_iff_toInt_le] at h1 h2
  rw [Int64.le_iff_toInt_le, Int64.toInt_add, Int64.toInt_add]
  simp only [Int32.toInt_toInt64]
  rw [rr_bm (by omega) (by omega), rr_bm (by omega) (by omega)]
  omega
theorem rr_le1 {l h m k : Int32} (h1 : l ≤ h) (h2 : m ≤ k) : l.toInt64 - k.toInt64 ≤ h.toInt64 - m.toInt64 := by
  have a1 := rr_bd l; have a2 := rr_bd h; have a3 := rr_bd m; have a4 := rr_bd k
  rw [Int32.le_iff_toInt_le] at h1 h2
  rw [Int64.le_iff_toInt_le, Int64.toInt_sub, Int64.toInt_sub]
  simp only [Int32.toInt_toInt64]
  rw [rr_bm (by omega) (by omega), rr_bm (by omega) (by omega)]
  omega
theorem rr_neg_t (v : Int32) : (-v.toInt64).toInt = -v.toInt := by
  have := rr_bd v
  rw [Int64.toInt_neg, Int32.toInt_toInt64, rr_bm (by omega) (by omega)]
theorem rr_leN {l h : Int32} (h1 : l ≤ h) : -h.toInt64 ≤ -l.toInt64 := by
  rw [Int64.le_iff_toInt_le, rr_neg_t, rr_neg_t]
  rw [Int32.le_iff_toInt_le] at h1
  omega
theorem rr_le2 (p q r s : Int64) : rr_mn (rr_mn p q) (rr_mn r s) ≤ rr_mx (rr_mx p q) (rr_mx r s) := by
  rw [Int64.le_iff_toInt_le]
  simp only [rr_mn_t, rr_mx_t]
  omega
theorem rr_ab_t (v : Int32) : (rr_ab v.toInt64).toInt = max v.toInt (-v.toInt) := by
  unfold rr_ab
  simp only [Int64.lt_iff_toInt_lt, rr_0L, Int32.toInt_toInt64]
  split
  · rw [Int32.toInt_toInt64]; omega
  · rw [rr_neg_t]; omega
theorem rr_am_t {m k : Int32} (h0 : ¬ (m = 0 ∧ k = 0)) : ∃ w : Int, (rr_mx (rr_ab m.toInt64) (rr_ab k.toInt64) - 1).toInt = w ∧ 0 ≤ w ∧ w < 2147483648 ∧ (-(rr_mx (rr_ab m.toInt64) (rr_ab k.toInt64) - 1)).toInt = -w := by
  have a3 := rr_bd m; have a4 := rr_bd k
  have e : (rr_mx (rr_ab m.toInt64) (rr_ab k.toInt64) - 1).toInt = max (max m.toInt (-m.toInt)) (max k.toInt (-k.toInt)) - 1 := by
    rw [Int64.toInt_sub, rr_1L, rr_mx_t, rr_ab_t, rr_ab_t, rr_bm (by omega) (by omega)]
  have hne : ¬ (m.toInt = 0 ∧ k.toInt = 0) := fun z => h0 ⟨Int32.toInt_inj.mp z.1, Int32.toInt_inj.mp z.2⟩
  refine ⟨_, e, by omega, by omega, ?_⟩
  rw [Int64.toInt_neg, e, rr_bm (by omega) (by omega)]
theorem rr_le4 {l h m k : Int32} (h1 : l ≤ h) (h0 : ¬ (m = 0 ∧ k = 0)) : (rr_rs l.toInt64 h.toInt64 m.toInt64 k.toInt64).1 ≤ (rr_rs l.toInt64 h.toInt64 m.toInt64 k.toInt64).2 := by
  obtain ⟨w, e1, w1, w2, e2⟩ := rr_am_t h0
  have a1 := rr_bd l; have a2 := rr_bd h
  rw [Int32.le_iff_toInt_le] at h1
  unfold rr_rs
  simp only [Int64.le_iff_toInt_le, rr_0L, Int32.toInt_toInt64]
  split
  · simp only [rr_mn_t, rr_0L, e1, Int32.toInt_toInt64]
    omega
  · split
    · simp only [rr_mx_t, rr_0L, e2, Int32.toInt_toInt64]
      omega
    · simp only [rr_mx_t, rr_mn_t, rr_0L, e1, e2, Int32.toInt_toInt64]
      omega
theorem rr_le5 {l h m k : Int32} (h1 : l ≤ h) (h2 : m ≤ k) : (rr_o5 l h m k).1 ≤ (rr_o5 l h m k).2 := by
  rw [Int32.le_iff_toInt_le] at h1 h2
  unfold rr_o5
  simp only [Int32.lt_iff_toInt_lt, rr_0I]
  split
  · decide
  · split
    · rw [Int64.le_iff_toInt_le, rr_0L, Int32.toInt_toInt64]; omega
    · split
      · rw [Int64.le_iff_toInt_le, rr_0L, Int32.toInt_toInt64]; omega
      · rw [Int64.le_iff_toInt_le, rr_0L, Int32.toInt_toInt64, rr_ni_t]; omega
theorem rr_on_lt (v : Int32) : ∀ (k a : Nat), (a + 1) * 2 ^ k ≤ 2147483648 → rr_on v k a + 1 ≤ 2147483648
  | 0, a, h => by
    show a + 1 ≤ _
    simpa using h
  | k + 1, a, h => by
    have h3 : (a + 1) * 2 ^ (k + 1) = (2 * a + 1 + 1) * 2 ^ k := by
      rw [Nat.pow_succ, Nat.mul_comm (2 ^ k) 2, ← Nat.mul_assoc]
      congr 1
      omega
    unfold rr_on
    split
    · exact rr_on_lt v k (2 * a + 1) (by rw [← h3]; exact h)
    · exact Nat.le_trans (Nat.le_mul_of_pos_right _ (Nat.pow_pos (by decide))) h
theorem rr_on_b (v : Int32) : rr_on v 31 0 < 2147483648 := rr_on_lt v 31 0 (by decide)
theorem rr_le6 (l h m k : Int32) : (rr_o6 l h m k).1 ≤ (rr_o6 l h m k).2 := by
  unfold rr_o6
  split
  · decide
  · rw [Int64.le_iff_toInt_le, rr_0L]
    show 0 ≤ (lN _).toInt
    rw [lN_toInt (rr_on_b _)]
    omega
theorem rr_by_d : ∀ j, j < 32 → (1 : Int64) <<< ((nI j).toInt64 &&& 63) = lN (2 ^ j) := by decide +kernel
theorem rr_by_t (m : Int32) : 0 ≤ (rr_by m).toInt ∧ (rr_by m).toInt ≤ 2147483648 := by
  obtain ⟨j, hj, e⟩ := pk_andE m (m := 31) 5 (by decide)
  have hj : j < 32 := hj
  unfold rr_by
  rw [e, rr_by_d j hj]
  have h1 : 2 ^ j ≤ 2 ^ 31 := Nat.pow_le_pow_right (by decide) (by omega)
  generalize 2 ^ j = q at h1 ⊢
  have h2 : (2 : Nat) ^ 31 = 2147483648 := by decide
  rw [pk_lT (by omega)]
  omega
theorem rr_mul_t {L B : Int} (h1 : -2147483648 ≤ L) (h2 : L < 2147483648) (h3 : 0 ≤ B) (h4 : B ≤ 2147483648) : -4611686018427387904 ≤ L * B ∧ L * B ≤ 4611686018427387904 := by
  have a1 : -2147483648 * B ≤ L * B := Int.mul_le_mul_of_nonneg_right h1 h3
  have a2 : L * B ≤ 2147483648 * B := Int.mul_le_mul_of_nonneg_right (by omega) h3
  omega
theorem rr_le8 {l h : Int32} (m k : Int32) (h1 : l ≤ h) : (rr_o8 l h m k).1 ≤ (rr_o8 l h m k).2 := by
  have a1 := rr_bd l; have a2 := rr_bd h; have a3 := rr_by_t m
  rw [Int32.le_iff_toInt_le] at h1
  unfold rr_o8
  split
  · rw [Int64.le_iff_toInt_le, Int64.toInt_mul, Int64.toInt_mul, Int32.toInt_toInt64, Int32.toInt_toInt64]
    have b1 := rr_mul_t a1.1 a1.2 a3.1 a3.2
    have b2 := rr_mul_t a2.1 a2.2 a3.1 a3.2
    rw [rr_bm (by omega) (by omega), rr_bm (by omega) (by omega)]
    exact Int.mul_le_mul_of_nonneg_right h1 a3.1
  · decide
theorem rr_o8x {l h m : Int32} (h1 : l ≤ h) : rr_o2 l.toInt64 h.toInt64 (rr_by m) (rr_by m) = (l.toInt64 * rr_by m, h.toInt64 * rr_by m) := by
  have h2 := rr_le8 m m h1
  unfold rr_o8 at h2
  rw [if_pos rfl, Int64.le_iff_toInt_le] at h2
  unfold rr_o2
  refine Prod.ext ?_ ?_
  · show rr_mn _ _ = _
    rw [← Int64.toInt_inj]
    simp only [rr_mn_t] at *
    omega
  · show rr_mx _ _ = _
    rw [← Int64.toInt_inj]
    simp only [rr_mx_t] at *
    omega
theorem rr_sh_d : ∀ j, j < 32 → ((nI j &&& 31).toBitVec.smod 32).toNat = j := by decide +kernel
theorem rr_le9 {l h : Int32} (m k : Int32) (h1 : l ≤ h) : (rr_o9 l h m k).1 ≤ (rr_o9 l h m k).2 := by
  have a1 := rr_bd l; have a2 := rr_bd h
  rw [Int32.le_iff_toInt_le] at h1
  unfold rr_o9
  split
  · obtain ⟨j, hj, e⟩ := pk_andE m (m := 31) 5 (by decide)
    have hj : j < 32 := hj
    rw [e, Int64.le_iff_toInt_le, Int32.toInt_toInt64, Int32.toInt_toInt64, pk_shr l _ j (rr_sh_d j hj), pk_shr h _ j (rr_sh_d j hj), Int.shiftRight_eq_div_pow, Int.shiftRight_eq_div_pow]
    exact Int.ediv_le_ediv (by exact_mod_cast Nat.pow_pos (by decide)) h1
  · rw [Int64.le_iff_toInt_le, Int32.toInt_toInt64, Int32.toInt_toInt64, rr_ni_t, rr_xi_t, rr_0I, rr_nI1]
    omega
theorem rr_ten {x : Int32} (h0 : ¬ x < 0) (h9 : ¬ 9 < x) : x = 0 ∨ x = 1 ∨ x = 2 ∨ x = 3 ∨ x = 4 ∨ x = 5 ∨ x = 6 ∨ x = 7 ∨ x = 8 ∨ x = 9 := by
  obtain ⟨j, hj, e⟩ := nI_of2 (x := x) (M := 9) (n := 9) (by decide) h0 (Int32.not_lt.mp h9)
  subst e
  have h : ∀ j, j ≤ 9 → nI j = 0 ∨ nI j = 1 ∨ nI j = 2 ∨ nI j = 3 ∨ nI j = 4 ∨ nI j = 5 ∨ nI j = 6 ∨ nI j = 7 ∨ nI j = 8 ∨ nI j = 9 := by decide
  exact h j hj
theorem rr_qc_in {m n d : Int64} (h0 : ¬ d = 0) (h1 : m ≤ d) (h2 : d ≤ n) : rr_qc m n d = decide (¬ d = 0) := by
  unfold rr_qc
  simp [h0, h1, h2]
theorem rr_qc_lo {m n d : Int64} (h1 : d < m) : rr_qc m n d = false := by
  unfold rr_qc
  exact decide_eq_false (fun z => absurd z.2.1 (Int64.not_le.mpr h1))
theorem rr_qc_hi {m n d : Int64} (h1 : n < d) : rr_qc m n d = false := by
  unfold rr_qc
  exact decide_eq_false (fun z => absurd z.2.2 (Int64.not_le.mpr h1))
theorem rr_qm_no {l h d : Int64} {z : Int64 × Int64} : rr_qm false l h d z = z := rfl
theorem rr_64 {x y : Int32} (h : x ≤ y) : x.toInt64 ≤ y.toInt64 := by
  rw [Int64.le_iff_toInt_le, Int32.toInt_toInt64, Int32.toInt_toInt64]
  exact Int32.le_iff_toInt_le.mp h
-- for the reference's side
theorem rr_dn_x {f : Nat → Int32} {v : Int32} {i : Nat} (h : f i ≤ v) : rr_dn f v (i + 1) = rr_xi (rr_dn f v i) (f i) := by
  show (if f i ≤ v ∧ rr_dn f v i < f i then f i else rr_dn f v i) = (if rr_dn f v i < f i then f i else rr_dn f v i)
  by_cases h1 : rr_dn f v i < f i
  · rw [if_pos ⟨h, h1⟩, if_pos h1]
  · rw [if_neg (fun z => h1 z.2), if_neg h1]
theorem rr_up_x {f : Nat → Int32} {v : Int32} {i : Nat} (h : v ≤ f i) : rr_up f v (i + 1) = rr_ni (rr_up f v i) (f i) := by
  show (if v ≤ f i ∧ f i < rr_up f v i then f i else rr_up f v i) = (if f i < rr_up f v i then f i else rr_up f v i)
  by_cases h1 : f i < rr_up f v i
  · rw [if_pos ⟨h, h1⟩, if_pos h1]
  · rw [if_neg (fun z => h1 z.2), if_neg h1]
theorem rr_on_c {v : Int32} {a : Nat} (ha : a < 2147483648) : v.toInt64 ≤ lN a ↔ ¬ nI a < v := by
  rw [Int64.le_iff_toInt_le, Int32.lt_iff_toInt_lt, Int32.toInt_toInt64, lN_toInt ha, nI_toInt ha]
  omega
theorem rr_wi32 {w : Int64} (h1 : -2147483648 ≤ w) (h2 : w ≤ 2147483647) (x : Int32) : x.toInt64 = w ↔ x = w.toInt32 := by
  rw [Int64.le_iff_toInt_le, rr_m64] at h1
  rw [Int64.le_iff_toInt_le, rr_x64] at h2
  rw [← Int64.toInt_inj, ← Int32.toInt_inj, Int32.toInt_toInt64, Int64.toInt_toInt32, rr_bm32 h1 (by omega)]
theorem rr_fd_not {f : Nat → Int32} {v : Int32} : ∀ {k : Nat}, (∀ j, j < k → ¬ f j = v) → rr_fd f v k = false
  | 0, _ => rfl
  | k + 1, h => by
    show (rr_fd f v k || decide (f k = v)) = false
    rw [rr_fd_not (fun j hj => h j (Nat.lt_succ_of_lt hj)), decide_eq_false (h k (Nat.lt_succ_self k))]
    rfl
theorem rr_first_ne : ∀ k, k < 7 → ∀ j, j < k → ¬ rr_first j = rr_first k := by decide
theorem rr_c7 {g : Nat → Int32} {w : Int64} (k : Nat) (hk : k < 7) (hg : ∀ j, j < k → g j = rr_first j) (hw : w = (rr_first k).toInt64) : ∃ g1 : Nat → Int32, rr_al g k w = (g1, k + 1) ∧ ∀ j, j < k + 1 → g1 j = rr_first j := by
  refine ⟨upd g k (rr_first k), ?_, fun j hj => ?_⟩
  · rw [hw, rr_e3]
    unfold rr_ad
    rw [if_neg]
    rw [rr_fd_not (fun j hj => by rw [hg j hj]; exact rr_first_ne k hk j hj)]
    decide
  · show (if j = k then rr_first k else g j) = _
    by_cases h : j = k
    · rw [if_pos h, h]
    · rw [if_neg h]
      exact hg j (by omega)
theorem rr_t1 (v : Int32) : ¬ 0 < lg_cmp (v.toInt64 - 1) (v.toInt64 + 1) := by
  rw [lg_cmp_gt, Int64.lt_iff_toInt_lt, rr_sub1, rr_add1]
  omega
theorem rr_t2 (v : Int32) : ¬ 0 < lg_cmp v.toInt64 (v.toInt64 + 1) := by
  rw [lg_cmp_gt, Int64.lt_iff_toInt_lt, rr_add1, Int32.toInt_toInt64]
  omega
theorem rr_t3 (v : Int32) : ¬ 0 < lg_cmp (v.toInt64 + 1) (v.toInt64 + 1) := by
  rw [lg_cmp_gt, Int64.lt_iff_toInt_lt]
  omega
theorem rr_t4 (v : Int32) : 0 < lg_cmp (v.toInt64 + 1 + 1) (v.toInt64 + 1) := by
  have hb := rr_bd v
  rw [lg_cmp_gt, Int64.lt_iff_toInt_lt, Int64.toInt_add (v.toInt64 + 1), rr_add1, rr_1L, rr_bm (by omega) (by omega)]
  omega
theorem rr_z64 {x : Int32} : x.toInt64 = 0 ↔ x = 0 := by
  rw [← Int64.toInt_inj, ← Int32.toInt_inj, Int32.toInt_toInt64, rr_0L, rr_0I]
theorem rr_ge64 {x : Int32} : (0 : Int64) ≤ x.toInt64 ↔ ¬ x < 0 := by
  rw [Int64.le_iff_toInt_le, Int32.lt_iff_toInt_lt, Int32.toInt_toInt64, rr_0L, rr_0I]
  omega
theorem rr_le64 {x : Int32} : x.toInt64 ≤ 0 ↔ ¬ 0 < x := by
  rw [Int64.le_iff_toInt_le, Int32.lt_iff_toInt_lt, Int32.toInt_toInt64, rr_0L, rr_0I]
  omega
