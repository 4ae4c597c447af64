/-! what the methods compute, in plain words: the thresholds are f 0 .. f (n - 1) -/
def rr_dn (f : Nat → Int32) (v : Int32) : Nat → Int32
  | 0 => -2147483648
  | k + 1 => if f k ≤ v ∧ rr_dn f v k < f k then f k else rr_dn f v k
def rr_up (f : Nat → Int32) (v : Int32) : Nat → Int32
  | 0 => 2147483647
  | k + 1 => if v ≤ f k ∧ f k < rr_up f v k then f k else rr_up f v k
def rr_fd (f : Nat → Int32) (v : Int32) : Nat → Bool
  | 0 => false
  | k + 1 => rr_fd f v k || decide (f k = v)
def rr_ad (f : Nat → Int32) (n : Nat) (v : Int32) : (Nat → Int32) × Nat := if rr_fd f v n = true then (f, n) else (upd f n v, n + 1)
def rr_al (f : Nat → Int32) (n : Nat) (w : Int64) : (Nat → Int32) × Nat := if -2147483648 ≤ w ∧ w ≤ 2147483647 then rr_ad f n w.toInt32 else (f, n)
def rr_ar (f : Nat → Int32) (n : Nat) (v : Int32) : (Nat → Int32) × Nat := rr_al (rr_al (rr_al f n (v.toInt64 - 1)).1 (rr_al f n (v.toInt64 - 1)).2 v.toInt64).1 (rr_al (rr_al f n (v.toInt64 - 1)).1 (rr_al f n (v.toInt64 - 1)).2 v.toInt64).2 (v.toInt64 + 1)
def rr_first (j : Nat) : Int32 := if j = 0 then -2147483648 else if j = 1 then -2147483647 else if j = 2 then -1 else if j = 3 then 0 else if j = 4 then 1 else if j = 5 then 2147483646 else 2147483647
def rr_ok (f : Nat → Int32) (n : Nat) : Prop := 7 ≤ n ∧ ∀ j, j < 7 → f j = rr_first j
def rr_rg (f : Nat → Int32) (n : Nat) (l h : Int32) : Bool := decide (l ≤ h) && (rr_fd f l n && rr_fd f h n)
def rr_tl (f : Nat → Int32) (n : Nat) (x y : Int64) : Int32 × Int32 := if (-2147483648 ≤ x ∧ x ≤ 2147483647) ∧ -2147483648 ≤ y ∧ y ≤ 2147483647 then (rr_dn f x.toInt32 n, rr_up f y.toInt32 n) else (-2147483648, 2147483647)
def rr_mn (x y : Int64) : Int64 := if y < x then y else x
def rr_mx (x y : Int64) : Int64 := if y < x then x else y
def rr_ab (x : Int64) : Int64 := if 0 < x then x else -x
def rr_ni (x y : Int32) : Int32 := if y < x then y else x
def rr_xi (x y : Int32) : Int32 := if x < y then y else x
def rr_qc (m n d : Int64) : Bool := decide (¬ d = 0 ∧ m ≤ d ∧ d ≤ n)
def rr_qm (c : Bool) (l h d : Int64) (z : Int64 × Int64) : Int64 × Int64 := if c = true then (rr_mn z.1 (rr_mn (l / d) (h / d)), rr_mx z.2 (rr_mx (l / d) (h / d))) else z
def rr_q0 : Int64 × Int64 := (9223372036854775807, -9223372036854775808)
def rr_qs (l h m n : Int64) : Int64 × Int64 := rr_qm (rr_qc m n n) l h n (rr_qm (rr_qc m n m) l h m (rr_qm (rr_qc m n 1) l h 1 (rr_qm (rr_qc m n (-1)) l h (-1) rr_q0)))
def rr_rs (l h m n : Int64) : Int64 × Int64 := if 0 ≤ l then (0, rr_mn h (rr_mx (rr_ab m) (rr_ab n) - 1)) else if h ≤ 0 then (rr_mx l (-(rr_mx (rr_ab m) (rr_ab n) - 1)), 0) else (rr_mx l (-(rr_mx (rr_ab m) (rr_ab n) - 1)), rr_mn h (rr_mx (rr_ab m) (rr_ab n) - 1))
def rr_on (v : Int32) : Nat → Nat → Nat
  | 0, a => a
  | k + 1, a => if nI a < v then rr_on v k (2 * a + 1) else a
def rr_by (m : Int32) : Int64 := (1 : Int64) <<< ((m &&& 31).toInt64 &&& 63)
def rr_o2 (l h m n : Int64) : Int64 × Int64 := (rr_mn (rr_mn (l * m) (l * n)) (rr_mn (h * m) (h * n)), rr_mx (rr_mx (l * m) (l * n)) (rr_mx (h * m) (h * n)))
def rr_o5 (l h m k : Int32) : Int64 × Int64 := if l < 0 ∧ m < 0 then (-2147483648, 2147483647) else if l < 0 then (0, k.toInt64) else if m < 0 then (0, h.toInt64) else (0, (rr_ni h k).toInt64)
def rr_o6 (l h m k : Int32) : Int64 × Int64 := if l < 0 ∨ m < 0 then (-2147483648, 2147483647) else (0, lN (rr_on (rr_xi h k) 31 0))
def rr_o8 (l h m k : Int32) : Int64 × Int64 := if m = k then (l.toInt64 * rr_by m, h.toInt64 * rr_by m) else (-2147483648, 2147483647)
def rr_o9 (l h m k : Int32) : Int64 × Int64 := if m = k then ((l >>> ((m &&& 31) &&& 31)).toInt64, (h >>> ((m &&& 31) &&& 31)).toInt64) else ((rr_ni l 0).toInt64, (rr_xi h (-1)).toInt64)
def rr_op (op l h m k : Int32) : Int64 × Int64 :=
  if op = 0 then (l.toInt64 + m.toInt64, h.toInt64 + k.toInt64)
  else if op = 1 then (l.toInt64 - k.toInt64, h.toInt64 - m.toInt64)
  else if op = 2 then rr_o2 l.toInt64 h.toInt64 m.toInt64 k.toInt64
  else if op = 3 then rr_qs l.toInt64 h.toInt64 m.toInt64 k.toInt64
  else if op = 4 then rr_rs l.toInt64 h.toInt64 m.toInt64 k.toInt64
  else if op = 5 then rr_o5 l h m k
  else if op = 6 ∨ op = 7 then rr_o6 l h m k
  else if op = 8 then rr_o8 l h m k
  else rr_o9 l h m k
def rr_wk (f : Nat → Int32) (n : Nat) (lo hi op l h m k : Int32) : Int32 × Int32 × Int32 :=
  if (¬ op < 0 ∧ ¬ 9 < op) ∧ rr_rg f n l h = true ∧ rr_rg f n m k = true then
    (if (op = 3 ∨ op = 4) ∧ m = 0 ∧ k = 0 then (0, lo, hi) else (1, rr_tl f n (rr_op op l h m k).1 (rr_op op l h m k).2))
  else (-1, lo, hi)
def rr_ng (f : Nat → Int32) (n : Nat) (lo hi l h : Int32) : Int32 × Int32 × Int32 := if rr_rg f n l h = true then (1, rr_tl f n (-h.toInt64) (-l.toInt64)) else (0, lo, hi)
-- numbers
theorem rr_m32 : (-2147483648 : Int32).toInt = -2147483648 := rfl
theorem rr_x32 : (2147483647 : Int32).toInt = 2147483647 := rfl
theorem rr_m64 : (-2147483648 : Int64).toInt = -2147483648 := rfl
theorem rr_x64 : (2147483647 : Int64).toInt = 2147483647 := rfl
theorem rr_mL : (-9223372036854775808 : Int64).toInt = -9223372036854775808 := rfl
theorem rr_xL : (9223372036854775807 : Int64).toInt = 9223372036854775807 := rfl
theorem rr_0L : (0 : Int64).toInt = 0 := rfl
theorem rr_1L : (1 : Int64).toInt = 1 := rfl
theorem rr_nL : (-1 : Int64).toInt = -1 := rfl
theorem rr_0I : (0 : Int32).toInt = 0 := rfl
theorem rr_nI1 : (-1 : Int32).toInt = -1 := rfl
theorem rr_bm {x : Int} (h1 : -9223372036854775808 ≤ x) (h2 : x < 9223372036854775808) : x.bmod (2 ^ 64) = x := by
  rw [Int.bmod_def]
  split <;> omega
theorem rr_bm32 {x : Int} (h1 : -2147483648 ≤ x) (h2 : x < 2147483648) : x.bmod (2 ^ 32) = x := by
  rw [Int.bmod_def]
  split <;> omega
theorem rr_bd (x : Int32) : -2147483648 ≤ x.toInt ∧ x.toInt < 2147483648 := ⟨x.le_toInt, x.toInt_lt⟩
theorem rr_bdL (x : Int64) : -9223372036854775808 ≤ x.toInt ∧ x.toInt < 9223372036854775808 := ⟨x.le_toInt, x.toInt_lt⟩
-- down and up
theorem rr_dn_le (f : Nat → Int32) (v : Int32) : ∀ k, rr_dn f v k ≤ v
  | 0 => by
    show (-2147483648 : Int32) ≤ v
    rw [Int32.le_iff_toInt_le, rr_m32]
    exact (rr_bd v).1
  | k + 1 => by
    unfold rr_dn
    split
    · rename_i h; exact h.1
    · exact rr_dn_le f v k
theorem rr_up_ge (f : Nat → Int32) (v : Int32) : ∀ k, v ≤ rr_up f v k
  | 0 => by
    show v ≤ (2147483647 : Int32)
    rw [Int32.le_iff_toInt_le, rr_x32]
    have := (rr_bd v).2
    omega
  | k + 1 => by
    unfold rr_up
    split
    · rename_i h; exact h.1
    · exact rr_up_ge f v k
theorem rr_dn_fd (f : Nat → Int32) (v : Int32) : ∀ k, rr_fd f v k = true → rr_dn f v k = v
  | 0, h => by simp [rr_fd] at h
  | k + 1, h => by
    have hle := rr_dn_le f v k
    have ih := rr_dn_fd f v k
    simp only [rr_fd, Bool.or_eq_true, decide_eq_true_eq] at h
    unfold rr_dn
    simp only [Int32.le_iff_toInt_le, Int32.lt_iff_toInt_lt, ← Int32.toInt_inj] at *
    split
    · rename_i h1
      rcases h with h | h
      · have := ih h; omega
      · exact h
    · rename_i h1
      rcases h with h | h
      · exact ih h
      · omega
theorem rr_fd_dn (f : Nat → Int32) (v : Int32) : ∀ k, rr_dn f v k = v → v = -2147483648 ∨ rr_fd f v k = true
  | 0, h => Or.inl h.symm
  | k + 1, h => by
    unfold rr_dn at h
    simp only [rr_fd, Bool.or_eq_true, decide_eq_true_eq]
    split at h
    · exact Or.inr (Or.inr h)
    · rcases rr_fd_dn f v k h with h1 | h1
      · exact Or.inl h1
      · exact Or.inr (Or.inl h1)
theorem rr_up_fd (f : Nat → Int32) (v : Int32) : ∀ k, rr_fd f v k = true → rr_up f v k = v
  | 0, h => by simp [rr_fd] at h
  | k + 1, h => by
    have hle := rr_up_ge f v k
    have ih := rr_up_fd f v k
    simp only [rr_fd, Bool.or_eq_true, decide_eq_true_eq] at h
    unfold rr_up
    simp only [Int32.le_iff_toInt_le, Int32.lt_iff_toInt_lt, ← Int32.toInt_inj] at *
    split
    · rename_i h1
      rcases h with h | h
      · have := ih h; omega
      · exact h
    · rename_i h1
      rcases h with h | h
      · exact ih h
      · omega
theorem rr_fd_up (f : Nat → Int32) (v : Int32) : ∀ k, rr_up f v k = v → v = 2147483647 ∨ rr_fd f v k = true
  | 0, h => Or.inl h.symm
  | k + 1, h => by
    unfold rr_up at h
    simp only [rr_fd, Bool.or_eq_true, decide_eq_true_eq]
    split at h
    · exact Or.inr (Or.inr h)
    · rcases rr_fd_up f v k h with h1 | h1
      · exact Or.inl h1
      · exact Or.inr (Or.inl h1)
theorem rr_fd_of {f : Nat → Int32} {v : Int32} {j : Nat} : ∀ {k : Nat}, j < k → f j = v → rr_fd f v k = true
  | 0, h, _ => absurd h (Nat.not_lt_zero _)
  | k + 1, h, e => by
    simp only [rr_fd, Bool.or_eq_true, decide_eq_true_eq]
    by_cases hj : j = k
    · exact Or.inr (hj ▸ e)
    · exact Or.inl (rr_fd_of (by omega) e)
theorem rr_dn_iff {f : Nat → Int32} {n : Nat} (h : rr_ok f n) (v : Int32) : rr_dn f v n = v ↔ rr_fd f v n = true := by
  refine ⟨fun e => ?_, rr_dn_fd f v n⟩
  rcases rr_fd_dn f v n e with h1 | h1
  · exact rr_fd_of (j := 0) (by have := h.1; omega) (by rw [h.2 0 (by decide), h1]; rfl)
  · exact h1
theorem rr_up_iff {f : Nat → Int32} {n : Nat} (h : rr_ok f n) (v : Int32) : rr_up f v n = v ↔ rr_fd f v n = true := by
  refine ⟨fun e => ?_, rr_up_fd f v n⟩
  rcases rr_fd_up f v n e with h1 | h1
  · exact rr_fd_of (j := 6) (by have := h.1; omega) (by rw [h.2 6 (by decide), h1]; rfl)
  · exact h1
theorem rr_dn_min (f : Nat → Int32) (k : Nat) : rr_dn f (-2147483648) k = -2147483648 := by
  have h := rr_dn_le f (-2147483648) k
  rw [Int32.le_iff_toInt_le, rr_m32] at h
  rw [← Int32.toInt_inj, rr_m32]
  have := (rr_bd (rr_dn f (-2147483648) k)).1
  omega
theorem rr_up_max (f : Nat → Int32) (k : Nat) : rr_up f 2147483647 k = 2147483647 := by
  have h := rr_up_ge f 2147483647 k
  rw [Int32.le_iff_toInt_le, rr_x32] at h
  rw [← Int32.toInt_inj, rr_x32]
  have := (rr_bd (rr_up f 2147483647 k)).2
  omega
theorem rr_tl_all (f : Nat → Int32) (n : Nat) : rr_tl f n (-2147483648) 2147483647 = (-2147483648, 2147483647) := by
  unfold rr_tl
  rw [if_pos (by decide)]
  show (rr_dn f (-2147483648) n, rr_up f 2147483647 n) = _
  rw [rr_dn_min, rr_up_max]
