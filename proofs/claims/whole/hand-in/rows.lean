section
-- ===== PART A: goes FIRST, ahead of the names: the tables' words, and 'selects' of the private methods out of them =====
/-- a private method of a class that the tables say can be made, by its rows of tables_1 -/
def lw_okq (q : MethodName × Nat) : Prop := (q.1.cls ≠ "java/lang/invoke/MethodHandle" ∧ q.1.cls ≠ "java/lang/invoke/VarHandle") ∧ Cond.instantiable q.1.cls q.2 ∈ tables_1 ∧ Cond.privateMethod q.1 ∈ tables_1 ∧ Cond.instanceMethod q.1 ∈ tables_1
theorem lw_p0 : lw_okq (⟨"RangeRules", "addThreshold", "(I)V"⟩, 6) := ⟨⟨by decide +kernel, by decide +kernel⟩, List.mem_of_getElem? (i := 7) (by decide +kernel), List.mem_of_getElem? (i := 60) (by decide +kernel), List.mem_of_getElem? (i := 61) (by decide +kernel)⟩
theorem lw_p1 : lw_okq (⟨"RangeRules", "isThreshold", "(I)Z"⟩, 6) := ⟨⟨by decide +kernel, by decide +kernel⟩, List.mem_of_getElem? (i := 7) (by decide +kernel), List.mem_of_getElem? (i := 64) (by decide +kernel), List.mem_of_getElem? (i := 65) (by decide +kernel)⟩
theorem lw_p2 : lw_okq (⟨"RangeRules", "isRange", "(II)Z"⟩, 6) := ⟨⟨by decide +kernel, by decide +kernel⟩, List.mem_of_getElem? (i := 7) (by decide +kernel), List.mem_of_getElem? (i := 90) (by decide +kernel), List.mem_of_getElem? (i := 91) (by decide +kernel)⟩
theorem lw_p3 : lw_okq (⟨"RangeRules", "tell", "(JJ)V"⟩, 6) := ⟨⟨by decide +kernel, by decide +kernel⟩, List.mem_of_getElem? (i := 7) (by decide +kernel), List.mem_of_getElem? (i := 94) (by decide +kernel), List.mem_of_getElem? (i := 95) (by decide +kernel)⟩
theorem lw_p4 : lw_okq (⟨"RangeRules", "tellAllInts", "()V"⟩, 6) := ⟨⟨by decide +kernel, by decide +kernel⟩, List.mem_of_getElem? (i := 7) (by decide +kernel), List.mem_of_getElem? (i := 104) (by decide +kernel), List.mem_of_getElem? (i := 105) (by decide +kernel)⟩
theorem lw_p5 : lw_okq (⟨"RangeRules", "multiply", "(JJJJ)V"⟩, 6) := ⟨⟨by decide +kernel, by decide +kernel⟩, List.mem_of_getElem? (i := 7) (by decide +kernel), List.mem_of_getElem? (i := 108) (by decide +kernel), List.mem_of_getElem? (i := 109) (by decide +kernel)⟩
theorem lw_p6 : lw_okq (⟨"RangeRules$Span", "empty", "()V"⟩, 2) := ⟨⟨by decide +kernel, by decide +kernel⟩, List.mem_of_getElem? (i := 20) (by decide +kernel), List.mem_of_getElem? (i := 112) (by decide +kernel), List.mem_of_getElem? (i := 113) (by decide +kernel)⟩
theorem lw_p7 : lw_okq (⟨"RangeRules$Span", "take", "(J)V"⟩, 2) := ⟨⟨by decide +kernel, by decide +kernel⟩, List.mem_of_getElem? (i := 20) (by decide +kernel), List.mem_of_getElem? (i := 118) (by decide +kernel), List.mem_of_getElem? (i := 119) (by decide +kernel)⟩
theorem lw_p8 : lw_okq (⟨"RangeRules", "divide", "(JJJJ)V"⟩, 6) := ⟨⟨by decide +kernel, by decide +kernel⟩, List.mem_of_getElem? (i := 7) (by decide +kernel), List.mem_of_getElem? (i := 128) (by decide +kernel), List.mem_of_getElem? (i := 129) (by decide +kernel)⟩
theorem lw_p9 : lw_okq (⟨"RangeRules", "takeQuotients", "(JJJ)V"⟩, 6) := ⟨⟨by decide +kernel, by decide +kernel⟩, List.mem_of_getElem? (i := 7) (by decide +kernel), List.mem_of_getElem? (i := 132) (by decide +kernel), List.mem_of_getElem? (i := 133) (by decide +kernel)⟩
theorem lw_p10 : lw_okq (⟨"RangeRules", "rest", "(JJJJ)V"⟩, 6) := ⟨⟨by decide +kernel, by decide +kernel⟩, List.mem_of_getElem? (i := 7) (by decide +kernel), List.mem_of_getElem? (i := 137) (by decide +kernel), List.mem_of_getElem? (i := 138) (by decide +kernel)⟩
theorem lw_p11 : lw_okq (⟨"RangeRules", "and", "(IIII)V"⟩, 6) := ⟨⟨by decide +kernel, by decide +kernel⟩, List.mem_of_getElem? (i := 7) (by decide +kernel), List.mem_of_getElem? (i := 146) (by decide +kernel), List.mem_of_getElem? (i := 147) (by decide +kernel)⟩
theorem lw_p12 : lw_okq (⟨"RangeRules", "orOrXor", "(IIII)V"⟩, 6) := ⟨⟨by decide +kernel, by decide +kernel⟩, List.mem_of_getElem? (i := 7) (by decide +kernel), List.mem_of_getElem? (i := 153) (by decide +kernel), List.mem_of_getElem? (i := 154) (by decide +kernel)⟩
theorem lw_p13 : lw_okq (⟨"RangeRules", "shiftLeft", "(IIII)V"⟩, 6) := ⟨⟨by decide +kernel, by decide +kernel⟩, List.mem_of_getElem? (i := 7) (by decide +kernel), List.mem_of_getElem? (i := 163) (by decide +kernel), List.mem_of_getElem? (i := 164) (by decide +kernel)⟩
theorem lw_p14 : lw_okq (⟨"RangeRules", "shiftRight", "(IIII)V"⟩, 6) := ⟨⟨by decide +kernel, by decide +kernel⟩, List.mem_of_getElem? (i := 7) (by decide +kernel), List.mem_of_getElem? (i := 167) (by decide +kernel), List.mem_of_getElem? (i := 168) (by decide +kernel)⟩
theorem lw_p15 : lw_okq (⟨"RangeRulesModel", "add", "(J)V"⟩, 5) := ⟨⟨by decide +kernel, by decide +kernel⟩, List.mem_of_getElem? (i := 183) (by decide +kernel), List.mem_of_getElem? (i := 194) (by decide +kernel), List.mem_of_getElem? (i := 195) (by decide +kernel)⟩
def lw_privs_1 : List (MethodName × Nat) := [(⟨"RangeRules", "addThreshold", "(I)V"⟩, 6), (⟨"RangeRules", "isThreshold", "(I)Z"⟩, 6), (⟨"RangeRules", "isRange", "(II)Z"⟩, 6), (⟨"RangeRules", "tell", "(JJ)V"⟩, 6), (⟨"RangeRules", "tellAllInts", "()V"⟩, 6), (⟨"RangeRules", "multiply", "(JJJJ)V"⟩, 6), (⟨"RangeRules$Span", "empty", "()V"⟩, 2), (⟨"RangeRules$Span", "take", "(J)V"⟩, 2), (⟨"RangeRules", "divide", "(JJJJ)V"⟩, 6), (⟨"RangeRules", "takeQuotients", "(JJJ)V"⟩, 6), (⟨"RangeRules", "rest", "(JJJJ)V"⟩, 6), (⟨"RangeRules", "and", "(IIII)V"⟩, 6), (⟨"RangeRules", "orOrXor", "(IIII)V"⟩, 6), (⟨"RangeRules", "shiftLeft", "(IIII)V"⟩, 6), (⟨"RangeRules", "shiftRight", "(IIII)V"⟩, 6), (⟨"RangeRulesModel", "add", "(J)V"⟩, 5)]
theorem lw_r1 : ∀ q ∈ lw_privs_1, lw_okq q := List.forall_mem_cons.mpr ⟨lw_p0, List.forall_mem_cons.mpr ⟨lw_p1, List.forall_mem_cons.mpr ⟨lw_p2, List.forall_mem_cons.mpr ⟨lw_p3, List.forall_mem_cons.mpr ⟨lw_p4, List.forall_mem_cons.mpr ⟨lw_p5, List.forall_mem_cons.mpr ⟨lw_p6, List.forall_mem_cons.mpr ⟨lw_p7, List.forall_mem_cons.mpr ⟨lw_p8, List.forall_mem_cons.mpr ⟨lw_p9, List.forall_mem_cons.mpr ⟨lw_p10, List.forall_mem_cons.mpr ⟨lw_p11, List.forall_mem_cons.mpr ⟨lw_p12, List.forall_mem_cons.mpr ⟨lw_p13, List.forall_mem_cons.mpr ⟨lw_p14, List.forall_mem_cons.mpr ⟨lw_p15, fun _ h => absurd h List.not_mem_nil⟩⟩⟩⟩⟩⟩⟩⟩⟩⟩⟩⟩⟩⟩⟩⟩
theorem lw_p16 : lw_okq (⟨"RangeRulesModel", "isRange", "(II)Z"⟩, 5) := ⟨⟨by decide +kernel, by decide +kernel⟩, List.mem_of_getElem? (i := 183) (by decide +kernel), List.mem_of_getElem? (i := 242) (by decide +kernel), List.mem_of_getElem? (i := 243) (by decide +kernel)⟩
theorem lw_p17 : lw_okq (⟨"RangeRulesModel", "tell", "(JJ)I"⟩, 5) := ⟨⟨by decide +kernel, by decide +kernel⟩, List.mem_of_getElem? (i := 183) (by decide +kernel), List.mem_of_getElem? (i := 248) (by decide +kernel), List.mem_of_getElem? (i := 249) (by decide +kernel)⟩
theorem lw_p18 : lw_okq (⟨"RangeRulesModel", "tellLeast", "(JJJJ)I"⟩, 5) := ⟨⟨by decide +kernel, by decide +kernel⟩, List.mem_of_getElem? (i := 183) (by decide +kernel), List.mem_of_getElem? (i := 256) (by decide +kernel), List.mem_of_getElem? (i := 257) (by decide +kernel)⟩
theorem lw_p19 : lw_okq (⟨"RangeRulesModel", "quotient", "(IIII)I"⟩, 5) := ⟨⟨by decide +kernel, by decide +kernel⟩, List.mem_of_getElem? (i := 183) (by decide +kernel), List.mem_of_getElem? (i := 262) (by decide +kernel), List.mem_of_getElem? (i := 263) (by decide +kernel)⟩
theorem lw_p20 : lw_okq (⟨"RangeRulesModel", "rest", "(IIJJ)I"⟩, 5) := ⟨⟨by decide +kernel, by decide +kernel⟩, List.mem_of_getElem? (i := 183) (by decide +kernel), List.mem_of_getElem? (i := 268) (by decide +kernel), List.mem_of_getElem? (i := 269) (by decide +kernel)⟩
theorem lw_p21 : lw_okq (⟨"RangeRulesModel", "tellAll", "()I"⟩, 5) := ⟨⟨by decide +kernel, by decide +kernel⟩, List.mem_of_getElem? (i := 183) (by decide +kernel), List.mem_of_getElem? (i := 273) (by decide +kernel), List.mem_of_getElem? (i := 274) (by decide +kernel)⟩
def lw_privs_2 : List (MethodName × Nat) := [(⟨"RangeRulesModel", "isRange", "(II)Z"⟩, 5), (⟨"RangeRulesModel", "tell", "(JJ)I"⟩, 5), (⟨"RangeRulesModel", "tellLeast", "(JJJJ)I"⟩, 5), (⟨"RangeRulesModel", "quotient", "(IIII)I"⟩, 5), (⟨"RangeRulesModel", "rest", "(IIJJ)I"⟩, 5), (⟨"RangeRulesModel", "tellAll", "()I"⟩, 5)]
theorem lw_r2 : ∀ q ∈ lw_privs_2, lw_okq q := List.forall_mem_cons.mpr ⟨lw_p16, List.forall_mem_cons.mpr ⟨lw_p17, List.forall_mem_cons.mpr ⟨lw_p18, List.forall_mem_cons.mpr ⟨lw_p19, List.forall_mem_cons.mpr ⟨lw_p20, List.forall_mem_cons.mpr ⟨lw_p21, fun _ h => absurd h List.not_mem_nil⟩⟩⟩⟩⟩⟩
def lw_privs : List (MethodName × Nat) := lw_privs_1 ++ (lw_privs_2)
def lw_tbl : List Cond := k2_sels lw_privs ++ tables_1
theorem lw_privs_ok : ∀ q ∈ lw_privs, lw_okq q := by
  show ∀ q ∈ lw_privs_1 ++ (lw_privs_2), lw_okq q
  exact List.forall_mem_append.mpr ⟨lw_r1, lw_r2⟩
end
section
/-! ===== BEGIN words of one list among another's, by their places ===== -/
theorem goodIn_r {big : List Cond} (ws : List Cond) (ps : List Nat) (hp : ws = ps.filterMap (fun i => big[i]?)) (h : ws.all goodWord = true) : GoodIn big ws := by
  intro w hw
  have h1 := List.all_eq_true.mp h w hw
  rw [hp] at hw
  obtain ⟨i, -, hi⟩ := List.mem_filterMap.mp hw
  have hm : w ∈ big := by first | exact List.mem_of_getElem? hi | exact List.getElem?_mem hi
  exact ⟨hm, good_of_word h1⟩
theorem goodIn_app {big a b : List Cond} (ha : GoodIn big a) (hb : GoodIn big b) : GoodIn big (a ++ b) := fun w h => (List.mem_append.mp h).elim (ha w) (hb w)
theorem goodIn_ca {big a b : List Cond} {c : Cond} (ha : GoodIn big (c :: a)) (hb : GoodIn big b) : GoodIn big (c :: (a ++ b)) := fun w h => (List.mem_cons.mp h).elim (fun e => ha w (List.mem_cons.mpr (Or.inl e))) (fun h => (List.mem_append.mp h).elim (fun h => ha w (List.mem_cons.mpr (Or.inr h))) (hb w))
theorem goodIn_sub {big ws : List Cond} (hm : ∀ w ∈ ws, w ∈ big) (h : ws.all goodWord = true) : GoodIn big ws := fun w hw => ⟨hm w hw, good_of_word (List.all_eq_true.mp h w hw)⟩
/-! ===== END ===== -/

/-! ===== BEGIN printed: names, fields, word lists, decode rows ===== -/
def RX0 : String := "RangeRules$Span"
def TX0 : u_T := fun k => match k with
  | 0 => ("RangeRules$Span", "least", "J", false)
  | _ => ("RangeRules$Span", "greatest", "J", false)
def tyX0 : Nat → FieldType := fun k => match k with
  | 0 => .long
  | _ => .long
abbrev wsX00 : List Cond := u_ws RX0 TX0 2
theorem nmX0 : ∀ a, a < 2 → ∀ b, b < 2 → a ≠ b → (TX0 a).2.1 ≠ (TX0 b).2.1 := by decide +kernel
theorem tyX0_ok : ∀ k, k < 2 → parseFieldDescriptor (TX0 k).2.2.1 = some (tyX0 k) := by decide +kernel
abbrev cX0_init : ByteArray := prog_2_method_1_code
def yX0_init : MethodName := ⟨RX0, "<init>", "()V"⟩
abbrev cX0_empty : ByteArray := prog_2_method_2_code
def yX0_empty : MethodName := ⟨RX0, "empty", "()V"⟩
abbrev cX0_take : ByteArray := prog_2_method_3_code
def yX0_take : MethodName := ⟨RX0, "take", "(J)V"⟩
def RX1 : String := "RangeRules"
def TX1 : u_T := fun k => match k with
  | 0 => ("RangeRules", "thresholds", "[I", true)
  | 1 => ("RangeRules", "thresholdCount", "I", false)
  | 2 => ("RangeRules", "aroundCount", "I", false)
  | 3 => ("RangeRules", "resultLow", "I", false)
  | 4 => ("RangeRules", "resultHigh", "I", false)
  | _ => ("RangeRules", "span", "LRangeRules$Span;", true)
def tyX1 : Nat → FieldType := fun k => match k with
  | 0 => .array .int
  | 1 => .int
  | 2 => .int
  | 3 => .int
  | 4 => .int
  | _ => .object "RangeRules$Span"
abbrev wsX10 : List Cond := u_ws RX1 TX1 6
theorem nmX1 : ∀ a, a < 6 → ∀ b, b < 6 → a ≠ b → (TX1 a).2.1 ≠ (TX1 b).2.1 := by decide +kernel
theorem tyX1_ok : ∀ k, k < 6 → parseFieldDescriptor (TX1 k).2.2.1 = some (tyX1 k) := by decide +kernel
abbrev cX1_init : ByteArray := prog_1_method_1_code
def yX1_init : MethodName := ⟨RX1, "<init>", "()V"⟩
abbrev cX1_around : ByteArray := prog_1_method_2_code
def yX1_around : MethodName := ⟨RX1, "around", "(I)I"⟩
abbrev cX1_clear : ByteArray := prog_1_method_3_code
def yX1_clear : MethodName := ⟨RX1, "clear", "()V"⟩
abbrev cX1_size : ByteArray := prog_1_method_4_code
def yX1_size : MethodName := ⟨RX1, "size", "()I"⟩
abbrev cX1_down : ByteArray := prog_1_method_5_code
def yX1_down : MethodName := ⟨RX1, "down", "(I)I"⟩
abbrev cX1_up : ByteArray := prog_1_method_6_code
def yX1_up : MethodName := ⟨RX1, "up", "(I)I"⟩
abbrev cX1_work : ByteArray := prog_1_method_7_code
def yX1_work : MethodName := ⟨RX1, "work", "(IIIII)I"⟩
abbrev cX1_negate : ByteArray := prog_1_method_8_code
def yX1_negate : MethodName := ⟨RX1, "negate", "(II)Z"⟩
abbrev cX1_low : ByteArray := prog_1_method_9_code
def yX1_low : MethodName := ⟨RX1, "low", "()I"⟩
abbrev cX1_high : ByteArray := prog_1_method_10_code
def yX1_high : MethodName := ⟨RX1, "high", "()I"⟩
abbrev cX1_addThreshold : ByteArray := prog_1_method_11_code
def yX1_addThreshold : MethodName := ⟨RX1, "addThreshold", "(I)V"⟩
abbrev cX1_isThreshold : ByteArray := prog_1_method_12_code
def yX1_isThreshold : MethodName := ⟨RX1, "isThreshold", "(I)Z"⟩
abbrev cX1_isRange : ByteArray := prog_1_method_13_code
def yX1_isRange : MethodName := ⟨RX1, "isRange", "(II)Z"⟩
abbrev cX1_tell : ByteArray := prog_1_method_14_code
def yX1_tell : MethodName := ⟨RX1, "tell", "(JJ)V"⟩
abbrev cX1_tellAllInts : ByteArray := prog_1_method_15_code
def yX1_tellAllInts : MethodName := ⟨RX1, "tellAllInts", "()V"⟩
abbrev cX1_isInt : ByteArray := prog_1_method_16_code
def yX1_isInt : MethodName := ⟨RX1, "isInt", "(J)Z"⟩
abbrev cX1_multiply : ByteArray := prog_1_method_17_code
def yX1_multiply : MethodName := ⟨RX1, "multiply", "(JJJJ)V"⟩
abbrev cX1_divide : ByteArray := prog_1_method_18_code
def yX1_divide : MethodName := ⟨RX1, "divide", "(JJJJ)V"⟩
abbrev cX1_takeQuotients : ByteArray := prog_1_method_19_code
def yX1_takeQuotients : MethodName := ⟨RX1, "takeQuotients", "(JJJ)V"⟩
abbrev cX1_rest : ByteArray := prog_1_method_20_code
def yX1_rest : MethodName := ⟨RX1, "rest", "(JJJJ)V"⟩
abbrev cX1_and : ByteArray := prog_1_method_21_code
def yX1_and : MethodName := ⟨RX1, "and", "(IIII)V"⟩
abbrev cX1_orOrXor : ByteArray := prog_1_method_22_code
def yX1_orOrXor : MethodName := ⟨RX1, "orOrXor", "(IIII)V"⟩
abbrev cX1_onesNotBelow : ByteArray := prog_1_method_23_code
def yX1_onesNotBelow : MethodName := ⟨RX1, "onesNotBelow", "(I)I"⟩
abbrev cX1_shiftLeft : ByteArray := prog_1_method_24_code
def yX1_shiftLeft : MethodName := ⟨RX1, "shiftLeft", "(IIII)V"⟩
abbrev cX1_shiftRight : ByteArray := prog_1_method_25_code
def yX1_shiftRight : MethodName := ⟨RX1, "shiftRight", "(IIII)V"⟩
def RX2 : String := "RangeRulesModel"
def TX2 : u_T := fun k => match k with
  | 0 => ("RangeRulesModel", "threshold", "[I", true)
  | 1 => ("RangeRulesModel", "thresholds", "I", false)
  | 2 => ("RangeRulesModel", "times", "I", false)
  | 3 => ("RangeRulesModel", "low", "I", false)
  | _ => ("RangeRulesModel", "high", "I", false)
def tyX2 : Nat → FieldType := fun k => match k with
  | 0 => .array .int
  | 1 => .int
  | 2 => .int
  | 3 => .int
  | _ => .int
abbrev wsX20 : List Cond := u_ws RX2 TX2 5
theorem nmX2 : ∀ a, a < 5 → ∀ b, b < 5 → a ≠ b → (TX2 a).2.1 ≠ (TX2 b).2.1 := by decide +kernel
theorem tyX2_ok : ∀ k, k < 5 → parseFieldDescriptor (TX2 k).2.2.1 = some (tyX2 k) := by decide +kernel
abbrev cX2_init : ByteArray := prog_4_method_1_code
def yX2_init : MethodName := ⟨RX2, "<init>", "()V"⟩
abbrev cX2_clear : ByteArray := prog_4_method_3_code
def yX2_clear : MethodName := ⟨RX2, "clear", "()V"⟩
abbrev cX2_add : ByteArray := prog_4_method_4_code
def yX2_add : MethodName := ⟨RX2, "add", "(J)V"⟩
abbrev cX2_around : ByteArray := prog_4_method_5_code
def yX2_around : MethodName := ⟨RX2, "around", "(I)I"⟩
abbrev cX2_size : ByteArray := prog_4_method_6_code
def yX2_size : MethodName := ⟨RX2, "size", "()I"⟩
abbrev cX2_down : ByteArray := prog_4_method_7_code
def yX2_down : MethodName := ⟨RX2, "down", "(I)I"⟩
abbrev cX2_up : ByteArray := prog_4_method_8_code
def yX2_up : MethodName := ⟨RX2, "up", "(I)I"⟩
abbrev cX2_isRange : ByteArray := prog_4_method_9_code
def yX2_isRange : MethodName := ⟨RX2, "isRange", "(II)Z"⟩
abbrev cX2_tell : ByteArray := prog_4_method_10_code
def yX2_tell : MethodName := ⟨RX2, "tell", "(JJ)I"⟩
abbrev cX2_tellAll : ByteArray := prog_4_method_11_code
def yX2_tellAll : MethodName := ⟨RX2, "tellAll", "()I"⟩
abbrev cX2_tellLeast : ByteArray := prog_4_method_12_code
def yX2_tellLeast : MethodName := ⟨RX2, "tellLeast", "(JJJJ)I"⟩
abbrev cX2_negate : ByteArray := prog_4_method_13_code
def yX2_negate : MethodName := ⟨RX2, "negate", "(II)Z"⟩
abbrev cX2_work : ByteArray := prog_4_method_14_code
def yX2_work : MethodName := ⟨RX2, "work", "(IIIII)I"⟩
abbrev cX2_ones : ByteArray := prog_4_method_15_code
def yX2_ones : MethodName := ⟨RX2, "ones", "(I)J"⟩
abbrev cX2_quotient : ByteArray := prog_4_method_16_code
def yX2_quotient : MethodName := ⟨RX2, "quotient", "(IIII)I"⟩
abbrev cX2_rest : ByteArray := prog_4_method_17_code
def yX2_rest : MethodName := ⟨RX2, "rest", "(IIJJ)I"⟩
abbrev cX2_low : ByteArray := prog_4_method_18_code
def yX2_low : MethodName := ⟨RX2, "low", "()I"⟩
abbrev cX2_high : ByteArray := prog_4_method_19_code
def yX2_high : MethodName := ⟨RX2, "high", "()I"⟩
def RJ9 : String := "java/lang/Math"
def TJ9 : u_T := fun k => match k with
  | _ => ("", "", "", false)
def tyJ9 : Nat → FieldType := fun k => match k with
  | _ => .int
abbrev wsJ90 : List Cond := u_ws RJ9 TJ9 0
theorem nmJ9 : ∀ a, a < 0 → ∀ b, b < 0 → a ≠ b → (TJ9 a).2.1 ≠ (TJ9 b).2.1 := by decide +kernel
theorem tyJ9_ok : ∀ k, k < 0 → parseFieldDescriptor (TJ9 k).2.2.1 = some (tyJ9 k) := by decide +kernel
abbrev cJ9_abs_067f4 : ByteArray := prog_5_method_61_code
def yJ9_abs_067f4 : MethodName := ⟨RJ9, "abs", "(J)J"⟩
abbrev cJ9_max_7cf53 : ByteArray := prog_5_method_65_code
def yJ9_max_7cf53 : MethodName := ⟨RJ9, "max", "(II)I"⟩
abbrev cJ9_max_f86c9 : ByteArray := prog_5_method_66_code
def yJ9_max_f86c9 : MethodName := ⟨RJ9, "max", "(JJ)J"⟩
abbrev cJ9_min_7cf53 : ByteArray := prog_5_method_69_code
def yJ9_min_7cf53 : MethodName := ⟨RJ9, "min", "(II)I"⟩
abbrev cJ9_min_f86c9 : ByteArray := prog_5_method_70_code
def yJ9_min_f86c9 : MethodName := ⟨RJ9, "min", "(JJ)J"⟩
def RJ10 : String := "java/lang/System"
def TJ10 : u_T := fun k => match k with
  | _ => ("", "", "", false)
def tyJ10 : Nat → FieldType := fun k => match k with
  | _ => .int
abbrev wsJ100 : List Cond := u_ws RJ10 TJ10 0
theorem nmJ10 : ∀ a, a < 0 → ∀ b, b < 0 → a ≠ b → (TJ10 a).2.1 ≠ (TJ10 b).2.1 := by decide +kernel
theorem tyJ10_ok : ∀ k, k < 0 → parseFieldDescriptor (TJ10 k).2.2.1 = some (tyJ10 k) := by decide +kernel
def RL : String := "RangeRulesLaw"
abbrev cL_law : ByteArray := code
def yL_law : MethodName := ⟨RL, "law", "([I)Z"⟩
def wsX0_init : List Cond := .code yX0_init cX0_init 1 none :: ([.methodLink RX0 1 objectInit, .instanceMethod objectInit, .code objectInit ⟨#[0xb1]⟩ 1 none])
def wsX0_empty : List Cond := .code yX0_empty cX0_empty 1 none :: ([.constantLong RX0 9 (9223372036854775807), .fieldLink RX0 11 "RangeRules$Span" "least" "J", .constantLong RX0 15 (-9223372036854775808), .fieldLink RX0 17 "RangeRules$Span" "greatest" "J"] ++ wsX00)
def wsX0_take : List Cond := .code yX0_take cX0_take 3 none :: ([.fieldLink RX0 11 "RangeRules$Span" "least" "J", .methodLink RX0 20 Lib.MathLoose.min_long.x, .static Lib.MathLoose.min_long.x, .initialized "java/lang/Math", .code Lib.MathLoose.min_long.x Lib.MathLoose.min_long.code 4 (some .long), .fieldLink RX0 17 "RangeRules$Span" "greatest" "J", .methodLink RX0 26 Lib.MathLoose.max_long.x, .static Lib.MathLoose.max_long.x, .code Lib.MathLoose.max_long.x Lib.MathLoose.max_long.code 4 (some .long)] ++ wsX00)
def wsX1_init : List Cond := .code yX1_init cX1_init 1 none :: ([.methodLink RX1 1 objectInit, .instanceMethod objectInit, .code objectInit ⟨#[0xb1]⟩ 1 none, .fieldLink RX1 7 "RangeRules" "FIRST" "[I", .arrayClass .int, .fieldLink RX1 13 "RangeRules" "thresholds" "[I", .methodLink RX1 16 arraycopyName, .native arraycopyName, .static arraycopyName, .initialized "java/lang/System", .fieldLink RX1 22 "RangeRules" "thresholdCount" "I", .fieldLink RX1 26 "RangeRules" "aroundCount" "I", .fieldLink RX1 29 "RangeRules" "resultLow" "I", .fieldLink RX1 32 "RangeRules" "resultHigh" "I", .classLink RX1 35 RX0, .instantiable RX0 2, .initialized RX0, .fieldLink RX1 38 "RangeRules" "span" "LRangeRules$Span;", .instanceMethod yX0_init, .code yX0_init cX0_init 1 none, .methodLink RX0 1 objectInit] ++ wsX10 ++ wsX00)
def wsX1_down : List Cond := .code yX1_down cX1_down 5 (some .int) :: ([.constant RX1 42 (-2147483648), .fieldLink RX1 22 "RangeRules" "thresholdCount" "I", .fieldLink RX1 13 "RangeRules" "thresholds" "[I"] ++ wsX10)
def wsX1_isThreshold : List Cond := .code yX1_isThreshold cX1_isThreshold 2 (some .boolean) :: ([.methodLink RX1 83 yX1_down, .instanceMethod yX1_down, .selects RX1 yX1_down yX1_down, .initialized RX1, .code yX1_down cX1_down 5 (some .int), .constant RX1 42 (-2147483648), .fieldLink RX1 22 "RangeRules" "thresholdCount" "I", .fieldLink RX1 13 "RangeRules" "thresholds" "[I"] ++ wsX10)
def wsX1_addThreshold : List Cond := .code yX1_addThreshold cX1_addThreshold 2 none :: ([.fieldLink RX1 22 "RangeRules" "thresholdCount" "I", .fieldLink RX1 13 "RangeRules" "thresholds" "[I", .methodLink RX1 79 yX1_isThreshold, .instanceMethod yX1_isThreshold, .selects RX1 yX1_isThreshold yX1_isThreshold, .initialized RX1, .code yX1_isThreshold cX1_isThreshold 2 (some .boolean), .methodLink RX1 83 yX1_down, .instanceMethod yX1_down, .selects RX1 yX1_down yX1_down, .code yX1_down cX1_down 5 (some .int), .constant RX1 42 (-2147483648)] ++ wsX10)
def wsX1_around : List Cond := .code yX1_around cX1_around 2 (some .int) :: ([.fieldLink RX1 26 "RangeRules" "aroundCount" "I", .constant RX1 42 (-2147483648), .constant RX1 47 (2147483647), .fieldLink RX1 22 "RangeRules" "thresholdCount" "I", .methodLink RX1 43 yX1_addThreshold, .instanceMethod yX1_addThreshold, .selects RX1 yX1_addThreshold yX1_addThreshold, .initialized RX1, .code yX1_addThreshold cX1_addThreshold 2 none, .fieldLink RX1 13 "RangeRules" "thresholds" "[I", .methodLink RX1 79 yX1_isThreshold, .instanceMethod yX1_isThreshold, .selects RX1 yX1_isThreshold yX1_isThreshold, .code yX1_isThreshold cX1_isThreshold 2 (some .boolean), .methodLink RX1 83 yX1_down, .instanceMethod yX1_down, .selects RX1 yX1_down yX1_down, .code yX1_down cX1_down 5 (some .int)] ++ wsX10)
def wsX1_clear : List Cond := .code yX1_clear cX1_clear 1 none :: ([.fieldLink RX1 7 "RangeRules" "FIRST" "[I", .fieldLink RX1 22 "RangeRules" "thresholdCount" "I", .fieldLink RX1 26 "RangeRules" "aroundCount" "I"] ++ wsX10)
def wsX1_size : List Cond := .code yX1_size cX1_size 1 (some .int) :: ([.fieldLink RX1 22 "RangeRules" "thresholdCount" "I"] ++ wsX10)
def wsX1_up : List Cond := .code yX1_up cX1_up 5 (some .int) :: ([.constant RX1 47 (2147483647), .fieldLink RX1 22 "RangeRules" "thresholdCount" "I", .fieldLink RX1 13 "RangeRules" "thresholds" "[I"] ++ wsX10)
def wsX1_isRange : List Cond := .code yX1_isRange cX1_isRange 3 (some .boolean) :: ([.methodLink RX1 79 yX1_isThreshold, .instanceMethod yX1_isThreshold, .selects RX1 yX1_isThreshold yX1_isThreshold, .initialized RX1, .code yX1_isThreshold cX1_isThreshold 2 (some .boolean), .methodLink RX1 83 yX1_down, .instanceMethod yX1_down, .selects RX1 yX1_down yX1_down, .code yX1_down cX1_down 5 (some .int), .constant RX1 42 (-2147483648), .fieldLink RX1 22 "RangeRules" "thresholdCount" "I", .fieldLink RX1 13 "RangeRules" "thresholds" "[I"] ++ wsX10)
def wsX1_isInt : List Cond := .code yX1_isInt cX1_isInt 2 (some .boolean) :: ([.constantLong RX1 97 (-2147483648), .constantLong RX1 99 (2147483647)])
def wsX1_tellAllInts : List Cond := .code yX1_tellAllInts cX1_tellAllInts 1 none :: ([.constant RX1 42 (-2147483648), .fieldLink RX1 29 "RangeRules" "resultLow" "I", .constant RX1 47 (2147483647), .fieldLink RX1 32 "RangeRules" "resultHigh" "I"] ++ wsX10)
def wsX1_tell : List Cond := .code yX1_tell cX1_tell 5 none :: ([.fieldLink RX1 29 "RangeRules" "resultLow" "I", .fieldLink RX1 32 "RangeRules" "resultHigh" "I", .methodLink RX1 87 yX1_isInt, .static yX1_isInt, .initialized RX1, .code yX1_isInt cX1_isInt 2 (some .boolean), .constantLong RX1 97 (-2147483648), .constantLong RX1 99 (2147483647), .methodLink RX1 83 yX1_down, .instanceMethod yX1_down, .selects RX1 yX1_down yX1_down, .code yX1_down cX1_down 5 (some .int), .constant RX1 42 (-2147483648), .fieldLink RX1 22 "RangeRules" "thresholdCount" "I", .fieldLink RX1 13 "RangeRules" "thresholds" "[I", .methodLink RX1 91 yX1_up, .instanceMethod yX1_up, .selects RX1 yX1_up yX1_up, .code yX1_up cX1_up 5 (some .int), .constant RX1 47 (2147483647), .methodLink RX1 94 yX1_tellAllInts, .instanceMethod yX1_tellAllInts, .selects RX1 yX1_tellAllInts yX1_tellAllInts, .code yX1_tellAllInts cX1_tellAllInts 1 none] ++ wsX10)
def wsX1_multiply_r1 : List Cond := [Cond.fieldLink RX1 38 "RangeRules" "span" "LRangeRules$Span;", Cond.instanceMethod yX0_empty, Cond.initialized RX0, Cond.selects RX0 yX0_empty yX0_empty, Cond.code yX0_empty cX0_empty 1 none, Cond.constantLong RX0 9 (9223372036854775807), Cond.fieldLink RX0 11 "RangeRules$Span" "least" "J", Cond.constantLong RX0 15 (-9223372036854775808), Cond.fieldLink RX0 17 "RangeRules$Span" "greatest" "J", Cond.instanceMethod yX0_take, Cond.selects RX0 yX0_take yX0_take, Cond.code yX0_take cX0_take 3 none, Cond.methodLink RX0 20 Lib.MathLoose.min_long.x, Cond.static Lib.MathLoose.min_long.x, Cond.initialized "java/lang/Math", Cond.code Lib.MathLoose.min_long.x Lib.MathLoose.min_long.code 4 (some .long), Cond.methodLink RX0 26 Lib.MathLoose.max_long.x, Cond.static Lib.MathLoose.max_long.x, Cond.code Lib.MathLoose.max_long.x Lib.MathLoose.max_long.code 4 (some .long), Cond.methodLink RX1 52 yX1_tell, Cond.instanceMethod yX1_tell, Cond.selects RX1 yX1_tell yX1_tell, Cond.initialized RX1, Cond.code yX1_tell cX1_tell 5 none]
def wsX1_multiply_r2 : List Cond := [Cond.fieldLink RX1 29 "RangeRules" "resultLow" "I", Cond.fieldLink RX1 32 "RangeRules" "resultHigh" "I", Cond.methodLink RX1 87 yX1_isInt, Cond.static yX1_isInt, Cond.code yX1_isInt cX1_isInt 2 (some .boolean), Cond.constantLong RX1 97 (-2147483648), Cond.constantLong RX1 99 (2147483647), Cond.methodLink RX1 83 yX1_down, Cond.instanceMethod yX1_down, Cond.selects RX1 yX1_down yX1_down, Cond.code yX1_down cX1_down 5 (some .int), Cond.constant RX1 42 (-2147483648), Cond.fieldLink RX1 22 "RangeRules" "thresholdCount" "I", Cond.fieldLink RX1 13 "RangeRules" "thresholds" "[I", Cond.methodLink RX1 91 yX1_up, Cond.instanceMethod yX1_up, Cond.selects RX1 yX1_up yX1_up, Cond.code yX1_up cX1_up 5 (some .int), Cond.constant RX1 47 (2147483647), Cond.methodLink RX1 94 yX1_tellAllInts, Cond.instanceMethod yX1_tellAllInts, Cond.selects RX1 yX1_tellAllInts yX1_tellAllInts, Cond.code yX1_tellAllInts cX1_tellAllInts 1 none]
def wsX1_multiply : List Cond := .code yX1_multiply cX1_multiply 9 none :: ((wsX1_multiply_r1 ++ wsX1_multiply_r2) ++ wsX10 ++ wsX00)
def wsX1_takeQuotients : List Cond := .code yX1_takeQuotients cX1_takeQuotients 7 none :: ([.fieldLink RX1 38 "RangeRules" "span" "LRangeRules$Span;", .instanceMethod yX0_take, .initialized RX0, .selects RX0 yX0_take yX0_take, .code yX0_take cX0_take 3 none, .fieldLink RX0 11 "RangeRules$Span" "least" "J", .methodLink RX0 20 Lib.MathLoose.min_long.x, .static Lib.MathLoose.min_long.x, .initialized "java/lang/Math", .code Lib.MathLoose.min_long.x Lib.MathLoose.min_long.code 4 (some .long), .fieldLink RX0 17 "RangeRules$Span" "greatest" "J", .methodLink RX0 26 Lib.MathLoose.max_long.x, .static Lib.MathLoose.max_long.x, .code Lib.MathLoose.max_long.x Lib.MathLoose.max_long.code 4 (some .long)] ++ wsX10 ++ wsX00)
def wsX1_divide_r1 : List Cond := [Cond.fieldLink RX1 38 "RangeRules" "span" "LRangeRules$Span;", Cond.constantLong RX1 119 (-1), Cond.instanceMethod yX0_empty, Cond.initialized RX0, Cond.selects RX0 yX0_empty yX0_empty, Cond.code yX0_empty cX0_empty 1 none, Cond.constantLong RX0 9 (9223372036854775807), Cond.fieldLink RX0 11 "RangeRules$Span" "least" "J", Cond.constantLong RX0 15 (-9223372036854775808), Cond.fieldLink RX0 17 "RangeRules$Span" "greatest" "J", Cond.methodLink RX1 115 yX1_takeQuotients, Cond.instanceMethod yX1_takeQuotients, Cond.selects RX1 yX1_takeQuotients yX1_takeQuotients, Cond.initialized RX1, Cond.code yX1_takeQuotients cX1_takeQuotients 7 none, Cond.instanceMethod yX0_take, Cond.selects RX0 yX0_take yX0_take, Cond.code yX0_take cX0_take 3 none, Cond.methodLink RX0 20 Lib.MathLoose.min_long.x, Cond.static Lib.MathLoose.min_long.x, Cond.initialized "java/lang/Math", Cond.code Lib.MathLoose.min_long.x Lib.MathLoose.min_long.code 4 (some .long), Cond.methodLink RX0 26 Lib.MathLoose.max_long.x, Cond.static Lib.MathLoose.max_long.x]
def wsX1_divide_r2 : List Cond := [Cond.code Lib.MathLoose.max_long.x Lib.MathLoose.max_long.code 4 (some .long), Cond.methodLink RX1 52 yX1_tell, Cond.instanceMethod yX1_tell, Cond.selects RX1 yX1_tell yX1_tell, Cond.code yX1_tell cX1_tell 5 none, Cond.fieldLink RX1 29 "RangeRules" "resultLow" "I", Cond.fieldLink RX1 32 "RangeRules" "resultHigh" "I", Cond.methodLink RX1 87 yX1_isInt, Cond.static yX1_isInt, Cond.code yX1_isInt cX1_isInt 2 (some .boolean), Cond.constantLong RX1 97 (-2147483648), Cond.constantLong RX1 99 (2147483647), Cond.methodLink RX1 83 yX1_down, Cond.instanceMethod yX1_down, Cond.selects RX1 yX1_down yX1_down, Cond.code yX1_down cX1_down 5 (some .int), Cond.constant RX1 42 (-2147483648), Cond.fieldLink RX1 22 "RangeRules" "thresholdCount" "I", Cond.fieldLink RX1 13 "RangeRules" "thresholds" "[I", Cond.methodLink RX1 91 yX1_up, Cond.instanceMethod yX1_up, Cond.selects RX1 yX1_up yX1_up, Cond.code yX1_up cX1_up 5 (some .int), Cond.constant RX1 47 (2147483647)]
def wsX1_divide_r3 : List Cond := [Cond.methodLink RX1 94 yX1_tellAllInts, Cond.instanceMethod yX1_tellAllInts, Cond.selects RX1 yX1_tellAllInts yX1_tellAllInts, Cond.code yX1_tellAllInts cX1_tellAllInts 1 none]
def wsX1_divide : List Cond := .code yX1_divide cX1_divide 9 none :: ((wsX1_divide_r1 ++ (wsX1_divide_r2 ++ wsX1_divide_r3)) ++ wsX10 ++ wsX00)
def wsX1_rest_r1 : List Cond := [Cond.methodLink RX1 121 Lib.MathLoose.abs_long.x, Cond.static Lib.MathLoose.abs_long.x, Cond.initialized "java/lang/Math", Cond.code Lib.MathLoose.abs_long.x Lib.MathLoose.abs_long.code 2 (some .long), Cond.methodLink RX1 127 Lib.MathLoose.max_long.x, Cond.static Lib.MathLoose.max_long.x, Cond.code Lib.MathLoose.max_long.x Lib.MathLoose.max_long.code 4 (some .long), Cond.methodLink RX1 131 Lib.MathLoose.min_long.x, Cond.static Lib.MathLoose.min_long.x, Cond.code Lib.MathLoose.min_long.x Lib.MathLoose.min_long.code 4 (some .long), Cond.methodLink RX1 52 yX1_tell, Cond.instanceMethod yX1_tell, Cond.selects RX1 yX1_tell yX1_tell, Cond.initialized RX1, Cond.code yX1_tell cX1_tell 5 none, Cond.fieldLink RX1 29 "RangeRules" "resultLow" "I", Cond.fieldLink RX1 32 "RangeRules" "resultHigh" "I", Cond.methodLink RX1 87 yX1_isInt, Cond.static yX1_isInt, Cond.code yX1_isInt cX1_isInt 2 (some .boolean), Cond.constantLong RX1 97 (-2147483648), Cond.constantLong RX1 99 (2147483647), Cond.methodLink RX1 83 yX1_down, Cond.instanceMethod yX1_down]
def wsX1_rest_r2 : List Cond := [Cond.selects RX1 yX1_down yX1_down, Cond.code yX1_down cX1_down 5 (some .int), Cond.constant RX1 42 (-2147483648), Cond.fieldLink RX1 22 "RangeRules" "thresholdCount" "I", Cond.fieldLink RX1 13 "RangeRules" "thresholds" "[I", Cond.methodLink RX1 91 yX1_up, Cond.instanceMethod yX1_up, Cond.selects RX1 yX1_up yX1_up, Cond.code yX1_up cX1_up 5 (some .int), Cond.constant RX1 47 (2147483647), Cond.methodLink RX1 94 yX1_tellAllInts, Cond.instanceMethod yX1_tellAllInts, Cond.selects RX1 yX1_tellAllInts yX1_tellAllInts, Cond.code yX1_tellAllInts cX1_tellAllInts 1 none]
def wsX1_rest : List Cond := .code yX1_rest cX1_rest 11 none :: ((wsX1_rest_r1 ++ wsX1_rest_r2) ++ wsX10)
def wsX1_and_r1 : List Cond := [Cond.methodLink RX1 134 Lib.Math.min.name, Cond.static Lib.Math.min.name, Cond.initialized "java/lang/Math", Cond.code Lib.Math.min.name Lib.Math.min.code 2 (some .int), Cond.methodLink RX1 94 yX1_tellAllInts, Cond.instanceMethod yX1_tellAllInts, Cond.selects RX1 yX1_tellAllInts yX1_tellAllInts, Cond.initialized RX1, Cond.code yX1_tellAllInts cX1_tellAllInts 1 none, Cond.constant RX1 42 (-2147483648), Cond.fieldLink RX1 29 "RangeRules" "resultLow" "I", Cond.constant RX1 47 (2147483647), Cond.fieldLink RX1 32 "RangeRules" "resultHigh" "I", Cond.methodLink RX1 52 yX1_tell, Cond.instanceMethod yX1_tell, Cond.selects RX1 yX1_tell yX1_tell, Cond.code yX1_tell cX1_tell 5 none, Cond.methodLink RX1 87 yX1_isInt, Cond.static yX1_isInt, Cond.code yX1_isInt cX1_isInt 2 (some .boolean), Cond.constantLong RX1 97 (-2147483648), Cond.constantLong RX1 99 (2147483647), Cond.methodLink RX1 83 yX1_down, Cond.instanceMethod yX1_down]
def wsX1_and_r2 : List Cond := [Cond.selects RX1 yX1_down yX1_down, Cond.code yX1_down cX1_down 5 (some .int), Cond.fieldLink RX1 22 "RangeRules" "thresholdCount" "I", Cond.fieldLink RX1 13 "RangeRules" "thresholds" "[I", Cond.methodLink RX1 91 yX1_up, Cond.instanceMethod yX1_up, Cond.selects RX1 yX1_up yX1_up, Cond.code yX1_up cX1_up 5 (some .int)]
def wsX1_and : List Cond := .code yX1_and cX1_and 5 none :: ((wsX1_and_r1 ++ wsX1_and_r2) ++ wsX10)
def wsX1_onesNotBelow : List Cond := .code yX1_onesNotBelow cX1_onesNotBelow 3 (some .int) :: ([])
def wsX1_orOrXor_r1 : List Cond := [Cond.methodLink RX1 137 Lib.Math.max.name, Cond.static Lib.Math.max.name, Cond.initialized "java/lang/Math", Cond.code Lib.Math.max.name Lib.Math.max.code 2 (some .int), Cond.methodLink RX1 94 yX1_tellAllInts, Cond.instanceMethod yX1_tellAllInts, Cond.selects RX1 yX1_tellAllInts yX1_tellAllInts, Cond.initialized RX1, Cond.code yX1_tellAllInts cX1_tellAllInts 1 none, Cond.constant RX1 42 (-2147483648), Cond.fieldLink RX1 29 "RangeRules" "resultLow" "I", Cond.constant RX1 47 (2147483647), Cond.fieldLink RX1 32 "RangeRules" "resultHigh" "I", Cond.methodLink RX1 139 yX1_onesNotBelow, Cond.static yX1_onesNotBelow, Cond.code yX1_onesNotBelow cX1_onesNotBelow 3 (some .int), Cond.methodLink RX1 52 yX1_tell, Cond.instanceMethod yX1_tell, Cond.selects RX1 yX1_tell yX1_tell, Cond.code yX1_tell cX1_tell 5 none, Cond.methodLink RX1 87 yX1_isInt, Cond.static yX1_isInt, Cond.code yX1_isInt cX1_isInt 2 (some .boolean), Cond.constantLong RX1 97 (-2147483648)]
def wsX1_orOrXor_r2 : List Cond := [Cond.constantLong RX1 99 (2147483647), Cond.methodLink RX1 83 yX1_down, Cond.instanceMethod yX1_down, Cond.selects RX1 yX1_down yX1_down, Cond.code yX1_down cX1_down 5 (some .int), Cond.fieldLink RX1 22 "RangeRules" "thresholdCount" "I", Cond.fieldLink RX1 13 "RangeRules" "thresholds" "[I", Cond.methodLink RX1 91 yX1_up, Cond.instanceMethod yX1_up, Cond.selects RX1 yX1_up yX1_up, Cond.code yX1_up cX1_up 5 (some .int)]
def wsX1_orOrXor : List Cond := .code yX1_orOrXor cX1_orOrXor 5 none :: ((wsX1_orOrXor_r1 ++ wsX1_orOrXor_r2) ++ wsX10)
def wsX1_shiftLeft_r1 : List Cond := [Cond.methodLink RX1 56 yX1_multiply, Cond.instanceMethod yX1_multiply, Cond.selects RX1 yX1_multiply yX1_multiply, Cond.initialized RX1, Cond.code yX1_multiply cX1_multiply 9 none, Cond.fieldLink RX1 38 "RangeRules" "span" "LRangeRules$Span;", Cond.instanceMethod yX0_empty, Cond.initialized RX0, Cond.selects RX0 yX0_empty yX0_empty, Cond.code yX0_empty cX0_empty 1 none, Cond.constantLong RX0 9 (9223372036854775807), Cond.fieldLink RX0 11 "RangeRules$Span" "least" "J", Cond.constantLong RX0 15 (-9223372036854775808), Cond.fieldLink RX0 17 "RangeRules$Span" "greatest" "J", Cond.instanceMethod yX0_take, Cond.selects RX0 yX0_take yX0_take, Cond.code yX0_take cX0_take 3 none, Cond.methodLink RX0 20 Lib.MathLoose.min_long.x, Cond.static Lib.MathLoose.min_long.x, Cond.initialized "java/lang/Math", Cond.code Lib.MathLoose.min_long.x Lib.MathLoose.min_long.code 4 (some .long), Cond.methodLink RX0 26 Lib.MathLoose.max_long.x, Cond.static Lib.MathLoose.max_long.x, Cond.code Lib.MathLoose.max_long.x Lib.MathLoose.max_long.code 4 (some .long)]
def wsX1_shiftLeft_r2 : List Cond := [Cond.methodLink RX1 52 yX1_tell, Cond.instanceMethod yX1_tell, Cond.selects RX1 yX1_tell yX1_tell, Cond.code yX1_tell cX1_tell 5 none, Cond.fieldLink RX1 29 "RangeRules" "resultLow" "I", Cond.fieldLink RX1 32 "RangeRules" "resultHigh" "I", Cond.methodLink RX1 87 yX1_isInt, Cond.static yX1_isInt, Cond.code yX1_isInt cX1_isInt 2 (some .boolean), Cond.constantLong RX1 97 (-2147483648), Cond.constantLong RX1 99 (2147483647), Cond.methodLink RX1 83 yX1_down, Cond.instanceMethod yX1_down, Cond.selects RX1 yX1_down yX1_down, Cond.code yX1_down cX1_down 5 (some .int), Cond.constant RX1 42 (-2147483648), Cond.fieldLink RX1 22 "RangeRules" "thresholdCount" "I", Cond.fieldLink RX1 13 "RangeRules" "thresholds" "[I", Cond.methodLink RX1 91 yX1_up, Cond.instanceMethod yX1_up, Cond.selects RX1 yX1_up yX1_up, Cond.code yX1_up cX1_up 5 (some .int), Cond.constant RX1 47 (2147483647), Cond.methodLink RX1 94 yX1_tellAllInts]
def wsX1_shiftLeft_r3 : List Cond := [Cond.instanceMethod yX1_tellAllInts, Cond.selects RX1 yX1_tellAllInts yX1_tellAllInts, Cond.code yX1_tellAllInts cX1_tellAllInts 1 none]
def wsX1_shiftLeft : List Cond := .code yX1_shiftLeft cX1_shiftLeft 7 none :: ((wsX1_shiftLeft_r1 ++ (wsX1_shiftLeft_r2 ++ wsX1_shiftLeft_r3)) ++ wsX10 ++ wsX00)
def wsX1_shiftRight_r1 : List Cond := [Cond.methodLink RX1 134 Lib.Math.min.name, Cond.static Lib.Math.min.name, Cond.initialized "java/lang/Math", Cond.code Lib.Math.min.name Lib.Math.min.code 2 (some .int), Cond.methodLink RX1 137 Lib.Math.max.name, Cond.static Lib.Math.max.name, Cond.code Lib.Math.max.name Lib.Math.max.code 2 (some .int), Cond.methodLink RX1 52 yX1_tell, Cond.instanceMethod yX1_tell, Cond.selects RX1 yX1_tell yX1_tell, Cond.initialized RX1, Cond.code yX1_tell cX1_tell 5 none, Cond.fieldLink RX1 29 "RangeRules" "resultLow" "I", Cond.fieldLink RX1 32 "RangeRules" "resultHigh" "I", Cond.methodLink RX1 87 yX1_isInt, Cond.static yX1_isInt, Cond.code yX1_isInt cX1_isInt 2 (some .boolean), Cond.constantLong RX1 97 (-2147483648), Cond.constantLong RX1 99 (2147483647), Cond.methodLink RX1 83 yX1_down, Cond.instanceMethod yX1_down, Cond.selects RX1 yX1_down yX1_down, Cond.code yX1_down cX1_down 5 (some .int), Cond.constant RX1 42 (-2147483648)]
def wsX1_shiftRight_r2 : List Cond := [Cond.fieldLink RX1 22 "RangeRules" "thresholdCount" "I", Cond.fieldLink RX1 13 "RangeRules" "thresholds" "[I", Cond.methodLink RX1 91 yX1_up, Cond.instanceMethod yX1_up, Cond.selects RX1 yX1_up yX1_up, Cond.code yX1_up cX1_up 5 (some .int), Cond.constant RX1 47 (2147483647), Cond.methodLink RX1 94 yX1_tellAllInts, Cond.instanceMethod yX1_tellAllInts, Cond.selects RX1 yX1_tellAllInts yX1_tellAllInts, Cond.code yX1_tellAllInts cX1_tellAllInts 1 none]
def wsX1_shiftRight : List Cond := .code yX1_shiftRight cX1_shiftRight 5 none :: ((wsX1_shiftRight_r1 ++ wsX1_shiftRight_r2) ++ wsX10)
def wsX1_work_r1 : List Cond := [Cond.methodLink RX1 48 yX1_isRange, Cond.instanceMethod yX1_isRange, Cond.selects RX1 yX1_isRange yX1_isRange, Cond.initialized RX1, Cond.code yX1_isRange cX1_isRange 3 (some .boolean), Cond.methodLink RX1 79 yX1_isThreshold, Cond.instanceMethod yX1_isThreshold, Cond.selects RX1 yX1_isThreshold yX1_isThreshold, Cond.code yX1_isThreshold cX1_isThreshold 2 (some .boolean), Cond.methodLink RX1 83 yX1_down, Cond.instanceMethod yX1_down, Cond.selects RX1 yX1_down yX1_down, Cond.code yX1_down cX1_down 5 (some .int), Cond.constant RX1 42 (-2147483648), Cond.fieldLink RX1 22 "RangeRules" "thresholdCount" "I", Cond.fieldLink RX1 13 "RangeRules" "thresholds" "[I", Cond.methodLink RX1 52 yX1_tell, Cond.instanceMethod yX1_tell, Cond.selects RX1 yX1_tell yX1_tell, Cond.code yX1_tell cX1_tell 5 none, Cond.fieldLink RX1 29 "RangeRules" "resultLow" "I", Cond.fieldLink RX1 32 "RangeRules" "resultHigh" "I", Cond.methodLink RX1 87 yX1_isInt, Cond.static yX1_isInt]
def wsX1_work_r2 : List Cond := [Cond.code yX1_isInt cX1_isInt 2 (some .boolean), Cond.constantLong RX1 97 (-2147483648), Cond.constantLong RX1 99 (2147483647), Cond.methodLink RX1 91 yX1_up, Cond.instanceMethod yX1_up, Cond.selects RX1 yX1_up yX1_up, Cond.code yX1_up cX1_up 5 (some .int), Cond.constant RX1 47 (2147483647), Cond.methodLink RX1 94 yX1_tellAllInts, Cond.instanceMethod yX1_tellAllInts, Cond.selects RX1 yX1_tellAllInts yX1_tellAllInts, Cond.code yX1_tellAllInts cX1_tellAllInts 1 none, Cond.methodLink RX1 56 yX1_multiply, Cond.instanceMethod yX1_multiply, Cond.selects RX1 yX1_multiply yX1_multiply, Cond.code yX1_multiply cX1_multiply 9 none, Cond.fieldLink RX1 38 "RangeRules" "span" "LRangeRules$Span;", Cond.instanceMethod yX0_empty, Cond.initialized RX0, Cond.selects RX0 yX0_empty yX0_empty, Cond.code yX0_empty cX0_empty 1 none, Cond.constantLong RX0 9 (9223372036854775807), Cond.fieldLink RX0 11 "RangeRules$Span" "least" "J", Cond.constantLong RX0 15 (-9223372036854775808)]
def wsX1_work_r3 : List Cond := [Cond.fieldLink RX0 17 "RangeRules$Span" "greatest" "J", Cond.instanceMethod yX0_take, Cond.selects RX0 yX0_take yX0_take, Cond.code yX0_take cX0_take 3 none, Cond.methodLink RX0 20 Lib.MathLoose.min_long.x, Cond.static Lib.MathLoose.min_long.x, Cond.initialized "java/lang/Math", Cond.code Lib.MathLoose.min_long.x Lib.MathLoose.min_long.code 4 (some .long), Cond.methodLink RX0 26 Lib.MathLoose.max_long.x, Cond.static Lib.MathLoose.max_long.x, Cond.code Lib.MathLoose.max_long.x Lib.MathLoose.max_long.code 4 (some .long), Cond.methodLink RX1 60 yX1_divide, Cond.instanceMethod yX1_divide, Cond.selects RX1 yX1_divide yX1_divide, Cond.code yX1_divide cX1_divide 9 none, Cond.constantLong RX1 119 (-1), Cond.methodLink RX1 115 yX1_takeQuotients, Cond.instanceMethod yX1_takeQuotients, Cond.selects RX1 yX1_takeQuotients yX1_takeQuotients, Cond.code yX1_takeQuotients cX1_takeQuotients 7 none, Cond.methodLink RX1 63 yX1_rest, Cond.instanceMethod yX1_rest, Cond.selects RX1 yX1_rest yX1_rest, Cond.code yX1_rest cX1_rest 11 none]
def wsX1_work_r4 : List Cond := [Cond.methodLink RX1 121 Lib.MathLoose.abs_long.x, Cond.static Lib.MathLoose.abs_long.x, Cond.code Lib.MathLoose.abs_long.x Lib.MathLoose.abs_long.code 2 (some .long), Cond.methodLink RX1 127 Lib.MathLoose.max_long.x, Cond.methodLink RX1 131 Lib.MathLoose.min_long.x, Cond.methodLink RX1 66 yX1_and, Cond.instanceMethod yX1_and, Cond.selects RX1 yX1_and yX1_and, Cond.code yX1_and cX1_and 5 none, Cond.methodLink RX1 134 Lib.Math.min.name, Cond.static Lib.Math.min.name, Cond.code Lib.Math.min.name Lib.Math.min.code 2 (some .int), Cond.methodLink RX1 70 yX1_orOrXor, Cond.instanceMethod yX1_orOrXor, Cond.selects RX1 yX1_orOrXor yX1_orOrXor, Cond.code yX1_orOrXor cX1_orOrXor 5 none, Cond.methodLink RX1 137 Lib.Math.max.name, Cond.static Lib.Math.max.name, Cond.code Lib.Math.max.name Lib.Math.max.code 2 (some .int), Cond.methodLink RX1 139 yX1_onesNotBelow, Cond.static yX1_onesNotBelow, Cond.code yX1_onesNotBelow cX1_onesNotBelow 3 (some .int), Cond.methodLink RX1 73 yX1_shiftLeft, Cond.instanceMethod yX1_shiftLeft]
def wsX1_work_r5 : List Cond := [Cond.selects RX1 yX1_shiftLeft yX1_shiftLeft, Cond.code yX1_shiftLeft cX1_shiftLeft 7 none, Cond.methodLink RX1 76 yX1_shiftRight, Cond.instanceMethod yX1_shiftRight, Cond.selects RX1 yX1_shiftRight yX1_shiftRight, Cond.code yX1_shiftRight cX1_shiftRight 5 none]
def wsX1_work : List Cond := .code yX1_work cX1_work 6 (some .int) :: ((wsX1_work_r1 ++ (wsX1_work_r2 ++ (wsX1_work_r3 ++ (wsX1_work_r4 ++ wsX1_work_r5)))) ++ wsX10 ++ wsX00)
def wsX1_negate_r1 : List Cond := [Cond.methodLink RX1 48 yX1_isRange, Cond.instanceMethod yX1_isRange, Cond.selects RX1 yX1_isRange yX1_isRange, Cond.initialized RX1, Cond.code yX1_isRange cX1_isRange 3 (some .boolean), Cond.methodLink RX1 79 yX1_isThreshold, Cond.instanceMethod yX1_isThreshold, Cond.selects RX1 yX1_isThreshold yX1_isThreshold, Cond.code yX1_isThreshold cX1_isThreshold 2 (some .boolean), Cond.methodLink RX1 83 yX1_down, Cond.instanceMethod yX1_down, Cond.selects RX1 yX1_down yX1_down, Cond.code yX1_down cX1_down 5 (some .int), Cond.constant RX1 42 (-2147483648), Cond.fieldLink RX1 22 "RangeRules" "thresholdCount" "I", Cond.fieldLink RX1 13 "RangeRules" "thresholds" "[I", Cond.methodLink RX1 52 yX1_tell, Cond.instanceMethod yX1_tell, Cond.selects RX1 yX1_tell yX1_tell, Cond.code yX1_tell cX1_tell 5 none, Cond.fieldLink RX1 29 "RangeRules" "resultLow" "I", Cond.fieldLink RX1 32 "RangeRules" "resultHigh" "I", Cond.methodLink RX1 87 yX1_isInt, Cond.static yX1_isInt]
def wsX1_negate_r2 : List Cond := [Cond.code yX1_isInt cX1_isInt 2 (some .boolean), Cond.constantLong RX1 97 (-2147483648), Cond.constantLong RX1 99 (2147483647), Cond.methodLink RX1 91 yX1_up, Cond.instanceMethod yX1_up, Cond.selects RX1 yX1_up yX1_up, Cond.code yX1_up cX1_up 5 (some .int), Cond.constant RX1 47 (2147483647), Cond.methodLink RX1 94 yX1_tellAllInts, Cond.instanceMethod yX1_tellAllInts, Cond.selects RX1 yX1_tellAllInts yX1_tellAllInts, Cond.code yX1_tellAllInts cX1_tellAllInts 1 none]
def wsX1_negate : List Cond := .code yX1_negate cX1_negate 3 (some .boolean) :: ((wsX1_negate_r1 ++ wsX1_negate_r2) ++ wsX10)
def wsX1_low : List Cond := .code yX1_low cX1_low 1 (some .int) :: ([.fieldLink RX1 29 "RangeRules" "resultLow" "I"] ++ wsX10)
def wsX1_high : List Cond := .code yX1_high cX1_high 1 (some .int) :: ([.fieldLink RX1 32 "RangeRules" "resultHigh" "I"] ++ wsX10)
def wsX2_add : List Cond := .code yX2_add cX2_add 4 none :: ([.constantLong RX2 23 (-2147483648), .constantLong RX2 33 (2147483647), .fieldLink RX2 20 "RangeRulesModel" "thresholds" "I", .fieldLink RX2 9 "RangeRulesModel" "threshold" "[I"] ++ wsX20)
def wsX2_clear : List Cond := .code yX2_clear cX2_clear 2 none :: ([.fieldLink RX2 16 "RangeRulesModel" "times" "I", .fieldLink RX2 20 "RangeRulesModel" "thresholds" "I", .constantLong RX2 23 (-2147483648), .constantLong RX2 29 (-2147483647), .constantLong RX2 31 (2147483646), .constantLong RX2 33 (2147483647), .methodLink RX2 25 yX2_add, .instanceMethod yX2_add, .selects RX2 yX2_add yX2_add, .initialized RX2, .code yX2_add cX2_add 4 none, .fieldLink RX2 9 "RangeRulesModel" "threshold" "[I"] ++ wsX20)
def wsX2_init : List Cond := .code yX2_init cX2_init 1 none :: ([.methodLink RX2 1 objectInit, .instanceMethod objectInit, .code objectInit ⟨#[0xb1]⟩ 1 none, .arrayClass .int, .fieldLink RX2 9 "RangeRulesModel" "threshold" "[I", .methodLink RX2 13 yX2_clear, .instanceMethod yX2_clear, .selects RX2 yX2_clear yX2_clear, .initialized RX2, .code yX2_clear cX2_clear 2 none, .fieldLink RX2 16 "RangeRulesModel" "times" "I", .fieldLink RX2 20 "RangeRulesModel" "thresholds" "I", .constantLong RX2 23 (-2147483648), .constantLong RX2 29 (-2147483647), .constantLong RX2 31 (2147483646), .constantLong RX2 33 (2147483647), .methodLink RX2 25 yX2_add, .instanceMethod yX2_add, .selects RX2 yX2_add yX2_add, .code yX2_add cX2_add 4 none] ++ wsX20)
def wsX2_around : List Cond := .code yX2_around cX2_around 4 (some .int) :: ([.fieldLink RX2 16 "RangeRulesModel" "times" "I", .fieldLink RX2 20 "RangeRulesModel" "thresholds" "I", .methodLink RX2 25 yX2_add, .instanceMethod yX2_add, .selects RX2 yX2_add yX2_add, .initialized RX2, .code yX2_add cX2_add 4 none, .constantLong RX2 23 (-2147483648), .constantLong RX2 33 (2147483647), .fieldLink RX2 9 "RangeRulesModel" "threshold" "[I"] ++ wsX20)
def wsX2_size : List Cond := .code yX2_size cX2_size 1 (some .int) :: ([.fieldLink RX2 20 "RangeRulesModel" "thresholds" "I"] ++ wsX20)
def wsX2_down : List Cond := .code yX2_down cX2_down 4 (some .int) :: ([.constant RX2 35 (-2147483648), .fieldLink RX2 20 "RangeRulesModel" "thresholds" "I", .fieldLink RX2 9 "RangeRulesModel" "threshold" "[I", .methodLink RX2 36 Lib.Math.max.name, .static Lib.Math.max.name, .initialized "java/lang/Math", .code Lib.Math.max.name Lib.Math.max.code 2 (some .int)] ++ wsX20)
def wsX2_up : List Cond := .code yX2_up cX2_up 4 (some .int) :: ([.constant RX2 42 (2147483647), .fieldLink RX2 20 "RangeRulesModel" "thresholds" "I", .fieldLink RX2 9 "RangeRulesModel" "threshold" "[I", .methodLink RX2 43 Lib.Math.min.name, .static Lib.Math.min.name, .initialized "java/lang/Math", .code Lib.Math.min.name Lib.Math.min.code 2 (some .int)] ++ wsX20)
def wsX2_isRange : List Cond := .code yX2_isRange cX2_isRange 3 (some .boolean) :: ([.methodLink RX2 46 yX2_down, .instanceMethod yX2_down, .selects RX2 yX2_down yX2_down, .initialized RX2, .code yX2_down cX2_down 4 (some .int), .constant RX2 35 (-2147483648), .fieldLink RX2 20 "RangeRulesModel" "thresholds" "I", .fieldLink RX2 9 "RangeRulesModel" "threshold" "[I", .methodLink RX2 36 Lib.Math.max.name, .static Lib.Math.max.name, .initialized "java/lang/Math", .code Lib.Math.max.name Lib.Math.max.code 2 (some .int), .methodLink RX2 50 yX2_up, .instanceMethod yX2_up, .selects RX2 yX2_up yX2_up, .code yX2_up cX2_up 4 (some .int), .constant RX2 42 (2147483647), .methodLink RX2 43 Lib.Math.min.name, .static Lib.Math.min.name, .code Lib.Math.min.name Lib.Math.min.code 2 (some .int)] ++ wsX20)
def wsX2_tell : List Cond := .code yX2_tell cX2_tell 6 (some .int) :: ([.constantLong RX2 23 (-2147483648), .constantLong RX2 33 (2147483647), .constant RX2 35 (-2147483648), .fieldLink RX2 53 "RangeRulesModel" "low" "I", .constant RX2 42 (2147483647), .fieldLink RX2 56 "RangeRulesModel" "high" "I", .methodLink RX2 46 yX2_down, .instanceMethod yX2_down, .selects RX2 yX2_down yX2_down, .initialized RX2, .code yX2_down cX2_down 4 (some .int), .fieldLink RX2 20 "RangeRulesModel" "thresholds" "I", .fieldLink RX2 9 "RangeRulesModel" "threshold" "[I", .methodLink RX2 36 Lib.Math.max.name, .static Lib.Math.max.name, .initialized "java/lang/Math", .code Lib.Math.max.name Lib.Math.max.code 2 (some .int), .methodLink RX2 50 yX2_up, .instanceMethod yX2_up, .selects RX2 yX2_up yX2_up, .code yX2_up cX2_up 4 (some .int), .methodLink RX2 43 Lib.Math.min.name, .static Lib.Math.min.name, .code Lib.Math.min.name Lib.Math.min.code 2 (some .int)] ++ wsX20)
def wsX2_tellAll_r1 : List Cond := [Cond.constantLong RX2 23 (-2147483648), Cond.constantLong RX2 33 (2147483647), Cond.methodLink RX2 59 yX2_tell, Cond.instanceMethod yX2_tell, Cond.selects RX2 yX2_tell yX2_tell, Cond.initialized RX2, Cond.code yX2_tell cX2_tell 6 (some .int), Cond.constant RX2 35 (-2147483648), Cond.fieldLink RX2 53 "RangeRulesModel" "low" "I", Cond.constant RX2 42 (2147483647), Cond.fieldLink RX2 56 "RangeRulesModel" "high" "I", Cond.methodLink RX2 46 yX2_down, Cond.instanceMethod yX2_down, Cond.selects RX2 yX2_down yX2_down, Cond.code yX2_down cX2_down 4 (some .int), Cond.fieldLink RX2 20 "RangeRulesModel" "thresholds" "I", Cond.fieldLink RX2 9 "RangeRulesModel" "threshold" "[I", Cond.methodLink RX2 36 Lib.Math.max.name, Cond.static Lib.Math.max.name, Cond.initialized "java/lang/Math", Cond.code Lib.Math.max.name Lib.Math.max.code 2 (some .int), Cond.methodLink RX2 50 yX2_up, Cond.instanceMethod yX2_up, Cond.selects RX2 yX2_up yX2_up]
def wsX2_tellAll_r2 : List Cond := [Cond.code yX2_up cX2_up 4 (some .int), Cond.methodLink RX2 43 Lib.Math.min.name, Cond.static Lib.Math.min.name, Cond.code Lib.Math.min.name Lib.Math.min.code 2 (some .int)]
def wsX2_tellAll : List Cond := .code yX2_tellAll cX2_tellAll 1 (some .int) :: ((wsX2_tellAll_r1 ++ wsX2_tellAll_r2) ++ wsX20)
def wsX2_tellLeast_r1 : List Cond := [Cond.methodLink RX2 63 Lib.MathLoose.min_long.x, Cond.static Lib.MathLoose.min_long.x, Cond.initialized "java/lang/Math", Cond.code Lib.MathLoose.min_long.x Lib.MathLoose.min_long.code 4 (some .long), Cond.methodLink RX2 66 Lib.MathLoose.max_long.x, Cond.static Lib.MathLoose.max_long.x, Cond.code Lib.MathLoose.max_long.x Lib.MathLoose.max_long.code 4 (some .long), Cond.methodLink RX2 59 yX2_tell, Cond.instanceMethod yX2_tell, Cond.selects RX2 yX2_tell yX2_tell, Cond.initialized RX2, Cond.code yX2_tell cX2_tell 6 (some .int), Cond.constantLong RX2 23 (-2147483648), Cond.constantLong RX2 33 (2147483647), Cond.constant RX2 35 (-2147483648), Cond.fieldLink RX2 53 "RangeRulesModel" "low" "I", Cond.constant RX2 42 (2147483647), Cond.fieldLink RX2 56 "RangeRulesModel" "high" "I", Cond.methodLink RX2 46 yX2_down, Cond.instanceMethod yX2_down, Cond.selects RX2 yX2_down yX2_down, Cond.code yX2_down cX2_down 4 (some .int), Cond.fieldLink RX2 20 "RangeRulesModel" "thresholds" "I", Cond.fieldLink RX2 9 "RangeRulesModel" "threshold" "[I"]
def wsX2_tellLeast_r2 : List Cond := [Cond.methodLink RX2 36 Lib.Math.max.name, Cond.static Lib.Math.max.name, Cond.code Lib.Math.max.name Lib.Math.max.code 2 (some .int), Cond.methodLink RX2 50 yX2_up, Cond.instanceMethod yX2_up, Cond.selects RX2 yX2_up yX2_up, Cond.code yX2_up cX2_up 4 (some .int), Cond.methodLink RX2 43 Lib.Math.min.name, Cond.static Lib.Math.min.name, Cond.code Lib.Math.min.name Lib.Math.min.code 2 (some .int)]
def wsX2_tellLeast : List Cond := .code yX2_tellLeast cX2_tellLeast 9 (some .int) :: ((wsX2_tellLeast_r1 ++ wsX2_tellLeast_r2) ++ wsX20)
def wsX2_negate_r1 : List Cond := [Cond.methodLink RX2 68 yX2_isRange, Cond.instanceMethod yX2_isRange, Cond.selects RX2 yX2_isRange yX2_isRange, Cond.initialized RX2, Cond.code yX2_isRange cX2_isRange 3 (some .boolean), Cond.methodLink RX2 46 yX2_down, Cond.instanceMethod yX2_down, Cond.selects RX2 yX2_down yX2_down, Cond.code yX2_down cX2_down 4 (some .int), Cond.constant RX2 35 (-2147483648), Cond.fieldLink RX2 20 "RangeRulesModel" "thresholds" "I", Cond.fieldLink RX2 9 "RangeRulesModel" "threshold" "[I", Cond.methodLink RX2 36 Lib.Math.max.name, Cond.static Lib.Math.max.name, Cond.initialized "java/lang/Math", Cond.code Lib.Math.max.name Lib.Math.max.code 2 (some .int), Cond.methodLink RX2 50 yX2_up, Cond.instanceMethod yX2_up, Cond.selects RX2 yX2_up yX2_up, Cond.code yX2_up cX2_up 4 (some .int), Cond.constant RX2 42 (2147483647), Cond.methodLink RX2 43 Lib.Math.min.name, Cond.static Lib.Math.min.name, Cond.code Lib.Math.min.name Lib.Math.min.code 2 (some .int)]
def wsX2_negate_r2 : List Cond := [Cond.methodLink RX2 59 yX2_tell, Cond.instanceMethod yX2_tell, Cond.selects RX2 yX2_tell yX2_tell, Cond.code yX2_tell cX2_tell 6 (some .int), Cond.constantLong RX2 23 (-2147483648), Cond.constantLong RX2 33 (2147483647), Cond.fieldLink RX2 53 "RangeRulesModel" "low" "I", Cond.fieldLink RX2 56 "RangeRulesModel" "high" "I"]
def wsX2_negate : List Cond := .code yX2_negate cX2_negate 4 (some .boolean) :: ((wsX2_negate_r1 ++ wsX2_negate_r2) ++ wsX20)
def wsX2_quotient_r1 : List Cond := [Cond.constantLong RX2 96 (9223372036854775807), Cond.constantLong RX2 98 (-9223372036854775808), Cond.methodLink RX2 63 Lib.MathLoose.min_long.x, Cond.static Lib.MathLoose.min_long.x, Cond.initialized "java/lang/Math", Cond.code Lib.MathLoose.min_long.x Lib.MathLoose.min_long.code 4 (some .long), Cond.methodLink RX2 66 Lib.MathLoose.max_long.x, Cond.static Lib.MathLoose.max_long.x, Cond.code Lib.MathLoose.max_long.x Lib.MathLoose.max_long.code 4 (some .long), Cond.methodLink RX2 59 yX2_tell, Cond.instanceMethod yX2_tell, Cond.selects RX2 yX2_tell yX2_tell, Cond.initialized RX2, Cond.code yX2_tell cX2_tell 6 (some .int), Cond.constantLong RX2 23 (-2147483648), Cond.constantLong RX2 33 (2147483647), Cond.constant RX2 35 (-2147483648), Cond.fieldLink RX2 53 "RangeRulesModel" "low" "I", Cond.constant RX2 42 (2147483647), Cond.fieldLink RX2 56 "RangeRulesModel" "high" "I", Cond.methodLink RX2 46 yX2_down, Cond.instanceMethod yX2_down, Cond.selects RX2 yX2_down yX2_down, Cond.code yX2_down cX2_down 4 (some .int)]
def wsX2_quotient_r2 : List Cond := [Cond.fieldLink RX2 20 "RangeRulesModel" "thresholds" "I", Cond.fieldLink RX2 9 "RangeRulesModel" "threshold" "[I", Cond.methodLink RX2 36 Lib.Math.max.name, Cond.static Lib.Math.max.name, Cond.code Lib.Math.max.name Lib.Math.max.code 2 (some .int), Cond.methodLink RX2 50 yX2_up, Cond.instanceMethod yX2_up, Cond.selects RX2 yX2_up yX2_up, Cond.code yX2_up cX2_up 4 (some .int), Cond.methodLink RX2 43 Lib.Math.min.name, Cond.static Lib.Math.min.name, Cond.code Lib.Math.min.name Lib.Math.min.code 2 (some .int)]
def wsX2_quotient : List Cond := .code yX2_quotient cX2_quotient 12 (some .int) :: ((wsX2_quotient_r1 ++ wsX2_quotient_r2) ++ wsX20)
def wsX2_rest_r1 : List Cond := [Cond.methodLink RX2 100 Lib.MathLoose.abs_long.x, Cond.static Lib.MathLoose.abs_long.x, Cond.initialized "java/lang/Math", Cond.code Lib.MathLoose.abs_long.x Lib.MathLoose.abs_long.code 2 (some .long), Cond.methodLink RX2 66 Lib.MathLoose.max_long.x, Cond.static Lib.MathLoose.max_long.x, Cond.code Lib.MathLoose.max_long.x Lib.MathLoose.max_long.code 4 (some .long), Cond.methodLink RX2 63 Lib.MathLoose.min_long.x, Cond.static Lib.MathLoose.min_long.x, Cond.code Lib.MathLoose.min_long.x Lib.MathLoose.min_long.code 4 (some .long), Cond.methodLink RX2 59 yX2_tell, Cond.instanceMethod yX2_tell, Cond.selects RX2 yX2_tell yX2_tell, Cond.initialized RX2, Cond.code yX2_tell cX2_tell 6 (some .int), Cond.constantLong RX2 23 (-2147483648), Cond.constantLong RX2 33 (2147483647), Cond.constant RX2 35 (-2147483648), Cond.fieldLink RX2 53 "RangeRulesModel" "low" "I", Cond.constant RX2 42 (2147483647), Cond.fieldLink RX2 56 "RangeRulesModel" "high" "I", Cond.methodLink RX2 46 yX2_down, Cond.instanceMethod yX2_down, Cond.selects RX2 yX2_down yX2_down]
def wsX2_rest_r2 : List Cond := [Cond.code yX2_down cX2_down 4 (some .int), Cond.fieldLink RX2 20 "RangeRulesModel" "thresholds" "I", Cond.fieldLink RX2 9 "RangeRulesModel" "threshold" "[I", Cond.methodLink RX2 36 Lib.Math.max.name, Cond.static Lib.Math.max.name, Cond.code Lib.Math.max.name Lib.Math.max.code 2 (some .int), Cond.methodLink RX2 50 yX2_up, Cond.instanceMethod yX2_up, Cond.selects RX2 yX2_up yX2_up, Cond.code yX2_up cX2_up 4 (some .int), Cond.methodLink RX2 43 Lib.Math.min.name, Cond.static Lib.Math.min.name, Cond.code Lib.Math.min.name Lib.Math.min.code 2 (some .int)]
def wsX2_rest : List Cond := .code yX2_rest cX2_rest 9 (some .int) :: ((wsX2_rest_r1 ++ wsX2_rest_r2) ++ wsX20)
def wsX2_ones : List Cond := .code yX2_ones cX2_ones 3 (some .long) :: ([.constantLong RX2 92 (2)])
def wsX2_work_r1 : List Cond := [Cond.methodLink RX2 43 Lib.Math.min.name, Cond.static Lib.Math.min.name, Cond.initialized "java/lang/Math", Cond.code Lib.Math.min.name Lib.Math.min.code 2 (some .int), Cond.methodLink RX2 36 Lib.Math.max.name, Cond.static Lib.Math.max.name, Cond.code Lib.Math.max.name Lib.Math.max.code 2 (some .int), Cond.methodLink RX2 68 yX2_isRange, Cond.instanceMethod yX2_isRange, Cond.selects RX2 yX2_isRange yX2_isRange, Cond.initialized RX2, Cond.code yX2_isRange cX2_isRange 3 (some .boolean), Cond.methodLink RX2 46 yX2_down, Cond.instanceMethod yX2_down, Cond.selects RX2 yX2_down yX2_down, Cond.code yX2_down cX2_down 4 (some .int), Cond.constant RX2 35 (-2147483648), Cond.fieldLink RX2 20 "RangeRulesModel" "thresholds" "I", Cond.fieldLink RX2 9 "RangeRulesModel" "threshold" "[I", Cond.methodLink RX2 50 yX2_up, Cond.instanceMethod yX2_up, Cond.selects RX2 yX2_up yX2_up, Cond.code yX2_up cX2_up 4 (some .int), Cond.constant RX2 42 (2147483647)]
def wsX2_work_r2 : List Cond := [Cond.methodLink RX2 59 yX2_tell, Cond.instanceMethod yX2_tell, Cond.selects RX2 yX2_tell yX2_tell, Cond.code yX2_tell cX2_tell 6 (some .int), Cond.constantLong RX2 23 (-2147483648), Cond.constantLong RX2 33 (2147483647), Cond.fieldLink RX2 53 "RangeRulesModel" "low" "I", Cond.fieldLink RX2 56 "RangeRulesModel" "high" "I", Cond.methodLink RX2 72 yX2_tellLeast, Cond.instanceMethod yX2_tellLeast, Cond.selects RX2 yX2_tellLeast yX2_tellLeast, Cond.code yX2_tellLeast cX2_tellLeast 9 (some .int), Cond.methodLink RX2 63 Lib.MathLoose.min_long.x, Cond.static Lib.MathLoose.min_long.x, Cond.code Lib.MathLoose.min_long.x Lib.MathLoose.min_long.code 4 (some .long), Cond.methodLink RX2 66 Lib.MathLoose.max_long.x, Cond.static Lib.MathLoose.max_long.x, Cond.code Lib.MathLoose.max_long.x Lib.MathLoose.max_long.code 4 (some .long), Cond.methodLink RX2 76 yX2_quotient, Cond.instanceMethod yX2_quotient, Cond.selects RX2 yX2_quotient yX2_quotient, Cond.code yX2_quotient cX2_quotient 12 (some .int), Cond.constantLong RX2 96 (9223372036854775807), Cond.constantLong RX2 98 (-9223372036854775808)]
def wsX2_work_r3 : List Cond := [Cond.methodLink RX2 80 yX2_rest, Cond.instanceMethod yX2_rest, Cond.selects RX2 yX2_rest yX2_rest, Cond.code yX2_rest cX2_rest 9 (some .int), Cond.methodLink RX2 100 Lib.MathLoose.abs_long.x, Cond.static Lib.MathLoose.abs_long.x, Cond.code Lib.MathLoose.abs_long.x Lib.MathLoose.abs_long.code 2 (some .long), Cond.methodLink RX2 84 yX2_tellAll, Cond.instanceMethod yX2_tellAll, Cond.selects RX2 yX2_tellAll yX2_tellAll, Cond.code yX2_tellAll cX2_tellAll 1 (some .int), Cond.methodLink RX2 88 yX2_ones, Cond.static yX2_ones, Cond.code yX2_ones cX2_ones 3 (some .long), Cond.constantLong RX2 92 (2)]
def wsX2_work : List Cond := .code yX2_work cX2_work 8 (some .int) :: ((wsX2_work_r1 ++ (wsX2_work_r2 ++ wsX2_work_r3)) ++ wsX20)
def wsX2_low : List Cond := .code yX2_low cX2_low 1 (some .int) :: ([.fieldLink RX2 53 "RangeRulesModel" "low" "I"] ++ wsX20)
def wsX2_high : List Cond := .code yX2_high cX2_high 1 (some .int) :: ([.fieldLink RX2 56 "RangeRulesModel" "high" "I"] ++ wsX20)
def wsJ9_abs_067f4 : List Cond := .code yJ9_abs_067f4 cJ9_abs_067f4 2 (some .long) :: ([])
def wsJ9_max_7cf53 : List Cond := .code yJ9_max_7cf53 cJ9_max_7cf53 2 (some .int) :: ([])
def wsJ9_max_f86c9 : List Cond := .code yJ9_max_f86c9 cJ9_max_f86c9 4 (some .long) :: ([])
def wsJ9_min_7cf53 : List Cond := .code yJ9_min_7cf53 cJ9_min_7cf53 2 (some .int) :: ([])
def wsJ9_min_f86c9 : List Cond := .code yJ9_min_f86c9 cJ9_min_f86c9 4 (some .long) :: ([])
def wsL_law_r1 : List Cond := [Cond.classLink RL 7 RX1, Cond.instantiable RX1 6, Cond.initialized RX1, Cond.classLink RL 10 RX2, Cond.instantiable RX2 5, Cond.initialized RX2, Cond.methodLink RL 9 yX1_init, Cond.instanceMethod yX1_init, Cond.code yX1_init cX1_init 1 none, Cond.methodLink RX1 1 objectInit, Cond.instanceMethod objectInit, Cond.code objectInit ⟨#[0xb1]⟩ 1 none, Cond.fieldLink RX1 7 "RangeRules" "FIRST" "[I", Cond.arrayClass .int, Cond.fieldLink RX1 13 "RangeRules" "thresholds" "[I", Cond.methodLink RX1 16 arraycopyName, Cond.native arraycopyName, Cond.static arraycopyName, Cond.initialized "java/lang/System", Cond.fieldLink RX1 22 "RangeRules" "thresholdCount" "I", Cond.fieldLink RX1 26 "RangeRules" "aroundCount" "I", Cond.fieldLink RX1 29 "RangeRules" "resultLow" "I", Cond.fieldLink RX1 32 "RangeRules" "resultHigh" "I", Cond.classLink RX1 35 RX0]
def wsL_law_r2 : List Cond := [Cond.instantiable RX0 2, Cond.initialized RX0, Cond.fieldLink RX1 38 "RangeRules" "span" "LRangeRules$Span;", Cond.instanceMethod yX0_init, Cond.code yX0_init cX0_init 1 none, Cond.methodLink RX0 1 objectInit, Cond.methodLink RL 12 yX2_init, Cond.instanceMethod yX2_init, Cond.code yX2_init cX2_init 1 none, Cond.methodLink RX2 1 objectInit, Cond.fieldLink RX2 9 "RangeRulesModel" "threshold" "[I", Cond.methodLink RX2 13 yX2_clear, Cond.instanceMethod yX2_clear, Cond.selects RX2 yX2_clear yX2_clear, Cond.code yX2_clear cX2_clear 2 none, Cond.fieldLink RX2 16 "RangeRulesModel" "times" "I", Cond.fieldLink RX2 20 "RangeRulesModel" "thresholds" "I", Cond.constantLong RX2 23 (-2147483648), Cond.constantLong RX2 29 (-2147483647), Cond.constantLong RX2 31 (2147483646), Cond.constantLong RX2 33 (2147483647), Cond.methodLink RX2 25 yX2_add, Cond.instanceMethod yX2_add, Cond.selects RX2 yX2_add yX2_add]
def wsL_law_r3 : List Cond := [Cond.code yX2_add cX2_add 4 none, Cond.methodLink RL 13 yX1_around, Cond.instanceMethod yX1_around, Cond.selects RX1 yX1_around yX1_around, Cond.code yX1_around cX1_around 2 (some .int), Cond.constant RX1 42 (-2147483648), Cond.constant RX1 47 (2147483647), Cond.methodLink RX1 43 yX1_addThreshold, Cond.instanceMethod yX1_addThreshold, Cond.selects RX1 yX1_addThreshold yX1_addThreshold, Cond.code yX1_addThreshold cX1_addThreshold 2 none, Cond.methodLink RX1 79 yX1_isThreshold, Cond.instanceMethod yX1_isThreshold, Cond.selects RX1 yX1_isThreshold yX1_isThreshold, Cond.code yX1_isThreshold cX1_isThreshold 2 (some .boolean), Cond.methodLink RX1 83 yX1_down, Cond.instanceMethod yX1_down, Cond.selects RX1 yX1_down yX1_down, Cond.code yX1_down cX1_down 5 (some .int), Cond.methodLink RL 17 yX2_around, Cond.instanceMethod yX2_around, Cond.selects RX2 yX2_around yX2_around, Cond.code yX2_around cX2_around 4 (some .int), Cond.methodLink RL 18 yX1_clear]
def wsL_law_r4 : List Cond := [Cond.instanceMethod yX1_clear, Cond.selects RX1 yX1_clear yX1_clear, Cond.code yX1_clear cX1_clear 1 none, Cond.methodLink RL 21 yX2_clear, Cond.methodLink RL 22 yX1_size, Cond.instanceMethod yX1_size, Cond.selects RX1 yX1_size yX1_size, Cond.code yX1_size cX1_size 1 (some .int), Cond.methodLink RL 26 yX2_size, Cond.instanceMethod yX2_size, Cond.selects RX2 yX2_size yX2_size, Cond.code yX2_size cX2_size 1 (some .int), Cond.methodLink RL 27 yX1_down, Cond.methodLink RL 30 yX2_down, Cond.instanceMethod yX2_down, Cond.selects RX2 yX2_down yX2_down, Cond.code yX2_down cX2_down 4 (some .int), Cond.constant RX2 35 (-2147483648), Cond.methodLink RX2 36 Lib.Math.max.name, Cond.static Lib.Math.max.name, Cond.initialized "java/lang/Math", Cond.code Lib.Math.max.name Lib.Math.max.code 2 (some .int), Cond.methodLink RL 31 yX1_up, Cond.instanceMethod yX1_up]
def wsL_law_r5 : List Cond := [Cond.selects RX1 yX1_up yX1_up, Cond.code yX1_up cX1_up 5 (some .int), Cond.methodLink RL 34 yX2_up, Cond.instanceMethod yX2_up, Cond.selects RX2 yX2_up yX2_up, Cond.code yX2_up cX2_up 4 (some .int), Cond.constant RX2 42 (2147483647), Cond.methodLink RX2 43 Lib.Math.min.name, Cond.static Lib.Math.min.name, Cond.code Lib.Math.min.name Lib.Math.min.code 2 (some .int), Cond.methodLink RL 35 yX1_work, Cond.instanceMethod yX1_work, Cond.selects RX1 yX1_work yX1_work, Cond.code yX1_work cX1_work 6 (some .int), Cond.methodLink RX1 48 yX1_isRange, Cond.instanceMethod yX1_isRange, Cond.selects RX1 yX1_isRange yX1_isRange, Cond.code yX1_isRange cX1_isRange 3 (some .boolean), Cond.methodLink RX1 52 yX1_tell, Cond.instanceMethod yX1_tell, Cond.selects RX1 yX1_tell yX1_tell, Cond.code yX1_tell cX1_tell 5 none, Cond.methodLink RX1 87 yX1_isInt, Cond.static yX1_isInt]
def wsL_law_r6 : List Cond := [Cond.code yX1_isInt cX1_isInt 2 (some .boolean), Cond.constantLong RX1 97 (-2147483648), Cond.constantLong RX1 99 (2147483647), Cond.methodLink RX1 91 yX1_up, Cond.methodLink RX1 94 yX1_tellAllInts, Cond.instanceMethod yX1_tellAllInts, Cond.selects RX1 yX1_tellAllInts yX1_tellAllInts, Cond.code yX1_tellAllInts cX1_tellAllInts 1 none, Cond.methodLink RX1 56 yX1_multiply, Cond.instanceMethod yX1_multiply, Cond.selects RX1 yX1_multiply yX1_multiply, Cond.code yX1_multiply cX1_multiply 9 none, Cond.instanceMethod yX0_empty, Cond.selects RX0 yX0_empty yX0_empty, Cond.code yX0_empty cX0_empty 1 none, Cond.constantLong RX0 9 (9223372036854775807), Cond.fieldLink RX0 11 "RangeRules$Span" "least" "J", Cond.constantLong RX0 15 (-9223372036854775808), Cond.fieldLink RX0 17 "RangeRules$Span" "greatest" "J", Cond.instanceMethod yX0_take, Cond.selects RX0 yX0_take yX0_take, Cond.code yX0_take cX0_take 3 none, Cond.methodLink RX0 20 Lib.MathLoose.min_long.x, Cond.static Lib.MathLoose.min_long.x]
def wsL_law_r7 : List Cond := [Cond.code Lib.MathLoose.min_long.x Lib.MathLoose.min_long.code 4 (some .long), Cond.methodLink RX0 26 Lib.MathLoose.max_long.x, Cond.static Lib.MathLoose.max_long.x, Cond.code Lib.MathLoose.max_long.x Lib.MathLoose.max_long.code 4 (some .long), Cond.methodLink RX1 60 yX1_divide, Cond.instanceMethod yX1_divide, Cond.selects RX1 yX1_divide yX1_divide, Cond.code yX1_divide cX1_divide 9 none, Cond.constantLong RX1 119 (-1), Cond.methodLink RX1 115 yX1_takeQuotients, Cond.instanceMethod yX1_takeQuotients, Cond.selects RX1 yX1_takeQuotients yX1_takeQuotients, Cond.code yX1_takeQuotients cX1_takeQuotients 7 none, Cond.methodLink RX1 63 yX1_rest, Cond.instanceMethod yX1_rest, Cond.selects RX1 yX1_rest yX1_rest, Cond.code yX1_rest cX1_rest 11 none, Cond.methodLink RX1 121 Lib.MathLoose.abs_long.x, Cond.static Lib.MathLoose.abs_long.x, Cond.code Lib.MathLoose.abs_long.x Lib.MathLoose.abs_long.code 2 (some .long), Cond.methodLink RX1 127 Lib.MathLoose.max_long.x, Cond.methodLink RX1 131 Lib.MathLoose.min_long.x, Cond.methodLink RX1 66 yX1_and, Cond.instanceMethod yX1_and]
def wsL_law_r8 : List Cond := [Cond.selects RX1 yX1_and yX1_and, Cond.code yX1_and cX1_and 5 none, Cond.methodLink RX1 134 Lib.Math.min.name, Cond.methodLink RX1 70 yX1_orOrXor, Cond.instanceMethod yX1_orOrXor, Cond.selects RX1 yX1_orOrXor yX1_orOrXor, Cond.code yX1_orOrXor cX1_orOrXor 5 none, Cond.methodLink RX1 137 Lib.Math.max.name, Cond.methodLink RX1 139 yX1_onesNotBelow, Cond.static yX1_onesNotBelow, Cond.code yX1_onesNotBelow cX1_onesNotBelow 3 (some .int), Cond.methodLink RX1 73 yX1_shiftLeft, Cond.instanceMethod yX1_shiftLeft, Cond.selects RX1 yX1_shiftLeft yX1_shiftLeft, Cond.code yX1_shiftLeft cX1_shiftLeft 7 none, Cond.methodLink RX1 76 yX1_shiftRight, Cond.instanceMethod yX1_shiftRight, Cond.selects RX1 yX1_shiftRight yX1_shiftRight, Cond.code yX1_shiftRight cX1_shiftRight 5 none, Cond.methodLink RL 39 yX2_work, Cond.instanceMethod yX2_work, Cond.selects RX2 yX2_work yX2_work, Cond.code yX2_work cX2_work 8 (some .int), Cond.methodLink RX2 68 yX2_isRange]
def wsL_law_r9 : List Cond := [Cond.instanceMethod yX2_isRange, Cond.selects RX2 yX2_isRange yX2_isRange, Cond.code yX2_isRange cX2_isRange 3 (some .boolean), Cond.methodLink RX2 46 yX2_down, Cond.methodLink RX2 50 yX2_up, Cond.methodLink RX2 59 yX2_tell, Cond.instanceMethod yX2_tell, Cond.selects RX2 yX2_tell yX2_tell, Cond.code yX2_tell cX2_tell 6 (some .int), Cond.fieldLink RX2 53 "RangeRulesModel" "low" "I", Cond.fieldLink RX2 56 "RangeRulesModel" "high" "I", Cond.methodLink RX2 72 yX2_tellLeast, Cond.instanceMethod yX2_tellLeast, Cond.selects RX2 yX2_tellLeast yX2_tellLeast, Cond.code yX2_tellLeast cX2_tellLeast 9 (some .int), Cond.methodLink RX2 63 Lib.MathLoose.min_long.x, Cond.methodLink RX2 66 Lib.MathLoose.max_long.x, Cond.methodLink RX2 76 yX2_quotient, Cond.instanceMethod yX2_quotient, Cond.selects RX2 yX2_quotient yX2_quotient, Cond.code yX2_quotient cX2_quotient 12 (some .int), Cond.constantLong RX2 96 (9223372036854775807), Cond.constantLong RX2 98 (-9223372036854775808), Cond.methodLink RX2 80 yX2_rest]
def wsL_law_r10 : List Cond := [Cond.instanceMethod yX2_rest, Cond.selects RX2 yX2_rest yX2_rest, Cond.code yX2_rest cX2_rest 9 (some .int), Cond.methodLink RX2 100 Lib.MathLoose.abs_long.x, Cond.methodLink RX2 84 yX2_tellAll, Cond.instanceMethod yX2_tellAll, Cond.selects RX2 yX2_tellAll yX2_tellAll, Cond.code yX2_tellAll cX2_tellAll 1 (some .int), Cond.methodLink RX2 88 yX2_ones, Cond.static yX2_ones, Cond.code yX2_ones cX2_ones 3 (some .long), Cond.constantLong RX2 92 (2), Cond.methodLink RL 40 yX1_negate, Cond.instanceMethod yX1_negate, Cond.selects RX1 yX1_negate yX1_negate, Cond.code yX1_negate cX1_negate 3 (some .boolean), Cond.methodLink RL 44 yX2_negate, Cond.instanceMethod yX2_negate, Cond.selects RX2 yX2_negate yX2_negate, Cond.code yX2_negate cX2_negate 4 (some .boolean), Cond.methodLink RL 45 yX1_low, Cond.instanceMethod yX1_low, Cond.selects RX1 yX1_low yX1_low, Cond.code yX1_low cX1_low 1 (some .int)]
def wsL_law_r11 : List Cond := [Cond.methodLink RL 48 yX2_low, Cond.instanceMethod yX2_low, Cond.selects RX2 yX2_low yX2_low, Cond.code yX2_low cX2_low 1 (some .int), Cond.methodLink RL 49 yX1_high, Cond.instanceMethod yX1_high, Cond.selects RX1 yX1_high yX1_high, Cond.code yX1_high cX1_high 1 (some .int), Cond.methodLink RL 52 yX2_high, Cond.instanceMethod yX2_high, Cond.selects RX2 yX2_high yX2_high, Cond.code yX2_high cX2_high 1 (some .int)]
def wsL_law : List Cond := (wsL_law_r1 ++ (wsL_law_r2 ++ (wsL_law_r3 ++ (wsL_law_r4 ++ (wsL_law_r5 ++ (wsL_law_r6 ++ (wsL_law_r7 ++ (wsL_law_r8 ++ (wsL_law_r9 ++ (wsL_law_r10 ++ wsL_law_r11)))))))))) ++ wsX10 ++ wsX20 ++ wsX00 ++ ([] : List Cond)
set_option maxRecDepth 20000 in
theorem wsL_law_in : ∀ w ∈ wsL_law, w ∈ lw_tbl := fun w h => (goodIn_p wsL_law [32, 35, 45, 208, 213, 218, 79, 84, 88, 92, 242, 97, 101, 246, 250, 180, 106, 256, 173, 110, 114, 118, 121, 128, 132, 136, 142, 145, 148, 152, 156, 161, 164, 170, 177, 183, 187, 191, 276, 266, 272, 280, 286, 292, 297, 300, 195, 262, 199, 305, 203, 309] (by decide +kernel) (by decide +kernel) w h).1
theorem inlX0 : ∀ w ∈ wsX00, w ∈ wsL_law := fun _ h => List.mem_append_left _ (List.mem_append_right _ h)
theorem inX0 : ∀ w ∈ wsX00, w ∈ lw_tbl := fun w h => wsL_law_in w (inlX0 w h)
theorem inlX1 : ∀ w ∈ wsX10, w ∈ wsL_law := fun _ h => List.mem_append_left _ (List.mem_append_left _ (List.mem_append_left _ (List.mem_append_right _ h)))
theorem inX1 : ∀ w ∈ wsX10, w ∈ lw_tbl := fun w h => wsL_law_in w (inlX1 w h)
theorem inlX2 : ∀ w ∈ wsX20, w ∈ wsL_law := fun _ h => List.mem_append_left _ (List.mem_append_left _ (List.mem_append_right _ h))
theorem inX2 : ∀ w ∈ wsX20, w ∈ lw_tbl := fun w h => wsL_law_in w (inlX2 w h)
theorem inJ9 : ∀ w ∈ wsJ90, w ∈ lw_tbl := by decide +kernel
theorem inJ10 : ∀ w ∈ wsJ100, w ∈ lw_tbl := by decide +kernel
theorem dX0_init_0 : decode cX0_init 0 = .ok (.aload_n 0, 1) := by decide +kernel
theorem dX0_init_1 : decode cX0_init 1 = .ok (.invokespecial 1, 3) := by decide +kernel
theorem dX0_init_4 : decode cX0_init 4 = .ok (.return_, 1) := by decide +kernel
theorem dX0_empty_0 : decode cX0_empty 0 = .ok (.aload_n 0, 1) := by decide +kernel
theorem dX0_empty_1 : decode cX0_empty 1 = .ok (.ldc2_w 9, 3) := by decide +kernel
theorem dX0_empty_4 : decode cX0_empty 4 = .ok (.putfield 11, 3) := by decide +kernel
theorem dX0_empty_7 : decode cX0_empty 7 = .ok (.aload_n 0, 1) := by decide +kernel
theorem dX0_empty_8 : decode cX0_empty 8 = .ok (.ldc2_w 15, 3) := by decide +kernel
theorem dX0_empty_11 : decode cX0_empty 11 = .ok (.putfield 17, 3) := by decide +kernel
theorem dX0_empty_14 : decode cX0_empty 14 = .ok (.return_, 1) := by decide +kernel
theorem dX0_take_0 : decode cX0_take 0 = .ok (.aload_n 0, 1) := by decide +kernel
theorem dX0_take_1 : decode cX0_take 1 = .ok (.aload_n 0, 1) := by decide +kernel
theorem dX0_take_2 : decode cX0_take 2 = .ok (.getfield 11, 3) := by decide +kernel
theorem dX0_take_5 : decode cX0_take 5 = .ok (.lload_n 1, 1) := by decide +kernel
theorem dX0_take_6 : decode cX0_take 6 = .ok (.invokestatic 20, 3) := by decide +kernel
theorem dX0_take_9 : decode cX0_take 9 = .ok (.putfield 11, 3) := by decide +kernel
theorem dX0_take_12 : decode cX0_take 12 = .ok (.aload_n 0, 1) := by decide +kernel
theorem dX0_take_13 : decode cX0_take 13 = .ok (.aload_n 0, 1) := by decide +kernel
theorem dX0_take_14 : decode cX0_take 14 = .ok (.getfield 17, 3) := by decide +kernel
theorem dX0_take_17 : decode cX0_take 17 = .ok (.lload_n 1, 1) := by decide +kernel
theorem dX0_take_18 : decode cX0_take 18 = .ok (.invokestatic 26, 3) := by decide +kernel
theorem dX0_take_21 : decode cX0_take 21 = .ok (.putfield 17, 3) := by decide +kernel
theorem dX0_take_24 : decode cX0_take 24 = .ok (.return_, 1) := by decide +kernel
end
section
set_option maxRecDepth 20000 in
theorem ggX1_init_X0_init : GoodIn wsX1_init wsX0_init := goodIn_r _ [20, 21, 2, 3] (by decide +kernel) (by decide +kernel)
set_option maxRecDepth 20000 in
theorem gX1_init_X0_init_n37 : GoodIn wsX1_init (wsX0_init) := ggX1_init_X0_init
theorem dX1_init_0 : decode cX1_init 0 = .ok (.aload_n 0, 1) := by decide +kernel
theorem dX1_init_1 : decode cX1_init 1 = .ok (.invokespecial 1, 3) := by decide +kernel
theorem dX1_init_4 : decode cX1_init 4 = .ok (.aload_n 0, 1) := by decide +kernel
theorem dX1_init_5 : decode cX1_init 5 = .ok (.getstatic 7, 3) := by decide +kernel
theorem dX1_init_8 : decode cX1_init 8 = .ok (.arraylength, 1) := by decide +kernel
theorem dX1_init_9 : decode cX1_init 9 = .ok (.sipush 180, 3) := by decide +kernel
theorem dX1_init_12 : decode cX1_init 12 = .ok (.iadd, 1) := by decide +kernel
theorem dX1_init_13 : decode cX1_init 13 = .ok (.newarray .int, 2) := by decide +kernel
theorem dX1_init_15 : decode cX1_init 15 = .ok (.putfield 13, 3) := by decide +kernel
theorem dX1_init_18 : decode cX1_init 18 = .ok (.getstatic 7, 3) := by decide +kernel
theorem dX1_init_21 : decode cX1_init 21 = .ok (.iconst 0, 1) := by decide +kernel
theorem dX1_init_22 : decode cX1_init 22 = .ok (.aload_n 0, 1) := by decide +kernel
theorem dX1_init_23 : decode cX1_init 23 = .ok (.getfield 13, 3) := by decide +kernel
theorem dX1_init_26 : decode cX1_init 26 = .ok (.iconst 0, 1) := by decide +kernel
theorem dX1_init_27 : decode cX1_init 27 = .ok (.getstatic 7, 3) := by decide +kernel
theorem dX1_init_30 : decode cX1_init 30 = .ok (.arraylength, 1) := by decide +kernel
theorem dX1_init_31 : decode cX1_init 31 = .ok (.invokestatic 16, 3) := by decide +kernel
theorem dX1_init_34 : decode cX1_init 34 = .ok (.aload_n 0, 1) := by decide +kernel
theorem dX1_init_35 : decode cX1_init 35 = .ok (.getstatic 7, 3) := by decide +kernel
theorem dX1_init_38 : decode cX1_init 38 = .ok (.arraylength, 1) := by decide +kernel
theorem dX1_init_39 : decode cX1_init 39 = .ok (.putfield 22, 3) := by decide +kernel
theorem dX1_init_42 : decode cX1_init 42 = .ok (.aload_n 0, 1) := by decide +kernel
theorem dX1_init_43 : decode cX1_init 43 = .ok (.iconst 0, 1) := by decide +kernel
theorem dX1_init_44 : decode cX1_init 44 = .ok (.putfield 26, 3) := by decide +kernel
theorem dX1_init_47 : decode cX1_init 47 = .ok (.aload_n 0, 1) := by decide +kernel
theorem dX1_init_48 : decode cX1_init 48 = .ok (.iconst 0, 1) := by decide +kernel
theorem dX1_init_49 : decode cX1_init 49 = .ok (.putfield 29, 3) := by decide +kernel
theorem dX1_init_52 : decode cX1_init 52 = .ok (.aload_n 0, 1) := by decide +kernel
theorem dX1_init_53 : decode cX1_init 53 = .ok (.iconst 0, 1) := by decide +kernel
theorem dX1_init_54 : decode cX1_init 54 = .ok (.putfield 32, 3) := by decide +kernel
theorem dX1_init_57 : decode cX1_init 57 = .ok (.aload_n 0, 1) := by decide +kernel
theorem dX1_init_58 : decode cX1_init 58 = .ok (.new 35, 3) := by decide +kernel
theorem dX1_init_61 : decode cX1_init 61 = .ok (.dup, 1) := by decide +kernel
theorem dX1_init_62 : decode cX1_init 62 = .ok (.invokespecial 37, 3) := by decide +kernel
theorem dX1_init_65 : decode cX1_init 65 = .ok (.putfield 38, 3) := by decide +kernel
theorem dX1_init_68 : decode cX1_init 68 = .ok (.return_, 1) := by decide +kernel
set_option maxRecDepth 20000 in
theorem ggX1_around_X1_addThreshold : GoodIn wsX1_around wsX1_addThreshold := goodIn_r _ [9, 4, 10, 11, 12, 13, 8, 14, 15, 16, 17, 18, 2, 19, 20, 21, 22, 23, 24] (by decide +kernel) (by decide +kernel)
set_option maxRecDepth 20000 in
theorem gX1_around_X1_addThreshold : GoodIn wsX1_around (wsV RX1 43 RX1 yX1_addThreshold wsX1_addThreshold) := goodIn_app (goodIn_of _ (by decide +kernel)) ggX1_around_X1_addThreshold
theorem dX1_around_0 : decode cX1_around 0 = .ok (.aload_n 0, 1) := by decide +kernel
theorem dX1_around_1 : decode cX1_around 1 = .ok (.getfield 26, 3) := by decide +kernel
theorem dX1_around_4 : decode cX1_around 4 = .ok (.bipush 60, 2) := by decide +kernel
theorem dX1_around_6 : decode cX1_around 6 = .ok (.if_icmp .lt 5, 3) := by decide +kernel
theorem dX1_around_9 : decode cX1_around 9 = .ok (.iconst (-1), 1) := by decide +kernel
theorem dX1_around_10 : decode cX1_around 10 = .ok (.ireturn, 1) := by decide +kernel
theorem dX1_around_11 : decode cX1_around 11 = .ok (.aload_n 0, 1) := by decide +kernel
theorem dX1_around_12 : decode cX1_around 12 = .ok (.dup, 1) := by decide +kernel
theorem dX1_around_13 : decode cX1_around 13 = .ok (.getfield 26, 3) := by decide +kernel
theorem dX1_around_16 : decode cX1_around 16 = .ok (.iconst 1, 1) := by decide +kernel
theorem dX1_around_17 : decode cX1_around 17 = .ok (.iadd, 1) := by decide +kernel
theorem dX1_around_18 : decode cX1_around 18 = .ok (.putfield 26, 3) := by decide +kernel
theorem dX1_around_21 : decode cX1_around 21 = .ok (.iload_n 1, 1) := by decide +kernel
theorem dX1_around_22 : decode cX1_around 22 = .ok (.ldc 42, 2) := by decide +kernel
theorem dX1_around_24 : decode cX1_around 24 = .ok (.if_icmp .le 10, 3) := by decide +kernel
theorem dX1_around_27 : decode cX1_around 27 = .ok (.aload_n 0, 1) := by decide +kernel
theorem dX1_around_28 : decode cX1_around 28 = .ok (.iload_n 1, 1) := by decide +kernel
theorem dX1_around_29 : decode cX1_around 29 = .ok (.iconst 1, 1) := by decide +kernel
theorem dX1_around_30 : decode cX1_around 30 = .ok (.isub, 1) := by decide +kernel
theorem dX1_around_31 : decode cX1_around 31 = .ok (.invokevirtual 43, 3) := by decide +kernel
theorem dX1_around_34 : decode cX1_around 34 = .ok (.aload_n 0, 1) := by decide +kernel
theorem dX1_around_35 : decode cX1_around 35 = .ok (.iload_n 1, 1) := by decide +kernel
theorem dX1_around_36 : decode cX1_around 36 = .ok (.invokevirtual 43, 3) := by decide +kernel
theorem dX1_around_39 : decode cX1_around 39 = .ok (.iload_n 1, 1) := by decide +kernel
theorem dX1_around_40 : decode cX1_around 40 = .ok (.ldc 47, 2) := by decide +kernel
theorem dX1_around_42 : decode cX1_around 42 = .ok (.if_icmp .ge 10, 3) := by decide +kernel
theorem dX1_around_45 : decode cX1_around 45 = .ok (.aload_n 0, 1) := by decide +kernel
theorem dX1_around_46 : decode cX1_around 46 = .ok (.iload_n 1, 1) := by decide +kernel
theorem dX1_around_47 : decode cX1_around 47 = .ok (.iconst 1, 1) := by decide +kernel
theorem dX1_around_48 : decode cX1_around 48 = .ok (.iadd, 1) := by decide +kernel
theorem dX1_around_49 : decode cX1_around 49 = .ok (.invokevirtual 43, 3) := by decide +kernel
theorem dX1_around_52 : decode cX1_around 52 = .ok (.aload_n 0, 1) := by decide +kernel
theorem dX1_around_53 : decode cX1_around 53 = .ok (.getfield 22, 3) := by decide +kernel
theorem dX1_around_56 : decode cX1_around 56 = .ok (.ireturn, 1) := by decide +kernel
theorem dX1_clear_0 : decode cX1_clear 0 = .ok (.aload_n 0, 1) := by decide +kernel
theorem dX1_clear_1 : decode cX1_clear 1 = .ok (.getstatic 7, 3) := by decide +kernel
theorem dX1_clear_4 : decode cX1_clear 4 = .ok (.arraylength, 1) := by decide +kernel
theorem dX1_clear_5 : decode cX1_clear 5 = .ok (.putfield 22, 3) := by decide +kernel
theorem dX1_clear_8 : decode cX1_clear 8 = .ok (.aload_n 0, 1) := by decide +kernel
theorem dX1_clear_9 : decode cX1_clear 9 = .ok (.iconst 0, 1) := by decide +kernel
theorem dX1_clear_10 : decode cX1_clear 10 = .ok (.putfield 26, 3) := by decide +kernel
theorem dX1_clear_13 : decode cX1_clear 13 = .ok (.return_, 1) := by decide +kernel
theorem dX1_size_0 : decode cX1_size 0 = .ok (.aload_n 0, 1) := by decide +kernel
theorem dX1_size_1 : decode cX1_size 1 = .ok (.getfield 22, 3) := by decide +kernel
theorem dX1_size_4 : decode cX1_size 4 = .ok (.ireturn, 1) := by decide +kernel
theorem dX1_down_0 : decode cX1_down 0 = .ok (.ldc 42, 2) := by decide +kernel
theorem dX1_down_2 : decode cX1_down 2 = .ok (.istore_n 2, 1) := by decide +kernel
theorem dX1_down_3 : decode cX1_down 3 = .ok (.iconst 0, 1) := by decide +kernel
theorem dX1_down_4 : decode cX1_down 4 = .ok (.istore_n 3, 1) := by decide +kernel
theorem dX1_down_5 : decode cX1_down 5 = .ok (.iload_n 3, 1) := by decide +kernel
theorem dX1_down_6 : decode cX1_down 6 = .ok (.aload_n 0, 1) := by decide +kernel
theorem dX1_down_7 : decode cX1_down 7 = .ok (.getfield 22, 3) := by decide +kernel
theorem dX1_down_10 : decode cX1_down 10 = .ok (.if_icmp .ge 32, 3) := by decide +kernel
theorem dX1_down_13 : decode cX1_down 13 = .ok (.aload_n 0, 1) := by decide +kernel
theorem dX1_down_14 : decode cX1_down 14 = .ok (.getfield 13, 3) := by decide +kernel
theorem dX1_down_17 : decode cX1_down 17 = .ok (.iload_n 3, 1) := by decide +kernel
theorem dX1_down_18 : decode cX1_down 18 = .ok (.iaload, 1) := by decide +kernel
theorem dX1_down_19 : decode cX1_down 19 = .ok (.istore 4, 2) := by decide +kernel
theorem dX1_down_21 : decode cX1_down 21 = .ok (.iload 4, 2) := by decide +kernel
theorem dX1_down_23 : decode cX1_down 23 = .ok (.iload_n 1, 1) := by decide +kernel
theorem dX1_down_24 : decode cX1_down 24 = .ok (.if_icmp .gt 12, 3) := by decide +kernel
theorem dX1_down_27 : decode cX1_down 27 = .ok (.iload 4, 2) := by decide +kernel
theorem dX1_down_29 : decode cX1_down 29 = .ok (.iload_n 2, 1) := by decide +kernel
theorem dX1_down_30 : decode cX1_down 30 = .ok (.if_icmp .le 6, 3) := by decide +kernel
theorem dX1_down_33 : decode cX1_down 33 = .ok (.iload 4, 2) := by decide +kernel
theorem dX1_down_35 : decode cX1_down 35 = .ok (.istore_n 2, 1) := by decide +kernel
theorem dX1_down_36 : decode cX1_down 36 = .ok (.iinc 3 1, 3) := by decide +kernel
theorem dX1_down_39 : decode cX1_down 39 = .ok (.goto (-34), 3) := by decide +kernel
theorem dX1_down_42 : decode cX1_down 42 = .ok (.iload_n 2, 1) := by decide +kernel
theorem dX1_down_43 : decode cX1_down 43 = .ok (.ireturn, 1) := by decide +kernel
theorem dX1_up_0 : decode cX1_up 0 = .ok (.ldc 47, 2) := by decide +kernel
theorem dX1_up_2 : decode cX1_up 2 = .ok (.istore_n 2, 1) := by decide +kernel
theorem dX1_up_3 : decode cX1_up 3 = .ok (.iconst 0, 1) := by decide +kernel
theorem dX1_up_4 : decode cX1_up 4 = .ok (.istore_n 3, 1) := by decide +kernel
theorem dX1_up_5 : decode cX1_up 5 = .ok (.iload_n 3, 1) := by decide +kernel
theorem dX1_up_6 : decode cX1_up 6 = .ok (.aload_n 0, 1) := by decide +kernel
theorem dX1_up_7 : decode cX1_up 7 = .ok (.getfield 22, 3) := by decide +kernel
theorem dX1_up_10 : decode cX1_up 10 = .ok (.if_icmp .ge 32, 3) := by decide +kernel
theorem dX1_up_13 : decode cX1_up 13 = .ok (.aload_n 0, 1) := by decide +kernel
theorem dX1_up_14 : decode cX1_up 14 = .ok (.getfield 13, 3) := by decide +kernel
theorem dX1_up_17 : decode cX1_up 17 = .ok (.iload_n 3, 1) := by decide +kernel
theorem dX1_up_18 : decode cX1_up 18 = .ok (.iaload, 1) := by decide +kernel
theorem dX1_up_19 : decode cX1_up 19 = .ok (.istore 4, 2) := by decide +kernel
theorem dX1_up_21 : decode cX1_up 21 = .ok (.iload 4, 2) := by decide +kernel
theorem dX1_up_23 : decode cX1_up 23 = .ok (.iload_n 1, 1) := by decide +kernel
theorem dX1_up_24 : decode cX1_up 24 = .ok (.if_icmp .lt 12, 3) := by decide +kernel
theorem dX1_up_27 : decode cX1_up 27 = .ok (.iload 4, 2) := by decide +kernel
theorem dX1_up_29 : decode cX1_up 29 = .ok (.iload_n 2, 1) := by decide +kernel
theorem dX1_up_30 : decode cX1_up 30 = .ok (.if_icmp .ge 6, 3) := by decide +kernel
theorem dX1_up_33 : decode cX1_up 33 = .ok (.iload 4, 2) := by decide +kernel
theorem dX1_up_35 : decode cX1_up 35 = .ok (.istore_n 2, 1) := by decide +kernel
theorem dX1_up_36 : decode cX1_up 36 = .ok (.iinc 3 1, 3) := by decide +kernel
theorem dX1_up_39 : decode cX1_up 39 = .ok (.goto (-34), 3) := by decide +kernel
theorem dX1_up_42 : decode cX1_up 42 = .ok (.iload_n 2, 1) := by decide +kernel
theorem dX1_up_43 : decode cX1_up 43 = .ok (.ireturn, 1) := by decide +kernel
set_option maxRecDepth 20000 in
theorem ggX1_work_X1_isRange : GoodIn wsX1_work wsX1_isRange := goodIn_r _ [5, 6, 7, 8, 4, 9, 10, 11, 12, 13, 14, 15, 16, 103, 104, 105, 106, 107, 108] (by decide +kernel) (by decide +kernel)
set_option maxRecDepth 20000 in
theorem gX1_work_X1_isRange : GoodIn wsX1_work (wsV RX1 48 RX1 yX1_isRange wsX1_isRange) := goodIn_app (goodIn_of _ (by decide +kernel)) ggX1_work_X1_isRange
set_option maxRecDepth 20000 in
theorem ggX1_work_X1_tell : GoodIn wsX1_work wsX1_tell := goodIn_r _ [20, 21, 22, 23, 24, 4, 25, 26, 27, 10, 11, 12, 13, 14, 15, 16, 28, 29, 30, 31, 32, 33, 34, 35, 36, 103, 104, 105, 106, 107, 108] (by decide +kernel) (by decide +kernel)
set_option maxRecDepth 20000 in
theorem gX1_work_X1_tell : GoodIn wsX1_work (wsV RX1 52 RX1 yX1_tell wsX1_tell) := goodIn_app (goodIn_of _ (by decide +kernel)) ggX1_work_X1_tell
set_option maxRecDepth 20000 in
theorem ggX1_work_X1_multiply : GoodIn wsX1_work wsX1_multiply := goodIn_r _ [40, 41, 42, 43, 44, 45, 46, 47, 48, 49, 50, 51, 52, 53, 54, 55, 56, 57, 58, 59, 17, 18, 19, 4, 20, 21, 22, 23, 24, 25, 26, 27, 10, 11, 12, 13, 14, 15, 16, 28, 29, 30, 31, 32, 33, 34, 35, 36, 103, 104, 105, 106, 107, 108, 109, 110] (by decide +kernel) (by decide +kernel)
set_option maxRecDepth 20000 in
theorem gX1_work_X1_multiply : GoodIn wsX1_work (wsV RX1 56 RX1 yX1_multiply wsX1_multiply) := goodIn_app (goodIn_of _ (by decide +kernel)) ggX1_work_X1_multiply
set_option maxRecDepth 20000 in
theorem ggX1_work_X1_divide : GoodIn wsX1_work wsX1_divide := goodIn_r _ [63, 41, 64, 42, 43, 44, 45, 46, 47, 48, 49, 65, 66, 67, 4, 68, 50, 51, 52, 53, 54, 55, 56, 57, 58, 59, 17, 18, 19, 20, 21, 22, 23, 24, 25, 26, 27, 10, 11, 12, 13, 14, 15, 16, 28, 29, 30, 31, 32, 33, 34, 35, 36, 103, 104, 105, 106, 107, 108, 109, 110] (by decide +kernel) (by decide +kernel)
set_option maxRecDepth 20000 in
theorem gX1_work_X1_divide : GoodIn wsX1_work (wsV RX1 60 RX1 yX1_divide wsX1_divide) := goodIn_app (goodIn_of _ (by decide +kernel)) ggX1_work_X1_divide
set_option maxRecDepth 20000 in
theorem ggX1_work_X1_rest : GoodIn wsX1_work wsX1_rest := goodIn_r _ [72, 73, 74, 55, 75, 76, 58, 59, 77, 54, 56, 17, 18, 19, 4, 20, 21, 22, 23, 24, 25, 26, 27, 10, 11, 12, 13, 14, 15, 16, 28, 29, 30, 31, 32, 33, 34, 35, 36, 103, 104, 105, 106, 107, 108] (by decide +kernel) (by decide +kernel)
set_option maxRecDepth 20000 in
theorem gX1_work_X1_rest : GoodIn wsX1_work (wsV RX1 63 RX1 yX1_rest wsX1_rest) := goodIn_app (goodIn_of _ (by decide +kernel)) ggX1_work_X1_rest
set_option maxRecDepth 20000 in
theorem ggX1_work_X1_and : GoodIn wsX1_work wsX1_and := goodIn_r _ [81, 82, 83, 55, 84, 33, 34, 35, 4, 36, 14, 21, 32, 22, 17, 18, 19, 20, 23, 24, 25, 26, 27, 10, 11, 12, 13, 15, 16, 28, 29, 30, 31, 103, 104, 105, 106, 107, 108] (by decide +kernel) (by decide +kernel)
set_option maxRecDepth 20000 in
theorem gX1_work_X1_and : GoodIn wsX1_work (wsV RX1 66 RX1 yX1_and wsX1_and) := goodIn_app (goodIn_of _ (by decide +kernel)) ggX1_work_X1_and
set_option maxRecDepth 20000 in
theorem ggX1_work_X1_orOrXor : GoodIn wsX1_work wsX1_orOrXor := goodIn_r _ [88, 89, 90, 55, 91, 33, 34, 35, 4, 36, 14, 21, 32, 22, 92, 93, 94, 17, 18, 19, 20, 23, 24, 25, 26, 27, 10, 11, 12, 13, 15, 16, 28, 29, 30, 31, 103, 104, 105, 106, 107, 108] (by decide +kernel) (by decide +kernel)
set_option maxRecDepth 20000 in
theorem gX1_work_X1_orOrXor : GoodIn wsX1_work (wsV RX1 70 RX1 yX1_orOrXor wsX1_orOrXor) := goodIn_app (goodIn_of _ (by decide +kernel)) ggX1_work_X1_orOrXor
set_option maxRecDepth 20000 in
theorem ggX1_work_X1_shiftLeft : GoodIn wsX1_work wsX1_shiftLeft := goodIn_r _ [98, 37, 38, 39, 4, 40, 41, 42, 43, 44, 45, 46, 47, 48, 49, 50, 51, 52, 53, 54, 55, 56, 57, 58, 59, 17, 18, 19, 20, 21, 22, 23, 24, 25, 26, 27, 10, 11, 12, 13, 14, 15, 16, 28, 29, 30, 31, 32, 33, 34, 35, 36, 103, 104, 105, 106, 107, 108, 109, 110] (by decide +kernel) (by decide +kernel)
set_option maxRecDepth 20000 in
theorem gX1_work_X1_shiftLeft : GoodIn wsX1_work (wsV RX1 73 RX1 yX1_shiftLeft wsX1_shiftLeft) := goodIn_app (goodIn_of _ (by decide +kernel)) ggX1_work_X1_shiftLeft
set_option maxRecDepth 20000 in
theorem ggX1_work_X1_shiftRight : GoodIn wsX1_work wsX1_shiftRight := goodIn_r _ [102, 82, 83, 55, 84, 89, 90, 91, 17, 18, 19, 4, 20, 21, 22, 23, 24, 25, 26, 27, 10, 11, 12, 13, 14, 15, 16, 28, 29, 30, 31, 32, 33, 34, 35, 36, 103, 104, 105, 106, 107, 108] (by decide +kernel) (by decide +kernel)
set_option maxRecDepth 20000 in
theorem gX1_work_X1_shiftRight : GoodIn wsX1_work (wsV RX1 76 RX1 yX1_shiftRight wsX1_shiftRight) := goodIn_app (goodIn_of _ (by decide +kernel)) ggX1_work_X1_shiftRight
theorem dX1_work_0 : decode cX1_work 0 = .ok (.iload_n 1, 1) := by decide +kernel
theorem dX1_work_1 : decode cX1_work 1 = .ok (.ifCond .lt 29, 3) := by decide +kernel
theorem dX1_work_4 : decode cX1_work 4 = .ok (.iload_n 1, 1) := by decide +kernel
theorem dX1_work_5 : decode cX1_work 5 = .ok (.bipush 9, 2) := by decide +kernel
theorem dX1_work_7 : decode cX1_work 7 = .ok (.if_icmp .gt 23, 3) := by decide +kernel
theorem dX1_work_10 : decode cX1_work 10 = .ok (.aload_n 0, 1) := by decide +kernel
theorem dX1_work_11 : decode cX1_work 11 = .ok (.iload_n 2, 1) := by decide +kernel
theorem dX1_work_12 : decode cX1_work 12 = .ok (.iload_n 3, 1) := by decide +kernel
theorem dX1_work_13 : decode cX1_work 13 = .ok (.invokevirtual 48, 3) := by decide +kernel
theorem dX1_work_16 : decode cX1_work 16 = .ok (.ifCond .eq 14, 3) := by decide +kernel
theorem dX1_work_19 : decode cX1_work 19 = .ok (.aload_n 0, 1) := by decide +kernel
theorem dX1_work_20 : decode cX1_work 20 = .ok (.iload 4, 2) := by decide +kernel
theorem dX1_work_22 : decode cX1_work 22 = .ok (.iload 5, 2) := by decide +kernel
theorem dX1_work_24 : decode cX1_work 24 = .ok (.invokevirtual 48, 3) := by decide +kernel
theorem dX1_work_27 : decode cX1_work 27 = .ok (.ifCond .ne 5, 3) := by decide +kernel
theorem dX1_work_30 : decode cX1_work 30 = .ok (.iconst (-1), 1) := by decide +kernel
theorem dX1_work_31 : decode cX1_work 31 = .ok (.ireturn, 1) := by decide +kernel
theorem dX1_work_32 : decode cX1_work 32 = .ok (.iload_n 1, 1) := by decide +kernel
theorem dX1_work_33 : decode cX1_work 33 = .ok (.iconst 3, 1) := by decide +kernel
theorem dX1_work_34 : decode cX1_work 34 = .ok (.if_icmp .eq 8, 3) := by decide +kernel
theorem dX1_work_37 : decode cX1_work 37 = .ok (.iload_n 1, 1) := by decide +kernel
theorem dX1_work_38 : decode cX1_work 38 = .ok (.iconst 4, 1) := by decide +kernel
theorem dX1_work_39 : decode cX1_work 39 = .ok (.if_icmp .ne 15, 3) := by decide +kernel
theorem dX1_work_42 : decode cX1_work 42 = .ok (.iload 4, 2) := by decide +kernel
theorem dX1_work_44 : decode cX1_work 44 = .ok (.ifCond .ne 10, 3) := by decide +kernel
theorem dX1_work_47 : decode cX1_work 47 = .ok (.iload 5, 2) := by decide +kernel
theorem dX1_work_49 : decode cX1_work 49 = .ok (.ifCond .ne 5, 3) := by decide +kernel
theorem dX1_work_52 : decode cX1_work 52 = .ok (.iconst 0, 1) := by decide +kernel
theorem dX1_work_53 : decode cX1_work 53 = .ok (.ireturn, 1) := by decide +kernel
theorem dX1_work_54 : decode cX1_work 54 = .ok (.iload_n 1, 1) := by decide +kernel
theorem dX1_work_55 : decode cX1_work 55 = .ok (.tableswitch 177 0 8 #[49, 68, 87, 104, 121, 138, 151, 151, 164], 49) := by decide +kernel
theorem dX1_work_104 : decode cX1_work 104 = .ok (.aload_n 0, 1) := by decide +kernel
theorem dX1_work_105 : decode cX1_work 105 = .ok (.iload_n 2, 1) := by decide +kernel
theorem dX1_work_106 : decode cX1_work 106 = .ok (.i2l, 1) := by decide +kernel
theorem dX1_work_107 : decode cX1_work 107 = .ok (.iload 4, 2) := by decide +kernel
theorem dX1_work_109 : decode cX1_work 109 = .ok (.i2l, 1) := by decide +kernel
theorem dX1_work_110 : decode cX1_work 110 = .ok (.ladd, 1) := by decide +kernel
theorem dX1_work_111 : decode cX1_work 111 = .ok (.iload_n 3, 1) := by decide +kernel
theorem dX1_work_112 : decode cX1_work 112 = .ok (.i2l, 1) := by decide +kernel
theorem dX1_work_113 : decode cX1_work 113 = .ok (.iload 5, 2) := by decide +kernel
theorem dX1_work_115 : decode cX1_work 115 = .ok (.i2l, 1) := by decide +kernel
theorem dX1_work_116 : decode cX1_work 116 = .ok (.ladd, 1) := by decide +kernel
theorem dX1_work_117 : decode cX1_work 117 = .ok (.invokevirtual 52, 3) := by decide +kernel
theorem dX1_work_120 : decode cX1_work 120 = .ok (.goto 122, 3) := by decide +kernel
theorem dX1_work_123 : decode cX1_work 123 = .ok (.aload_n 0, 1) := by decide +kernel
theorem dX1_work_124 : decode cX1_work 124 = .ok (.iload_n 2, 1) := by decide +kernel
theorem dX1_work_125 : decode cX1_work 125 = .ok (.i2l, 1) := by decide +kernel
theorem dX1_work_126 : decode cX1_work 126 = .ok (.iload 5, 2) := by decide +kernel
theorem dX1_work_128 : decode cX1_work 128 = .ok (.i2l, 1) := by decide +kernel
theorem dX1_work_129 : decode cX1_work 129 = .ok (.lsub, 1) := by decide +kernel
theorem dX1_work_130 : decode cX1_work 130 = .ok (.iload_n 3, 1) := by decide +kernel
theorem dX1_work_131 : decode cX1_work 131 = .ok (.i2l, 1) := by decide +kernel
theorem dX1_work_132 : decode cX1_work 132 = .ok (.iload 4, 2) := by decide +kernel
theorem dX1_work_134 : decode cX1_work 134 = .ok (.i2l, 1) := by decide +kernel
theorem dX1_work_135 : decode cX1_work 135 = .ok (.lsub, 1) := by decide +kernel
theorem dX1_work_136 : decode cX1_work 136 = .ok (.invokevirtual 52, 3) := by decide +kernel
theorem dX1_work_139 : decode cX1_work 139 = .ok (.goto 103, 3) := by decide +kernel
theorem dX1_work_142 : decode cX1_work 142 = .ok (.aload_n 0, 1) := by decide +kernel
theorem dX1_work_143 : decode cX1_work 143 = .ok (.iload_n 2, 1) := by decide +kernel
theorem dX1_work_144 : decode cX1_work 144 = .ok (.i2l, 1) := by decide +kernel
theorem dX1_work_145 : decode cX1_work 145 = .ok (.iload_n 3, 1) := by decide +kernel
theorem dX1_work_146 : decode cX1_work 146 = .ok (.i2l, 1) := by decide +kernel
theorem dX1_work_147 : decode cX1_work 147 = .ok (.iload 4, 2) := by decide +kernel
theorem dX1_work_149 : decode cX1_work 149 = .ok (.i2l, 1) := by decide +kernel
theorem dX1_work_150 : decode cX1_work 150 = .ok (.iload 5, 2) := by decide +kernel
theorem dX1_work_152 : decode cX1_work 152 = .ok (.i2l, 1) := by decide +kernel
theorem dX1_work_153 : decode cX1_work 153 = .ok (.invokevirtual 56, 3) := by decide +kernel
theorem dX1_work_156 : decode cX1_work 156 = .ok (.goto 86, 3) := by decide +kernel
theorem dX1_work_159 : decode cX1_work 159 = .ok (.aload_n 0, 1) := by decide +kernel
theorem dX1_work_160 : decode cX1_work 160 = .ok (.iload_n 2, 1) := by decide +kernel
theorem dX1_work_161 : decode cX1_work 161 = .ok (.i2l, 1) := by decide +kernel
theorem dX1_work_162 : decode cX1_work 162 = .ok (.iload_n 3, 1) := by decide +kernel
theorem dX1_work_163 : decode cX1_work 163 = .ok (.i2l, 1) := by decide +kernel
theorem dX1_work_164 : decode cX1_work 164 = .ok (.iload 4, 2) := by decide +kernel
theorem dX1_work_166 : decode cX1_work 166 = .ok (.i2l, 1) := by decide +kernel
theorem dX1_work_167 : decode cX1_work 167 = .ok (.iload 5, 2) := by decide +kernel
theorem dX1_work_169 : decode cX1_work 169 = .ok (.i2l, 1) := by decide +kernel
theorem dX1_work_170 : decode cX1_work 170 = .ok (.invokevirtual 60, 3) := by decide +kernel
theorem dX1_work_173 : decode cX1_work 173 = .ok (.goto 69, 3) := by decide +kernel
theorem dX1_work_176 : decode cX1_work 176 = .ok (.aload_n 0, 1) := by decide +kernel
theorem dX1_work_177 : decode cX1_work 177 = .ok (.iload_n 2, 1) := by decide +kernel
theorem dX1_work_178 : decode cX1_work 178 = .ok (.i2l, 1) := by decide +kernel
theorem dX1_work_179 : decode cX1_work 179 = .ok (.iload_n 3, 1) := by decide +kernel
theorem dX1_work_180 : decode cX1_work 180 = .ok (.i2l, 1) := by decide +kernel
theorem dX1_work_181 : decode cX1_work 181 = .ok (.iload 4, 2) := by decide +kernel
theorem dX1_work_183 : decode cX1_work 183 = .ok (.i2l, 1) := by decide +kernel
theorem dX1_work_184 : decode cX1_work 184 = .ok (.iload 5, 2) := by decide +kernel
theorem dX1_work_186 : decode cX1_work 186 = .ok (.i2l, 1) := by decide +kernel
theorem dX1_work_187 : decode cX1_work 187 = .ok (.invokevirtual 63, 3) := by decide +kernel
theorem dX1_work_190 : decode cX1_work 190 = .ok (.goto 52, 3) := by decide +kernel
theorem dX1_work_193 : decode cX1_work 193 = .ok (.aload_n 0, 1) := by decide +kernel
theorem dX1_work_194 : decode cX1_work 194 = .ok (.iload_n 2, 1) := by decide +kernel
theorem dX1_work_195 : decode cX1_work 195 = .ok (.iload_n 3, 1) := by decide +kernel
theorem dX1_work_196 : decode cX1_work 196 = .ok (.iload 4, 2) := by decide +kernel
theorem dX1_work_198 : decode cX1_work 198 = .ok (.iload 5, 2) := by decide +kernel
theorem dX1_work_200 : decode cX1_work 200 = .ok (.invokevirtual 66, 3) := by decide +kernel
theorem dX1_work_203 : decode cX1_work 203 = .ok (.goto 39, 3) := by decide +kernel
theorem dX1_work_206 : decode cX1_work 206 = .ok (.aload_n 0, 1) := by decide +kernel
theorem dX1_work_207 : decode cX1_work 207 = .ok (.iload_n 2, 1) := by decide +kernel
theorem dX1_work_208 : decode cX1_work 208 = .ok (.iload_n 3, 1) := by decide +kernel
theorem dX1_work_209 : decode cX1_work 209 = .ok (.iload 4, 2) := by decide +kernel
theorem dX1_work_211 : decode cX1_work 211 = .ok (.iload 5, 2) := by decide +kernel
theorem dX1_work_213 : decode cX1_work 213 = .ok (.invokevirtual 70, 3) := by decide +kernel
theorem dX1_work_216 : decode cX1_work 216 = .ok (.goto 26, 3) := by decide +kernel
theorem dX1_work_219 : decode cX1_work 219 = .ok (.aload_n 0, 1) := by decide +kernel
theorem dX1_work_220 : decode cX1_work 220 = .ok (.iload_n 2, 1) := by decide +kernel
theorem dX1_work_221 : decode cX1_work 221 = .ok (.iload_n 3, 1) := by decide +kernel
theorem dX1_work_222 : decode cX1_work 222 = .ok (.iload 4, 2) := by decide +kernel
theorem dX1_work_224 : decode cX1_work 224 = .ok (.iload 5, 2) := by decide +kernel
theorem dX1_work_226 : decode cX1_work 226 = .ok (.invokevirtual 73, 3) := by decide +kernel
theorem dX1_work_229 : decode cX1_work 229 = .ok (.goto 13, 3) := by decide +kernel
theorem dX1_work_232 : decode cX1_work 232 = .ok (.aload_n 0, 1) := by decide +kernel
theorem dX1_work_233 : decode cX1_work 233 = .ok (.iload_n 2, 1) := by decide +kernel
theorem dX1_work_234 : decode cX1_work 234 = .ok (.iload_n 3, 1) := by decide +kernel
theorem dX1_work_235 : decode cX1_work 235 = .ok (.iload 4, 2) := by decide +kernel
theorem dX1_work_237 : decode cX1_work 237 = .ok (.iload 5, 2) := by decide +kernel
theorem dX1_work_239 : decode cX1_work 239 = .ok (.invokevirtual 76, 3) := by decide +kernel
theorem dX1_work_242 : decode cX1_work 242 = .ok (.iconst 1, 1) := by decide +kernel
theorem dX1_work_243 : decode cX1_work 243 = .ok (.ireturn, 1) := by decide +kernel
set_option maxRecDepth 20000 in
theorem ggX1_negate_X1_isRange : GoodIn wsX1_negate wsX1_isRange := goodIn_r _ [5, 6, 7, 8, 4, 9, 10, 11, 12, 13, 14, 15, 16, 37, 38, 39, 40, 41, 42] (by decide +kernel) (by decide +kernel)
set_option maxRecDepth 20000 in
theorem gX1_negate_X1_isRange : GoodIn wsX1_negate (wsV RX1 48 RX1 yX1_isRange wsX1_isRange) := goodIn_app (goodIn_of _ (by decide +kernel)) ggX1_negate_X1_isRange
set_option maxRecDepth 20000 in
theorem ggX1_negate_X1_tell : GoodIn wsX1_negate wsX1_tell := goodIn_r _ [20, 21, 22, 23, 24, 4, 25, 26, 27, 10, 11, 12, 13, 14, 15, 16, 28, 29, 30, 31, 32, 33, 34, 35, 36, 37, 38, 39, 40, 41, 42] (by decide +kernel) (by decide +kernel)
set_option maxRecDepth 20000 in
theorem gX1_negate_X1_tell : GoodIn wsX1_negate (wsV RX1 52 RX1 yX1_tell wsX1_tell) := goodIn_app (goodIn_of _ (by decide +kernel)) ggX1_negate_X1_tell
theorem dX1_negate_0 : decode cX1_negate 0 = .ok (.aload_n 0, 1) := by decide +kernel
theorem dX1_negate_1 : decode cX1_negate 1 = .ok (.iload_n 1, 1) := by decide +kernel
theorem dX1_negate_2 : decode cX1_negate 2 = .ok (.iload_n 2, 1) := by decide +kernel
theorem dX1_negate_3 : decode cX1_negate 3 = .ok (.invokevirtual 48, 3) := by decide +kernel
theorem dX1_negate_6 : decode cX1_negate 6 = .ok (.ifCond .ne 5, 3) := by decide +kernel
theorem dX1_negate_9 : decode cX1_negate 9 = .ok (.iconst 0, 1) := by decide +kernel
theorem dX1_negate_10 : decode cX1_negate 10 = .ok (.ireturn, 1) := by decide +kernel
theorem dX1_negate_11 : decode cX1_negate 11 = .ok (.aload_n 0, 1) := by decide +kernel
theorem dX1_negate_12 : decode cX1_negate 12 = .ok (.iload_n 2, 1) := by decide +kernel
theorem dX1_negate_13 : decode cX1_negate 13 = .ok (.i2l, 1) := by decide +kernel
theorem dX1_negate_14 : decode cX1_negate 14 = .ok (.lneg, 1) := by decide +kernel
theorem dX1_negate_15 : decode cX1_negate 15 = .ok (.iload_n 1, 1) := by decide +kernel
theorem dX1_negate_16 : decode cX1_negate 16 = .ok (.i2l, 1) := by decide +kernel
theorem dX1_negate_17 : decode cX1_negate 17 = .ok (.lneg, 1) := by decide +kernel
theorem dX1_negate_18 : decode cX1_negate 18 = .ok (.invokevirtual 52, 3) := by decide +kernel
theorem dX1_negate_21 : decode cX1_negate 21 = .ok (.iconst 1, 1) := by decide +kernel
theorem dX1_negate_22 : decode cX1_negate 22 = .ok (.ireturn, 1) := by decide +kernel
theorem dX1_low_0 : decode cX1_low 0 = .ok (.aload_n 0, 1) := by decide +kernel
theorem dX1_low_1 : decode cX1_low 1 = .ok (.getfield 29, 3) := by decide +kernel
theorem dX1_low_4 : decode cX1_low 4 = .ok (.ireturn, 1) := by decide +kernel
theorem dX1_high_0 : decode cX1_high 0 = .ok (.aload_n 0, 1) := by decide +kernel
theorem dX1_high_1 : decode cX1_high 1 = .ok (.getfield 32, 3) := by decide +kernel
theorem dX1_high_4 : decode cX1_high 4 = .ok (.ireturn, 1) := by decide +kernel
set_option maxRecDepth 20000 in
theorem ggX1_addThreshold_X1_isThreshold : GoodIn wsX1_addThreshold wsX1_isThreshold := goodIn_r _ [7, 8, 9, 10, 6, 11, 12, 1, 2, 13, 14, 15, 16, 17, 18] (by decide +kernel) (by decide +kernel)
set_option maxRecDepth 20000 in
theorem gX1_addThreshold_X1_isThreshold : GoodIn wsX1_addThreshold (wsV RX1 79 RX1 yX1_isThreshold wsX1_isThreshold) := goodIn_app (goodIn_of _ (by decide +kernel)) ggX1_addThreshold_X1_isThreshold
theorem dX1_addThreshold_0 : decode cX1_addThreshold 0 = .ok (.aload_n 0, 1) := by decide +kernel
theorem dX1_addThreshold_1 : decode cX1_addThreshold 1 = .ok (.iload_n 1, 1) := by decide +kernel
theorem dX1_addThreshold_2 : decode cX1_addThreshold 2 = .ok (.invokevirtual 79, 3) := by decide +kernel
theorem dX1_addThreshold_5 : decode cX1_addThreshold 5 = .ok (.ifCond .ne 35, 3) := by decide +kernel
theorem dX1_addThreshold_8 : decode cX1_addThreshold 8 = .ok (.aload_n 0, 1) := by decide +kernel
theorem dX1_addThreshold_9 : decode cX1_addThreshold 9 = .ok (.getfield 22, 3) := by decide +kernel
theorem dX1_addThreshold_12 : decode cX1_addThreshold 12 = .ok (.aload_n 0, 1) := by decide +kernel
theorem dX1_addThreshold_13 : decode cX1_addThreshold 13 = .ok (.getfield 13, 3) := by decide +kernel
theorem dX1_addThreshold_16 : decode cX1_addThreshold 16 = .ok (.arraylength, 1) := by decide +kernel
theorem dX1_addThreshold_17 : decode cX1_addThreshold 17 = .ok (.if_icmp .ge 23, 3) := by decide +kernel
theorem dX1_addThreshold_20 : decode cX1_addThreshold 20 = .ok (.aload_n 0, 1) := by decide +kernel
theorem dX1_addThreshold_21 : decode cX1_addThreshold 21 = .ok (.getfield 13, 3) := by decide +kernel
theorem dX1_addThreshold_24 : decode cX1_addThreshold 24 = .ok (.aload_n 0, 1) := by decide +kernel
theorem dX1_addThreshold_25 : decode cX1_addThreshold 25 = .ok (.getfield 22, 3) := by decide +kernel
theorem dX1_addThreshold_28 : decode cX1_addThreshold 28 = .ok (.iload_n 1, 1) := by decide +kernel
theorem dX1_addThreshold_29 : decode cX1_addThreshold 29 = .ok (.iastore, 1) := by decide +kernel
theorem dX1_addThreshold_30 : decode cX1_addThreshold 30 = .ok (.aload_n 0, 1) := by decide +kernel
theorem dX1_addThreshold_31 : decode cX1_addThreshold 31 = .ok (.dup, 1) := by decide +kernel
theorem dX1_addThreshold_32 : decode cX1_addThreshold 32 = .ok (.getfield 22, 3) := by decide +kernel
theorem dX1_addThreshold_35 : decode cX1_addThreshold 35 = .ok (.iconst 1, 1) := by decide +kernel
theorem dX1_addThreshold_36 : decode cX1_addThreshold 36 = .ok (.iadd, 1) := by decide +kernel
theorem dX1_addThreshold_37 : decode cX1_addThreshold 37 = .ok (.putfield 22, 3) := by decide +kernel
theorem dX1_addThreshold_40 : decode cX1_addThreshold 40 = .ok (.return_, 1) := by decide +kernel
set_option maxRecDepth 20000 in
theorem ggX1_isThreshold_X1_down : GoodIn wsX1_isThreshold wsX1_down := goodIn_r _ [5, 6, 7, 8, 9, 10, 11, 12, 13, 14] (by decide +kernel) (by decide +kernel)
set_option maxRecDepth 20000 in
theorem gX1_isThreshold_X1_down : GoodIn wsX1_isThreshold (wsV RX1 83 RX1 yX1_down wsX1_down) := goodIn_app (goodIn_of _ (by decide +kernel)) ggX1_isThreshold_X1_down
theorem dX1_isThreshold_0 : decode cX1_isThreshold 0 = .ok (.aload_n 0, 1) := by decide +kernel
theorem dX1_isThreshold_1 : decode cX1_isThreshold 1 = .ok (.iload_n 1, 1) := by decide +kernel
theorem dX1_isThreshold_2 : decode cX1_isThreshold 2 = .ok (.invokevirtual 83, 3) := by decide +kernel
theorem dX1_isThreshold_5 : decode cX1_isThreshold 5 = .ok (.iload_n 1, 1) := by decide +kernel
theorem dX1_isThreshold_6 : decode cX1_isThreshold 6 = .ok (.if_icmp .ne 7, 3) := by decide +kernel
theorem dX1_isThreshold_9 : decode cX1_isThreshold 9 = .ok (.iconst 1, 1) := by decide +kernel
theorem dX1_isThreshold_10 : decode cX1_isThreshold 10 = .ok (.goto 4, 3) := by decide +kernel
theorem dX1_isThreshold_13 : decode cX1_isThreshold 13 = .ok (.iconst 0, 1) := by decide +kernel
theorem dX1_isThreshold_14 : decode cX1_isThreshold 14 = .ok (.ireturn, 1) := by decide +kernel
set_option maxRecDepth 20000 in
theorem ggX1_isRange_X1_isThreshold : GoodIn wsX1_isRange wsX1_isThreshold := goodIn_r _ [5, 6, 7, 8, 4, 9, 10, 11, 12, 13, 14, 15, 16, 17, 18] (by decide +kernel) (by decide +kernel)
set_option maxRecDepth 20000 in
theorem gX1_isRange_X1_isThreshold : GoodIn wsX1_isRange (wsV RX1 79 RX1 yX1_isThreshold wsX1_isThreshold) := goodIn_app (goodIn_of _ (by decide +kernel)) ggX1_isRange_X1_isThreshold
theorem dX1_isRange_0 : decode cX1_isRange 0 = .ok (.iload_n 1, 1) := by decide +kernel
theorem dX1_isRange_1 : decode cX1_isRange 1 = .ok (.iload_n 2, 1) := by decide +kernel
theorem dX1_isRange_2 : decode cX1_isRange 2 = .ok (.if_icmp .gt 23, 3) := by decide +kernel
theorem dX1_isRange_5 : decode cX1_isRange 5 = .ok (.aload_n 0, 1) := by decide +kernel
theorem dX1_isRange_6 : decode cX1_isRange 6 = .ok (.iload_n 1, 1) := by decide +kernel
theorem dX1_isRange_7 : decode cX1_isRange 7 = .ok (.invokevirtual 79, 3) := by decide +kernel
theorem dX1_isRange_10 : decode cX1_isRange 10 = .ok (.ifCond .eq 15, 3) := by decide +kernel
theorem dX1_isRange_13 : decode cX1_isRange 13 = .ok (.aload_n 0, 1) := by decide +kernel
theorem dX1_isRange_14 : decode cX1_isRange 14 = .ok (.iload_n 2, 1) := by decide +kernel
theorem dX1_isRange_15 : decode cX1_isRange 15 = .ok (.invokevirtual 79, 3) := by decide +kernel
theorem dX1_isRange_18 : decode cX1_isRange 18 = .ok (.ifCond .eq 7, 3) := by decide +kernel
theorem dX1_isRange_21 : decode cX1_isRange 21 = .ok (.iconst 1, 1) := by decide +kernel
theorem dX1_isRange_22 : decode cX1_isRange 22 = .ok (.goto 4, 3) := by decide +kernel
theorem dX1_isRange_25 : decode cX1_isRange 25 = .ok (.iconst 0, 1) := by decide +kernel
theorem dX1_isRange_26 : decode cX1_isRange 26 = .ok (.ireturn, 1) := by decide +kernel
set_option maxRecDepth 20000 in
theorem ggX1_tell_X1_isInt : GoodIn wsX1_tell wsX1_isInt := goodIn_r _ [6, 7, 8] (by decide +kernel) (by decide +kernel)
set_option maxRecDepth 20000 in
theorem gX1_tell_X1_isInt : GoodIn wsX1_tell (va_wsS RX1 87 yX1_isInt wsX1_isInt) := goodIn_app (goodIn_of _ (by decide +kernel)) ggX1_tell_X1_isInt
set_option maxRecDepth 20000 in
theorem ggX1_tell_X1_down : GoodIn wsX1_tell wsX1_down := goodIn_r _ [12, 13, 14, 15, 25, 26, 27, 28, 29, 30] (by decide +kernel) (by decide +kernel)
set_option maxRecDepth 20000 in
theorem gX1_tell_X1_down : GoodIn wsX1_tell (wsV RX1 83 RX1 yX1_down wsX1_down) := goodIn_app (goodIn_of _ (by decide +kernel)) ggX1_tell_X1_down
set_option maxRecDepth 20000 in
theorem ggX1_tell_X1_up : GoodIn wsX1_tell wsX1_up := goodIn_r _ [19, 20, 14, 15, 25, 26, 27, 28, 29, 30] (by decide +kernel) (by decide +kernel)
set_option maxRecDepth 20000 in
theorem gX1_tell_X1_up : GoodIn wsX1_tell (wsV RX1 91 RX1 yX1_up wsX1_up) := goodIn_app (goodIn_of _ (by decide +kernel)) ggX1_tell_X1_up
set_option maxRecDepth 20000 in
theorem ggX1_tell_X1_tellAllInts : GoodIn wsX1_tell wsX1_tellAllInts := goodIn_r _ [24, 13, 1, 20, 2, 25, 26, 27, 28, 29, 30] (by decide +kernel) (by decide +kernel)
set_option maxRecDepth 20000 in
theorem gX1_tell_X1_tellAllInts : GoodIn wsX1_tell (wsV RX1 94 RX1 yX1_tellAllInts wsX1_tellAllInts) := goodIn_app (goodIn_of _ (by decide +kernel)) ggX1_tell_X1_tellAllInts
theorem dX1_tell_0 : decode cX1_tell 0 = .ok (.lload_n 1, 1) := by decide +kernel
theorem dX1_tell_1 : decode cX1_tell 1 = .ok (.invokestatic 87, 3) := by decide +kernel
theorem dX1_tell_4 : decode cX1_tell 4 = .ok (.ifCond .eq 33, 3) := by decide +kernel
theorem dX1_tell_7 : decode cX1_tell 7 = .ok (.lload_n 3, 1) := by decide +kernel
theorem dX1_tell_8 : decode cX1_tell 8 = .ok (.invokestatic 87, 3) := by decide +kernel
theorem dX1_tell_11 : decode cX1_tell 11 = .ok (.ifCond .eq 26, 3) := by decide +kernel
theorem dX1_tell_14 : decode cX1_tell 14 = .ok (.aload_n 0, 1) := by decide +kernel
theorem dX1_tell_15 : decode cX1_tell 15 = .ok (.aload_n 0, 1) := by decide +kernel
theorem dX1_tell_16 : decode cX1_tell 16 = .ok (.lload_n 1, 1) := by decide +kernel
theorem dX1_tell_17 : decode cX1_tell 17 = .ok (.l2i, 1) := by decide +kernel
theorem dX1_tell_18 : decode cX1_tell 18 = .ok (.invokevirtual 83, 3) := by decide +kernel
theorem dX1_tell_21 : decode cX1_tell 21 = .ok (.putfield 29, 3) := by decide +kernel
theorem dX1_tell_24 : decode cX1_tell 24 = .ok (.aload_n 0, 1) := by decide +kernel
theorem dX1_tell_25 : decode cX1_tell 25 = .ok (.aload_n 0, 1) := by decide +kernel
theorem dX1_tell_26 : decode cX1_tell 26 = .ok (.lload_n 3, 1) := by decide +kernel
theorem dX1_tell_27 : decode cX1_tell 27 = .ok (.l2i, 1) := by decide +kernel
theorem dX1_tell_28 : decode cX1_tell 28 = .ok (.invokevirtual 91, 3) := by decide +kernel
theorem dX1_tell_31 : decode cX1_tell 31 = .ok (.putfield 32, 3) := by decide +kernel
theorem dX1_tell_34 : decode cX1_tell 34 = .ok (.goto 7, 3) := by decide +kernel
theorem dX1_tell_37 : decode cX1_tell 37 = .ok (.aload_n 0, 1) := by decide +kernel
theorem dX1_tell_38 : decode cX1_tell 38 = .ok (.invokevirtual 94, 3) := by decide +kernel
theorem dX1_tell_41 : decode cX1_tell 41 = .ok (.return_, 1) := by decide +kernel
theorem dX1_tellAllInts_0 : decode cX1_tellAllInts 0 = .ok (.aload_n 0, 1) := by decide +kernel
theorem dX1_tellAllInts_1 : decode cX1_tellAllInts 1 = .ok (.ldc 42, 2) := by decide +kernel
theorem dX1_tellAllInts_3 : decode cX1_tellAllInts 3 = .ok (.putfield 29, 3) := by decide +kernel
theorem dX1_tellAllInts_6 : decode cX1_tellAllInts 6 = .ok (.aload_n 0, 1) := by decide +kernel
theorem dX1_tellAllInts_7 : decode cX1_tellAllInts 7 = .ok (.ldc 47, 2) := by decide +kernel
theorem dX1_tellAllInts_9 : decode cX1_tellAllInts 9 = .ok (.putfield 32, 3) := by decide +kernel
theorem dX1_tellAllInts_12 : decode cX1_tellAllInts 12 = .ok (.return_, 1) := by decide +kernel
theorem dX1_isInt_0 : decode cX1_isInt 0 = .ok (.lload_n 0, 1) := by decide +kernel
theorem dX1_isInt_1 : decode cX1_isInt 1 = .ok (.ldc2_w 97, 3) := by decide +kernel
theorem dX1_isInt_4 : decode cX1_isInt 4 = .ok (.lcmp, 1) := by decide +kernel
theorem dX1_isInt_5 : decode cX1_isInt 5 = .ok (.ifCond .lt 15, 3) := by decide +kernel
theorem dX1_isInt_8 : decode cX1_isInt 8 = .ok (.lload_n 0, 1) := by decide +kernel
theorem dX1_isInt_9 : decode cX1_isInt 9 = .ok (.ldc2_w 99, 3) := by decide +kernel
theorem dX1_isInt_12 : decode cX1_isInt 12 = .ok (.lcmp, 1) := by decide +kernel
theorem dX1_isInt_13 : decode cX1_isInt 13 = .ok (.ifCond .gt 7, 3) := by decide +kernel
theorem dX1_isInt_16 : decode cX1_isInt 16 = .ok (.iconst 1, 1) := by decide +kernel
theorem dX1_isInt_17 : decode cX1_isInt 17 = .ok (.goto 4, 3) := by decide +kernel
theorem dX1_isInt_20 : decode cX1_isInt 20 = .ok (.iconst 0, 1) := by decide +kernel
theorem dX1_isInt_21 : decode cX1_isInt 21 = .ok (.ireturn, 1) := by decide +kernel
set_option maxRecDepth 20000 in
theorem ggX1_multiply_X0_empty : GoodIn wsX1_multiply wsX0_empty := goodIn_r _ [5, 6, 7, 8, 9, 54, 55] (by decide +kernel) (by decide +kernel)
set_option maxRecDepth 20000 in
theorem gX1_multiply_X0_empty_n101 : GoodIn wsX1_multiply (wsX0_empty) := ggX1_multiply_X0_empty
set_option maxRecDepth 20000 in
theorem ggX1_multiply_X0_take : GoodIn wsX1_multiply wsX0_take := goodIn_r _ [12, 7, 13, 14, 15, 16, 9, 17, 18, 19, 54, 55] (by decide +kernel) (by decide +kernel)
set_option maxRecDepth 20000 in
theorem gX1_multiply_X0_take_n104 : GoodIn wsX1_multiply (wsX0_take) := ggX1_multiply_X0_take
set_option maxRecDepth 20000 in
theorem ggX1_multiply_X1_tell : GoodIn wsX1_multiply wsX1_tell := goodIn_r _ [24, 25, 26, 27, 28, 23, 29, 30, 31, 32, 33, 34, 35, 36, 37, 38, 39, 40, 41, 42, 43, 44, 45, 46, 47, 48, 49, 50, 51, 52, 53] (by decide +kernel) (by decide +kernel)
set_option maxRecDepth 20000 in
theorem gX1_multiply_X1_tell : GoodIn wsX1_multiply (wsV RX1 52 RX1 yX1_tell wsX1_tell) := goodIn_app (goodIn_of _ (by decide +kernel)) ggX1_multiply_X1_tell
theorem dX1_multiply_0 : decode cX1_multiply 0 = .ok (.aload_n 0, 1) := by decide +kernel
theorem dX1_multiply_1 : decode cX1_multiply 1 = .ok (.getfield 38, 3) := by decide +kernel
theorem dX1_multiply_4 : decode cX1_multiply 4 = .ok (.invokevirtual 101, 3) := by decide +kernel
theorem dX1_multiply_7 : decode cX1_multiply 7 = .ok (.aload_n 0, 1) := by decide +kernel
theorem dX1_multiply_8 : decode cX1_multiply 8 = .ok (.getfield 38, 3) := by decide +kernel
theorem dX1_multiply_11 : decode cX1_multiply 11 = .ok (.lload_n 1, 1) := by decide +kernel
theorem dX1_multiply_12 : decode cX1_multiply 12 = .ok (.lload 5, 2) := by decide +kernel
theorem dX1_multiply_14 : decode cX1_multiply 14 = .ok (.lmul, 1) := by decide +kernel
theorem dX1_multiply_15 : decode cX1_multiply 15 = .ok (.invokevirtual 104, 3) := by decide +kernel
theorem dX1_multiply_18 : decode cX1_multiply 18 = .ok (.aload_n 0, 1) := by decide +kernel
theorem dX1_multiply_19 : decode cX1_multiply 19 = .ok (.getfield 38, 3) := by decide +kernel
theorem dX1_multiply_22 : decode cX1_multiply 22 = .ok (.lload_n 1, 1) := by decide +kernel
theorem dX1_multiply_23 : decode cX1_multiply 23 = .ok (.lload 7, 2) := by decide +kernel
theorem dX1_multiply_25 : decode cX1_multiply 25 = .ok (.lmul, 1) := by decide +kernel
theorem dX1_multiply_26 : decode cX1_multiply 26 = .ok (.invokevirtual 104, 3) := by decide +kernel
theorem dX1_multiply_29 : decode cX1_multiply 29 = .ok (.aload_n 0, 1) := by decide +kernel
theorem dX1_multiply_30 : decode cX1_multiply 30 = .ok (.getfield 38, 3) := by decide +kernel
theorem dX1_multiply_33 : decode cX1_multiply 33 = .ok (.lload_n 3, 1) := by decide +kernel
theorem dX1_multiply_34 : decode cX1_multiply 34 = .ok (.lload 5, 2) := by decide +kernel
theorem dX1_multiply_36 : decode cX1_multiply 36 = .ok (.lmul, 1) := by decide +kernel
theorem dX1_multiply_37 : decode cX1_multiply 37 = .ok (.invokevirtual 104, 3) := by decide +kernel
theorem dX1_multiply_40 : decode cX1_multiply 40 = .ok (.aload_n 0, 1) := by decide +kernel
theorem dX1_multiply_41 : decode cX1_multiply 41 = .ok (.getfield 38, 3) := by decide +kernel
theorem dX1_multiply_44 : decode cX1_multiply 44 = .ok (.lload_n 3, 1) := by decide +kernel
theorem dX1_multiply_45 : decode cX1_multiply 45 = .ok (.lload 7, 2) := by decide +kernel
theorem dX1_multiply_47 : decode cX1_multiply 47 = .ok (.lmul, 1) := by decide +kernel
theorem dX1_multiply_48 : decode cX1_multiply 48 = .ok (.invokevirtual 104, 3) := by decide +kernel
theorem dX1_multiply_51 : decode cX1_multiply 51 = .ok (.aload_n 0, 1) := by decide +kernel
theorem dX1_multiply_52 : decode cX1_multiply 52 = .ok (.aload_n 0, 1) := by decide +kernel
theorem dX1_multiply_53 : decode cX1_multiply 53 = .ok (.getfield 38, 3) := by decide +kernel
theorem dX1_multiply_56 : decode cX1_multiply 56 = .ok (.getfield 108, 3) := by decide +kernel
theorem dX1_multiply_59 : decode cX1_multiply 59 = .ok (.aload_n 0, 1) := by decide +kernel
theorem dX1_multiply_60 : decode cX1_multiply 60 = .ok (.getfield 38, 3) := by decide +kernel
theorem dX1_multiply_63 : decode cX1_multiply 63 = .ok (.getfield 112, 3) := by decide +kernel
theorem dX1_multiply_66 : decode cX1_multiply 66 = .ok (.invokevirtual 52, 3) := by decide +kernel
theorem dX1_multiply_69 : decode cX1_multiply 69 = .ok (.return_, 1) := by decide +kernel
set_option maxRecDepth 20000 in
theorem ggX1_divide_X0_empty : GoodIn wsX1_divide wsX0_empty := goodIn_r _ [6, 7, 8, 9, 10, 59, 60] (by decide +kernel) (by decide +kernel)
set_option maxRecDepth 20000 in
theorem gX1_divide_X0_empty_n101 : GoodIn wsX1_divide (wsX0_empty) := ggX1_divide_X0_empty
set_option maxRecDepth 20000 in
theorem ggX1_divide_X1_takeQuotients : GoodIn wsX1_divide wsX1_takeQuotients := goodIn_r _ [15, 1, 16, 4, 17, 18, 8, 19, 20, 21, 22, 10, 23, 24, 25, 53, 54, 55, 56, 57, 58, 59, 60] (by decide +kernel) (by decide +kernel)
set_option maxRecDepth 20000 in
theorem gX1_divide_X1_takeQuotients : GoodIn wsX1_divide (wsV RX1 115 RX1 yX1_takeQuotients wsX1_takeQuotients) := goodIn_app (goodIn_of _ (by decide +kernel)) ggX1_divide_X1_takeQuotients
set_option maxRecDepth 20000 in
theorem ggX1_divide_X1_tell : GoodIn wsX1_divide wsX1_tell := goodIn_r _ [29, 30, 31, 32, 33, 14, 34, 35, 36, 37, 38, 39, 40, 41, 42, 43, 44, 45, 46, 47, 48, 49, 50, 51, 52, 53, 54, 55, 56, 57, 58] (by decide +kernel) (by decide +kernel)
set_option maxRecDepth 20000 in
theorem gX1_divide_X1_tell : GoodIn wsX1_divide (wsV RX1 52 RX1 yX1_tell wsX1_tell) := goodIn_app (goodIn_of _ (by decide +kernel)) ggX1_divide_X1_tell
theorem dX1_divide_0 : decode cX1_divide 0 = .ok (.aload_n 0, 1) := by decide +kernel
theorem dX1_divide_1 : decode cX1_divide 1 = .ok (.getfield 38, 3) := by decide +kernel
theorem dX1_divide_4 : decode cX1_divide 4 = .ok (.invokevirtual 101, 3) := by decide +kernel
theorem dX1_divide_7 : decode cX1_divide 7 = .ok (.aload_n 0, 1) := by decide +kernel
theorem dX1_divide_8 : decode cX1_divide 8 = .ok (.lload_n 1, 1) := by decide +kernel
theorem dX1_divide_9 : decode cX1_divide 9 = .ok (.lload_n 3, 1) := by decide +kernel
theorem dX1_divide_10 : decode cX1_divide 10 = .ok (.lload 5, 2) := by decide +kernel
theorem dX1_divide_12 : decode cX1_divide 12 = .ok (.invokevirtual 115, 3) := by decide +kernel
theorem dX1_divide_15 : decode cX1_divide 15 = .ok (.aload_n 0, 1) := by decide +kernel
theorem dX1_divide_16 : decode cX1_divide 16 = .ok (.lload_n 1, 1) := by decide +kernel
theorem dX1_divide_17 : decode cX1_divide 17 = .ok (.lload_n 3, 1) := by decide +kernel
theorem dX1_divide_18 : decode cX1_divide 18 = .ok (.lload 7, 2) := by decide +kernel
theorem dX1_divide_20 : decode cX1_divide 20 = .ok (.invokevirtual 115, 3) := by decide +kernel
theorem dX1_divide_23 : decode cX1_divide 23 = .ok (.lload 5, 2) := by decide +kernel
theorem dX1_divide_25 : decode cX1_divide 25 = .ok (.ldc2_w 119, 3) := by decide +kernel
theorem dX1_divide_28 : decode cX1_divide 28 = .ok (.lcmp, 1) := by decide +kernel
theorem dX1_divide_29 : decode cX1_divide 29 = .ok (.ifCond .gt 21, 3) := by decide +kernel
theorem dX1_divide_32 : decode cX1_divide 32 = .ok (.lload 7, 2) := by decide +kernel
theorem dX1_divide_34 : decode cX1_divide 34 = .ok (.ldc2_w 119, 3) := by decide +kernel
theorem dX1_divide_37 : decode cX1_divide 37 = .ok (.lcmp, 1) := by decide +kernel
theorem dX1_divide_38 : decode cX1_divide 38 = .ok (.ifCond .lt 12, 3) := by decide +kernel
theorem dX1_divide_41 : decode cX1_divide 41 = .ok (.aload_n 0, 1) := by decide +kernel
theorem dX1_divide_42 : decode cX1_divide 42 = .ok (.lload_n 1, 1) := by decide +kernel
theorem dX1_divide_43 : decode cX1_divide 43 = .ok (.lload_n 3, 1) := by decide +kernel
theorem dX1_divide_44 : decode cX1_divide 44 = .ok (.ldc2_w 119, 3) := by decide +kernel
theorem dX1_divide_47 : decode cX1_divide 47 = .ok (.invokevirtual 115, 3) := by decide +kernel
theorem dX1_divide_50 : decode cX1_divide 50 = .ok (.lload 5, 2) := by decide +kernel
theorem dX1_divide_52 : decode cX1_divide 52 = .ok (.lconst 1, 1) := by decide +kernel
theorem dX1_divide_53 : decode cX1_divide 53 = .ok (.lcmp, 1) := by decide +kernel
theorem dX1_divide_54 : decode cX1_divide 54 = .ok (.ifCond .gt 17, 3) := by decide +kernel
theorem dX1_divide_57 : decode cX1_divide 57 = .ok (.lload 7, 2) := by decide +kernel
theorem dX1_divide_59 : decode cX1_divide 59 = .ok (.lconst 1, 1) := by decide +kernel
theorem dX1_divide_60 : decode cX1_divide 60 = .ok (.lcmp, 1) := by decide +kernel
theorem dX1_divide_61 : decode cX1_divide 61 = .ok (.ifCond .lt 10, 3) := by decide +kernel
theorem dX1_divide_64 : decode cX1_divide 64 = .ok (.aload_n 0, 1) := by decide +kernel
theorem dX1_divide_65 : decode cX1_divide 65 = .ok (.lload_n 1, 1) := by decide +kernel
theorem dX1_divide_66 : decode cX1_divide 66 = .ok (.lload_n 3, 1) := by decide +kernel
theorem dX1_divide_67 : decode cX1_divide 67 = .ok (.lconst 1, 1) := by decide +kernel
theorem dX1_divide_68 : decode cX1_divide 68 = .ok (.invokevirtual 115, 3) := by decide +kernel
theorem dX1_divide_71 : decode cX1_divide 71 = .ok (.aload_n 0, 1) := by decide +kernel
theorem dX1_divide_72 : decode cX1_divide 72 = .ok (.aload_n 0, 1) := by decide +kernel
theorem dX1_divide_73 : decode cX1_divide 73 = .ok (.getfield 38, 3) := by decide +kernel
theorem dX1_divide_76 : decode cX1_divide 76 = .ok (.getfield 108, 3) := by decide +kernel
theorem dX1_divide_79 : decode cX1_divide 79 = .ok (.aload_n 0, 1) := by decide +kernel
theorem dX1_divide_80 : decode cX1_divide 80 = .ok (.getfield 38, 3) := by decide +kernel
theorem dX1_divide_83 : decode cX1_divide 83 = .ok (.getfield 112, 3) := by decide +kernel
theorem dX1_divide_86 : decode cX1_divide 86 = .ok (.invokevirtual 52, 3) := by decide +kernel
theorem dX1_divide_89 : decode cX1_divide 89 = .ok (.return_, 1) := by decide +kernel
set_option maxRecDepth 20000 in
theorem ggX1_takeQuotients_X0_take : GoodIn wsX1_takeQuotients wsX0_take := goodIn_r _ [5, 6, 7, 8, 9, 10, 11, 12, 13, 14, 21, 22] (by decide +kernel) (by decide +kernel)
set_option maxRecDepth 20000 in
theorem gX1_takeQuotients_X0_take_n104 : GoodIn wsX1_takeQuotients (wsX0_take) := ggX1_takeQuotients_X0_take
theorem dX1_takeQuotients_0 : decode cX1_takeQuotients 0 = .ok (.lload 5, 2) := by decide +kernel
theorem dX1_takeQuotients_2 : decode cX1_takeQuotients 2 = .ok (.lconst 0, 1) := by decide +kernel
theorem dX1_takeQuotients_3 : decode cX1_takeQuotients 3 = .ok (.lcmp, 1) := by decide +kernel
theorem dX1_takeQuotients_4 : decode cX1_takeQuotients 4 = .ok (.ifCond .eq 25, 3) := by decide +kernel
theorem dX1_takeQuotients_7 : decode cX1_takeQuotients 7 = .ok (.aload_n 0, 1) := by decide +kernel
theorem dX1_takeQuotients_8 : decode cX1_takeQuotients 8 = .ok (.getfield 38, 3) := by decide +kernel
theorem dX1_takeQuotients_11 : decode cX1_takeQuotients 11 = .ok (.lload_n 1, 1) := by decide +kernel
theorem dX1_takeQuotients_12 : decode cX1_takeQuotients 12 = .ok (.lload 5, 2) := by decide +kernel
theorem dX1_takeQuotients_14 : decode cX1_takeQuotients 14 = .ok (.ldiv, 1) := by decide +kernel
theorem dX1_takeQuotients_15 : decode cX1_takeQuotients 15 = .ok (.invokevirtual 104, 3) := by decide +kernel
theorem dX1_takeQuotients_18 : decode cX1_takeQuotients 18 = .ok (.aload_n 0, 1) := by decide +kernel
theorem dX1_takeQuotients_19 : decode cX1_takeQuotients 19 = .ok (.getfield 38, 3) := by decide +kernel
theorem dX1_takeQuotients_22 : decode cX1_takeQuotients 22 = .ok (.lload_n 3, 1) := by decide +kernel
theorem dX1_takeQuotients_23 : decode cX1_takeQuotients 23 = .ok (.lload 5, 2) := by decide +kernel
theorem dX1_takeQuotients_25 : decode cX1_takeQuotients 25 = .ok (.ldiv, 1) := by decide +kernel
theorem dX1_takeQuotients_26 : decode cX1_takeQuotients 26 = .ok (.invokevirtual 104, 3) := by decide +kernel
theorem dX1_takeQuotients_29 : decode cX1_takeQuotients 29 = .ok (.return_, 1) := by decide +kernel
set_option maxRecDepth 20000 in
theorem ggX1_rest_X1_tell : GoodIn wsX1_rest wsX1_tell := goodIn_r _ [15, 16, 17, 18, 19, 14, 20, 21, 22, 23, 24, 25, 26, 27, 28, 29, 30, 31, 32, 33, 34, 35, 36, 37, 38, 39, 40, 41, 42, 43, 44] (by decide +kernel) (by decide +kernel)
set_option maxRecDepth 20000 in
theorem gX1_rest_X1_tell : GoodIn wsX1_rest (wsV RX1 52 RX1 yX1_tell wsX1_tell) := goodIn_app (goodIn_of _ (by decide +kernel)) ggX1_rest_X1_tell
theorem dX1_rest_0 : decode cX1_rest 0 = .ok (.lload 5, 2) := by decide +kernel
theorem dX1_rest_2 : decode cX1_rest 2 = .ok (.invokestatic 121, 3) := by decide +kernel
theorem dX1_rest_5 : decode cX1_rest 5 = .ok (.lload 7, 2) := by decide +kernel
theorem dX1_rest_7 : decode cX1_rest 7 = .ok (.invokestatic 121, 3) := by decide +kernel
theorem dX1_rest_10 : decode cX1_rest 10 = .ok (.invokestatic 127, 3) := by decide +kernel
theorem dX1_rest_13 : decode cX1_rest 13 = .ok (.lconst 1, 1) := by decide +kernel
theorem dX1_rest_14 : decode cX1_rest 14 = .ok (.lsub, 1) := by decide +kernel
theorem dX1_rest_15 : decode cX1_rest 15 = .ok (.lstore 9, 2) := by decide +kernel
theorem dX1_rest_17 : decode cX1_rest 17 = .ok (.lload_n 1, 1) := by decide +kernel
theorem dX1_rest_18 : decode cX1_rest 18 = .ok (.lconst 0, 1) := by decide +kernel
theorem dX1_rest_19 : decode cX1_rest 19 = .ok (.lcmp, 1) := by decide +kernel
theorem dX1_rest_20 : decode cX1_rest 20 = .ok (.ifCond .lt 17, 3) := by decide +kernel
theorem dX1_rest_23 : decode cX1_rest 23 = .ok (.aload_n 0, 1) := by decide +kernel
theorem dX1_rest_24 : decode cX1_rest 24 = .ok (.lconst 0, 1) := by decide +kernel
theorem dX1_rest_25 : decode cX1_rest 25 = .ok (.lload_n 3, 1) := by decide +kernel
theorem dX1_rest_26 : decode cX1_rest 26 = .ok (.lload 9, 2) := by decide +kernel
theorem dX1_rest_28 : decode cX1_rest 28 = .ok (.invokestatic 131, 3) := by decide +kernel
theorem dX1_rest_31 : decode cX1_rest 31 = .ok (.invokevirtual 52, 3) := by decide +kernel
theorem dX1_rest_34 : decode cX1_rest 34 = .ok (.goto 41, 3) := by decide +kernel
theorem dX1_rest_37 : decode cX1_rest 37 = .ok (.lload_n 3, 1) := by decide +kernel
theorem dX1_rest_38 : decode cX1_rest 38 = .ok (.lconst 0, 1) := by decide +kernel
theorem dX1_rest_39 : decode cX1_rest 39 = .ok (.lcmp, 1) := by decide +kernel
theorem dX1_rest_40 : decode cX1_rest 40 = .ok (.ifCond .gt 18, 3) := by decide +kernel
theorem dX1_rest_43 : decode cX1_rest 43 = .ok (.aload_n 0, 1) := by decide +kernel
theorem dX1_rest_44 : decode cX1_rest 44 = .ok (.lload_n 1, 1) := by decide +kernel
theorem dX1_rest_45 : decode cX1_rest 45 = .ok (.lload 9, 2) := by decide +kernel
theorem dX1_rest_47 : decode cX1_rest 47 = .ok (.lneg, 1) := by decide +kernel
theorem dX1_rest_48 : decode cX1_rest 48 = .ok (.invokestatic 127, 3) := by decide +kernel
theorem dX1_rest_51 : decode cX1_rest 51 = .ok (.lconst 0, 1) := by decide +kernel
theorem dX1_rest_52 : decode cX1_rest 52 = .ok (.invokevirtual 52, 3) := by decide +kernel
theorem dX1_rest_55 : decode cX1_rest 55 = .ok (.goto 20, 3) := by decide +kernel
theorem dX1_rest_58 : decode cX1_rest 58 = .ok (.aload_n 0, 1) := by decide +kernel
theorem dX1_rest_59 : decode cX1_rest 59 = .ok (.lload_n 1, 1) := by decide +kernel
theorem dX1_rest_60 : decode cX1_rest 60 = .ok (.lload 9, 2) := by decide +kernel
theorem dX1_rest_62 : decode cX1_rest 62 = .ok (.lneg, 1) := by decide +kernel
theorem dX1_rest_63 : decode cX1_rest 63 = .ok (.invokestatic 127, 3) := by decide +kernel
theorem dX1_rest_66 : decode cX1_rest 66 = .ok (.lload_n 3, 1) := by decide +kernel
theorem dX1_rest_67 : decode cX1_rest 67 = .ok (.lload 9, 2) := by decide +kernel
theorem dX1_rest_69 : decode cX1_rest 69 = .ok (.invokestatic 131, 3) := by decide +kernel
theorem dX1_rest_72 : decode cX1_rest 72 = .ok (.invokevirtual 52, 3) := by decide +kernel
theorem dX1_rest_75 : decode cX1_rest 75 = .ok (.return_, 1) := by decide +kernel
set_option maxRecDepth 20000 in
theorem ggX1_and_X1_tellAllInts : GoodIn wsX1_and wsX1_tellAllInts := goodIn_r _ [9, 10, 11, 12, 13, 33, 34, 35, 36, 37, 38] (by decide +kernel) (by decide +kernel)
set_option maxRecDepth 20000 in
theorem gX1_and_X1_tellAllInts : GoodIn wsX1_and (wsV RX1 94 RX1 yX1_tellAllInts wsX1_tellAllInts) := goodIn_app (goodIn_of _ (by decide +kernel)) ggX1_and_X1_tellAllInts
set_option maxRecDepth 20000 in
theorem ggX1_and_X1_tell : GoodIn wsX1_and wsX1_tell := goodIn_r _ [17, 11, 13, 18, 19, 8, 20, 21, 22, 23, 24, 25, 26, 10, 27, 28, 29, 30, 31, 32, 12, 5, 6, 7, 9, 33, 34, 35, 36, 37, 38] (by decide +kernel) (by decide +kernel)
set_option maxRecDepth 20000 in
theorem gX1_and_X1_tell : GoodIn wsX1_and (wsV RX1 52 RX1 yX1_tell wsX1_tell) := goodIn_app (goodIn_of _ (by decide +kernel)) ggX1_and_X1_tell
theorem dX1_and_0 : decode cX1_and 0 = .ok (.iload_n 1, 1) := by decide +kernel
theorem dX1_and_1 : decode cX1_and 1 = .ok (.ifCond .ge 14, 3) := by decide +kernel
theorem dX1_and_4 : decode cX1_and 4 = .ok (.iload_n 3, 1) := by decide +kernel
theorem dX1_and_5 : decode cX1_and 5 = .ok (.ifCond .ge 10, 3) := by decide +kernel
theorem dX1_and_8 : decode cX1_and 8 = .ok (.aload_n 0, 1) := by decide +kernel
theorem dX1_and_9 : decode cX1_and 9 = .ok (.invokevirtual 94, 3) := by decide +kernel
theorem dX1_and_12 : decode cX1_and 12 = .ok (.goto 44, 3) := by decide +kernel
theorem dX1_and_15 : decode cX1_and 15 = .ok (.iload_n 1, 1) := by decide +kernel
theorem dX1_and_16 : decode cX1_and 16 = .ok (.ifCond .ge 14, 3) := by decide +kernel
theorem dX1_and_19 : decode cX1_and 19 = .ok (.aload_n 0, 1) := by decide +kernel
theorem dX1_and_20 : decode cX1_and 20 = .ok (.lconst 0, 1) := by decide +kernel
theorem dX1_and_21 : decode cX1_and 21 = .ok (.iload 4, 2) := by decide +kernel
theorem dX1_and_23 : decode cX1_and 23 = .ok (.i2l, 1) := by decide +kernel
theorem dX1_and_24 : decode cX1_and 24 = .ok (.invokevirtual 52, 3) := by decide +kernel
theorem dX1_and_27 : decode cX1_and 27 = .ok (.goto 29, 3) := by decide +kernel
theorem dX1_and_30 : decode cX1_and 30 = .ok (.iload_n 3, 1) := by decide +kernel
theorem dX1_and_31 : decode cX1_and 31 = .ok (.ifCond .ge 13, 3) := by decide +kernel
theorem dX1_and_34 : decode cX1_and 34 = .ok (.aload_n 0, 1) := by decide +kernel
theorem dX1_and_35 : decode cX1_and 35 = .ok (.lconst 0, 1) := by decide +kernel
theorem dX1_and_36 : decode cX1_and 36 = .ok (.iload_n 2, 1) := by decide +kernel
theorem dX1_and_37 : decode cX1_and 37 = .ok (.i2l, 1) := by decide +kernel
theorem dX1_and_38 : decode cX1_and 38 = .ok (.invokevirtual 52, 3) := by decide +kernel
theorem dX1_and_41 : decode cX1_and 41 = .ok (.goto 15, 3) := by decide +kernel
theorem dX1_and_44 : decode cX1_and 44 = .ok (.aload_n 0, 1) := by decide +kernel
theorem dX1_and_45 : decode cX1_and 45 = .ok (.lconst 0, 1) := by decide +kernel
theorem dX1_and_46 : decode cX1_and 46 = .ok (.iload_n 2, 1) := by decide +kernel
theorem dX1_and_47 : decode cX1_and 47 = .ok (.iload 4, 2) := by decide +kernel
theorem dX1_and_49 : decode cX1_and 49 = .ok (.invokestatic 134, 3) := by decide +kernel
theorem dX1_and_52 : decode cX1_and 52 = .ok (.i2l, 1) := by decide +kernel
theorem dX1_and_53 : decode cX1_and 53 = .ok (.invokevirtual 52, 3) := by decide +kernel
theorem dX1_and_56 : decode cX1_and 56 = .ok (.return_, 1) := by decide +kernel
set_option maxRecDepth 20000 in
theorem ggX1_orOrXor_X1_tellAllInts : GoodIn wsX1_orOrXor wsX1_tellAllInts := goodIn_r _ [9, 10, 11, 12, 13, 36, 37, 38, 39, 40, 41] (by decide +kernel) (by decide +kernel)
set_option maxRecDepth 20000 in
theorem gX1_orOrXor_X1_tellAllInts : GoodIn wsX1_orOrXor (wsV RX1 94 RX1 yX1_tellAllInts wsX1_tellAllInts) := goodIn_app (goodIn_of _ (by decide +kernel)) ggX1_orOrXor_X1_tellAllInts
set_option maxRecDepth 20000 in
theorem ggX1_orOrXor_X1_onesNotBelow : GoodIn wsX1_orOrXor wsX1_onesNotBelow := goodIn_r _ [16] (by decide +kernel) (by decide +kernel)
set_option maxRecDepth 20000 in
theorem gX1_orOrXor_X1_onesNotBelow : GoodIn wsX1_orOrXor (va_wsS RX1 139 yX1_onesNotBelow wsX1_onesNotBelow) := goodIn_app (goodIn_of _ (by decide +kernel)) ggX1_orOrXor_X1_onesNotBelow
set_option maxRecDepth 20000 in
theorem ggX1_orOrXor_X1_tell : GoodIn wsX1_orOrXor wsX1_tell := goodIn_r _ [20, 11, 13, 21, 22, 8, 23, 24, 25, 26, 27, 28, 29, 10, 30, 31, 32, 33, 34, 35, 12, 5, 6, 7, 9, 36, 37, 38, 39, 40, 41] (by decide +kernel) (by decide +kernel)
set_option maxRecDepth 20000 in
theorem gX1_orOrXor_X1_tell : GoodIn wsX1_orOrXor (wsV RX1 52 RX1 yX1_tell wsX1_tell) := goodIn_app (goodIn_of _ (by decide +kernel)) ggX1_orOrXor_X1_tell
theorem dX1_orOrXor_0 : decode cX1_orOrXor 0 = .ok (.iload_n 1, 1) := by decide +kernel
theorem dX1_orOrXor_1 : decode cX1_orOrXor 1 = .ok (.ifCond .lt 7, 3) := by decide +kernel
theorem dX1_orOrXor_4 : decode cX1_orOrXor 4 = .ok (.iload_n 3, 1) := by decide +kernel
theorem dX1_orOrXor_5 : decode cX1_orOrXor 5 = .ok (.ifCond .ge 10, 3) := by decide +kernel
theorem dX1_orOrXor_8 : decode cX1_orOrXor 8 = .ok (.aload_n 0, 1) := by decide +kernel
theorem dX1_orOrXor_9 : decode cX1_orOrXor 9 = .ok (.invokevirtual 94, 3) := by decide +kernel
theorem dX1_orOrXor_12 : decode cX1_orOrXor 12 = .ok (.goto 18, 3) := by decide +kernel
theorem dX1_orOrXor_15 : decode cX1_orOrXor 15 = .ok (.aload_n 0, 1) := by decide +kernel
theorem dX1_orOrXor_16 : decode cX1_orOrXor 16 = .ok (.lconst 0, 1) := by decide +kernel
theorem dX1_orOrXor_17 : decode cX1_orOrXor 17 = .ok (.iload_n 2, 1) := by decide +kernel
theorem dX1_orOrXor_18 : decode cX1_orOrXor 18 = .ok (.iload 4, 2) := by decide +kernel
theorem dX1_orOrXor_20 : decode cX1_orOrXor 20 = .ok (.invokestatic 137, 3) := by decide +kernel
theorem dX1_orOrXor_23 : decode cX1_orOrXor 23 = .ok (.invokestatic 139, 3) := by decide +kernel
theorem dX1_orOrXor_26 : decode cX1_orOrXor 26 = .ok (.i2l, 1) := by decide +kernel
theorem dX1_orOrXor_27 : decode cX1_orOrXor 27 = .ok (.invokevirtual 52, 3) := by decide +kernel
theorem dX1_orOrXor_30 : decode cX1_orOrXor 30 = .ok (.return_, 1) := by decide +kernel
theorem dX1_onesNotBelow_0 : decode cX1_onesNotBelow 0 = .ok (.iconst 0, 1) := by decide +kernel
theorem dX1_onesNotBelow_1 : decode cX1_onesNotBelow 1 = .ok (.istore_n 1, 1) := by decide +kernel
theorem dX1_onesNotBelow_2 : decode cX1_onesNotBelow 2 = .ok (.iconst 0, 1) := by decide +kernel
theorem dX1_onesNotBelow_3 : decode cX1_onesNotBelow 3 = .ok (.istore_n 2, 1) := by decide +kernel
theorem dX1_onesNotBelow_4 : decode cX1_onesNotBelow 4 = .ok (.iload_n 2, 1) := by decide +kernel
theorem dX1_onesNotBelow_5 : decode cX1_onesNotBelow 5 = .ok (.bipush 31, 2) := by decide +kernel
theorem dX1_onesNotBelow_7 : decode cX1_onesNotBelow 7 = .ok (.if_icmp .ge 20, 3) := by decide +kernel
theorem dX1_onesNotBelow_10 : decode cX1_onesNotBelow 10 = .ok (.iload_n 1, 1) := by decide +kernel
theorem dX1_onesNotBelow_11 : decode cX1_onesNotBelow 11 = .ok (.iload_n 0, 1) := by decide +kernel
theorem dX1_onesNotBelow_12 : decode cX1_onesNotBelow 12 = .ok (.if_icmp .ge 15, 3) := by decide +kernel
theorem dX1_onesNotBelow_15 : decode cX1_onesNotBelow 15 = .ok (.iconst 2, 1) := by decide +kernel
theorem dX1_onesNotBelow_16 : decode cX1_onesNotBelow 16 = .ok (.iload_n 1, 1) := by decide +kernel
theorem dX1_onesNotBelow_17 : decode cX1_onesNotBelow 17 = .ok (.imul, 1) := by decide +kernel
theorem dX1_onesNotBelow_18 : decode cX1_onesNotBelow 18 = .ok (.iconst 1, 1) := by decide +kernel
theorem dX1_onesNotBelow_19 : decode cX1_onesNotBelow 19 = .ok (.iadd, 1) := by decide +kernel
theorem dX1_onesNotBelow_20 : decode cX1_onesNotBelow 20 = .ok (.istore_n 1, 1) := by decide +kernel
theorem dX1_onesNotBelow_21 : decode cX1_onesNotBelow 21 = .ok (.iinc 2 1, 3) := by decide +kernel
theorem dX1_onesNotBelow_24 : decode cX1_onesNotBelow 24 = .ok (.goto (-20), 3) := by decide +kernel
theorem dX1_onesNotBelow_27 : decode cX1_onesNotBelow 27 = .ok (.iload_n 1, 1) := by decide +kernel
theorem dX1_onesNotBelow_28 : decode cX1_onesNotBelow 28 = .ok (.ireturn, 1) := by decide +kernel
set_option maxRecDepth 20000 in
theorem ggX1_shiftLeft_X1_multiply : GoodIn wsX1_shiftLeft wsX1_multiply := goodIn_r _ [5, 6, 7, 8, 9, 10, 11, 12, 13, 14, 15, 16, 17, 18, 19, 20, 21, 22, 23, 24, 25, 26, 27, 4, 28, 29, 30, 31, 32, 33, 34, 35, 36, 37, 38, 39, 40, 41, 42, 43, 44, 45, 46, 47, 48, 49, 50, 51, 52, 53, 54, 55, 56, 57, 58, 59] (by decide +kernel) (by decide +kernel)
set_option maxRecDepth 20000 in
theorem gX1_shiftLeft_X1_multiply : GoodIn wsX1_shiftLeft (wsV RX1 56 RX1 yX1_multiply wsX1_multiply) := goodIn_app (goodIn_of _ (by decide +kernel)) ggX1_shiftLeft_X1_multiply
set_option maxRecDepth 20000 in
theorem ggX1_shiftLeft_X1_tellAllInts : GoodIn wsX1_shiftLeft wsX1_tellAllInts := goodIn_r _ [51, 40, 29, 47, 30, 52, 53, 54, 55, 56, 57] (by decide +kernel) (by decide +kernel)
set_option maxRecDepth 20000 in
theorem gX1_shiftLeft_X1_tellAllInts : GoodIn wsX1_shiftLeft (wsV RX1 94 RX1 yX1_tellAllInts wsX1_tellAllInts) := goodIn_app (goodIn_of _ (by decide +kernel)) ggX1_shiftLeft_X1_tellAllInts
theorem dX1_shiftLeft_0 : decode cX1_shiftLeft 0 = .ok (.iload_n 3, 1) := by decide +kernel
theorem dX1_shiftLeft_1 : decode cX1_shiftLeft 1 = .ok (.iload 4, 2) := by decide +kernel
theorem dX1_shiftLeft_3 : decode cX1_shiftLeft 3 = .ok (.if_icmp .ne 26, 3) := by decide +kernel
theorem dX1_shiftLeft_6 : decode cX1_shiftLeft 6 = .ok (.lconst 1, 1) := by decide +kernel
theorem dX1_shiftLeft_7 : decode cX1_shiftLeft 7 = .ok (.iload_n 3, 1) := by decide +kernel
theorem dX1_shiftLeft_8 : decode cX1_shiftLeft 8 = .ok (.bipush 31, 2) := by decide +kernel
theorem dX1_shiftLeft_10 : decode cX1_shiftLeft 10 = .ok (.iand, 1) := by decide +kernel
theorem dX1_shiftLeft_11 : decode cX1_shiftLeft 11 = .ok (.lshl, 1) := by decide +kernel
theorem dX1_shiftLeft_12 : decode cX1_shiftLeft 12 = .ok (.lstore 5, 2) := by decide +kernel
theorem dX1_shiftLeft_14 : decode cX1_shiftLeft 14 = .ok (.aload_n 0, 1) := by decide +kernel
theorem dX1_shiftLeft_15 : decode cX1_shiftLeft 15 = .ok (.iload_n 1, 1) := by decide +kernel
theorem dX1_shiftLeft_16 : decode cX1_shiftLeft 16 = .ok (.i2l, 1) := by decide +kernel
theorem dX1_shiftLeft_17 : decode cX1_shiftLeft 17 = .ok (.iload_n 2, 1) := by decide +kernel
theorem dX1_shiftLeft_18 : decode cX1_shiftLeft 18 = .ok (.i2l, 1) := by decide +kernel
theorem dX1_shiftLeft_19 : decode cX1_shiftLeft 19 = .ok (.lload 5, 2) := by decide +kernel
theorem dX1_shiftLeft_21 : decode cX1_shiftLeft 21 = .ok (.lload 5, 2) := by decide +kernel
theorem dX1_shiftLeft_23 : decode cX1_shiftLeft 23 = .ok (.invokevirtual 56, 3) := by decide +kernel
theorem dX1_shiftLeft_26 : decode cX1_shiftLeft 26 = .ok (.goto 7, 3) := by decide +kernel
theorem dX1_shiftLeft_29 : decode cX1_shiftLeft 29 = .ok (.aload_n 0, 1) := by decide +kernel
theorem dX1_shiftLeft_30 : decode cX1_shiftLeft 30 = .ok (.invokevirtual 94, 3) := by decide +kernel
theorem dX1_shiftLeft_33 : decode cX1_shiftLeft 33 = .ok (.return_, 1) := by decide +kernel
set_option maxRecDepth 20000 in
theorem ggX1_shiftRight_X1_tell : GoodIn wsX1_shiftRight wsX1_tell := goodIn_r _ [12, 13, 14, 15, 16, 11, 17, 18, 19, 20, 21, 22, 23, 24, 25, 26, 27, 28, 29, 30, 31, 32, 33, 34, 35, 36, 37, 38, 39, 40, 41] (by decide +kernel) (by decide +kernel)
set_option maxRecDepth 20000 in
theorem gX1_shiftRight_X1_tell : GoodIn wsX1_shiftRight (wsV RX1 52 RX1 yX1_tell wsX1_tell) := goodIn_app (goodIn_of _ (by decide +kernel)) ggX1_shiftRight_X1_tell
theorem dX1_shiftRight_0 : decode cX1_shiftRight 0 = .ok (.iload_n 3, 1) := by decide +kernel
theorem dX1_shiftRight_1 : decode cX1_shiftRight 1 = .ok (.iload 4, 2) := by decide +kernel
theorem dX1_shiftRight_3 : decode cX1_shiftRight 3 = .ok (.if_icmp .ne 24, 3) := by decide +kernel
theorem dX1_shiftRight_6 : decode cX1_shiftRight 6 = .ok (.aload_n 0, 1) := by decide +kernel
theorem dX1_shiftRight_7 : decode cX1_shiftRight 7 = .ok (.iload_n 1, 1) := by decide +kernel
theorem dX1_shiftRight_8 : decode cX1_shiftRight 8 = .ok (.iload_n 3, 1) := by decide +kernel
theorem dX1_shiftRight_9 : decode cX1_shiftRight 9 = .ok (.bipush 31, 2) := by decide +kernel
theorem dX1_shiftRight_11 : decode cX1_shiftRight 11 = .ok (.iand, 1) := by decide +kernel
theorem dX1_shiftRight_12 : decode cX1_shiftRight 12 = .ok (.ishr, 1) := by decide +kernel
theorem dX1_shiftRight_13 : decode cX1_shiftRight 13 = .ok (.i2l, 1) := by decide +kernel
theorem dX1_shiftRight_14 : decode cX1_shiftRight 14 = .ok (.iload_n 2, 1) := by decide +kernel
theorem dX1_shiftRight_15 : decode cX1_shiftRight 15 = .ok (.iload_n 3, 1) := by decide +kernel
theorem dX1_shiftRight_16 : decode cX1_shiftRight 16 = .ok (.bipush 31, 2) := by decide +kernel
theorem dX1_shiftRight_18 : decode cX1_shiftRight 18 = .ok (.iand, 1) := by decide +kernel
theorem dX1_shiftRight_19 : decode cX1_shiftRight 19 = .ok (.ishr, 1) := by decide +kernel
theorem dX1_shiftRight_20 : decode cX1_shiftRight 20 = .ok (.i2l, 1) := by decide +kernel
theorem dX1_shiftRight_21 : decode cX1_shiftRight 21 = .ok (.invokevirtual 52, 3) := by decide +kernel
theorem dX1_shiftRight_24 : decode cX1_shiftRight 24 = .ok (.goto 19, 3) := by decide +kernel
theorem dX1_shiftRight_27 : decode cX1_shiftRight 27 = .ok (.aload_n 0, 1) := by decide +kernel
theorem dX1_shiftRight_28 : decode cX1_shiftRight 28 = .ok (.iload_n 1, 1) := by decide +kernel
theorem dX1_shiftRight_29 : decode cX1_shiftRight 29 = .ok (.iconst 0, 1) := by decide +kernel
theorem dX1_shiftRight_30 : decode cX1_shiftRight 30 = .ok (.invokestatic 134, 3) := by decide +kernel
theorem dX1_shiftRight_33 : decode cX1_shiftRight 33 = .ok (.i2l, 1) := by decide +kernel
theorem dX1_shiftRight_34 : decode cX1_shiftRight 34 = .ok (.iload_n 2, 1) := by decide +kernel
theorem dX1_shiftRight_35 : decode cX1_shiftRight 35 = .ok (.iconst (-1), 1) := by decide +kernel
theorem dX1_shiftRight_36 : decode cX1_shiftRight 36 = .ok (.invokestatic 137, 3) := by decide +kernel
theorem dX1_shiftRight_39 : decode cX1_shiftRight 39 = .ok (.i2l, 1) := by decide +kernel
theorem dX1_shiftRight_40 : decode cX1_shiftRight 40 = .ok (.invokevirtual 52, 3) := by decide +kernel
theorem dX1_shiftRight_43 : decode cX1_shiftRight 43 = .ok (.return_, 1) := by decide +kernel
end
section
set_option maxRecDepth 20000 in
theorem ggX2_init_X2_clear : GoodIn wsX2_init wsX2_clear := goodIn_r _ [10, 11, 12, 13, 14, 15, 16, 17, 18, 19, 9, 20, 5, 21, 22, 23, 24, 25] (by decide +kernel) (by decide +kernel)
set_option maxRecDepth 20000 in
theorem gX2_init_X2_clear : GoodIn wsX2_init (wsV RX2 13 RX2 yX2_clear wsX2_clear) := goodIn_app (goodIn_of _ (by decide +kernel)) ggX2_init_X2_clear
theorem dX2_init_0 : decode cX2_init 0 = .ok (.aload_n 0, 1) := by decide +kernel
theorem dX2_init_1 : decode cX2_init 1 = .ok (.invokespecial 1, 3) := by decide +kernel
theorem dX2_init_4 : decode cX2_init 4 = .ok (.aload_n 0, 1) := by decide +kernel
theorem dX2_init_5 : decode cX2_init 5 = .ok (.sipush 187, 3) := by decide +kernel
theorem dX2_init_8 : decode cX2_init 8 = .ok (.newarray .int, 2) := by decide +kernel
theorem dX2_init_10 : decode cX2_init 10 = .ok (.putfield 9, 3) := by decide +kernel
theorem dX2_init_13 : decode cX2_init 13 = .ok (.aload_n 0, 1) := by decide +kernel
theorem dX2_init_14 : decode cX2_init 14 = .ok (.invokevirtual 13, 3) := by decide +kernel
theorem dX2_init_17 : decode cX2_init 17 = .ok (.return_, 1) := by decide +kernel
set_option maxRecDepth 20000 in
theorem ggX2_clear_X2_add : GoodIn wsX2_clear wsX2_add := goodIn_r _ [11, 3, 6, 2, 12, 13, 14, 15, 16, 17] (by decide +kernel) (by decide +kernel)
set_option maxRecDepth 20000 in
theorem gX2_clear_X2_add : GoodIn wsX2_clear (wsV RX2 25 RX2 yX2_add wsX2_add) := goodIn_app (goodIn_of _ (by decide +kernel)) ggX2_clear_X2_add
theorem dX2_clear_0 : decode cX2_clear 0 = .ok (.aload_n 0, 1) := by decide +kernel
theorem dX2_clear_1 : decode cX2_clear 1 = .ok (.iconst 0, 1) := by decide +kernel
theorem dX2_clear_2 : decode cX2_clear 2 = .ok (.putfield 16, 3) := by decide +kernel
theorem dX2_clear_5 : decode cX2_clear 5 = .ok (.aload_n 0, 1) := by decide +kernel
theorem dX2_clear_6 : decode cX2_clear 6 = .ok (.iconst 0, 1) := by decide +kernel
theorem dX2_clear_7 : decode cX2_clear 7 = .ok (.putfield 20, 3) := by decide +kernel
theorem dX2_clear_10 : decode cX2_clear 10 = .ok (.aload_n 0, 1) := by decide +kernel
theorem dX2_clear_11 : decode cX2_clear 11 = .ok (.ldc2_w 23, 3) := by decide +kernel
theorem dX2_clear_14 : decode cX2_clear 14 = .ok (.invokevirtual 25, 3) := by decide +kernel
theorem dX2_clear_17 : decode cX2_clear 17 = .ok (.aload_n 0, 1) := by decide +kernel
theorem dX2_clear_18 : decode cX2_clear 18 = .ok (.ldc2_w 29, 3) := by decide +kernel
theorem dX2_clear_21 : decode cX2_clear 21 = .ok (.invokevirtual 25, 3) := by decide +kernel
theorem dX2_clear_24 : decode cX2_clear 24 = .ok (.iconst (-1), 1) := by decide +kernel
theorem dX2_clear_25 : decode cX2_clear 25 = .ok (.istore_n 1, 1) := by decide +kernel
theorem dX2_clear_26 : decode cX2_clear 26 = .ok (.iload_n 1, 1) := by decide +kernel
theorem dX2_clear_27 : decode cX2_clear 27 = .ok (.iconst 2, 1) := by decide +kernel
theorem dX2_clear_28 : decode cX2_clear 28 = .ok (.if_icmp .ge 15, 3) := by decide +kernel
theorem dX2_clear_31 : decode cX2_clear 31 = .ok (.aload_n 0, 1) := by decide +kernel
theorem dX2_clear_32 : decode cX2_clear 32 = .ok (.iload_n 1, 1) := by decide +kernel
theorem dX2_clear_33 : decode cX2_clear 33 = .ok (.i2l, 1) := by decide +kernel
theorem dX2_clear_34 : decode cX2_clear 34 = .ok (.invokevirtual 25, 3) := by decide +kernel
theorem dX2_clear_37 : decode cX2_clear 37 = .ok (.iinc 1 1, 3) := by decide +kernel
theorem dX2_clear_40 : decode cX2_clear 40 = .ok (.goto (-14), 3) := by decide +kernel
theorem dX2_clear_43 : decode cX2_clear 43 = .ok (.aload_n 0, 1) := by decide +kernel
theorem dX2_clear_44 : decode cX2_clear 44 = .ok (.ldc2_w 31, 3) := by decide +kernel
theorem dX2_clear_47 : decode cX2_clear 47 = .ok (.invokevirtual 25, 3) := by decide +kernel
theorem dX2_clear_50 : decode cX2_clear 50 = .ok (.aload_n 0, 1) := by decide +kernel
theorem dX2_clear_51 : decode cX2_clear 51 = .ok (.ldc2_w 33, 3) := by decide +kernel
theorem dX2_clear_54 : decode cX2_clear 54 = .ok (.invokevirtual 25, 3) := by decide +kernel
theorem dX2_clear_57 : decode cX2_clear 57 = .ok (.return_, 1) := by decide +kernel
theorem dX2_add_0 : decode cX2_add 0 = .ok (.lload_n 1, 1) := by decide +kernel
theorem dX2_add_1 : decode cX2_add 1 = .ok (.ldc2_w 23, 3) := by decide +kernel
theorem dX2_add_4 : decode cX2_add 4 = .ok (.lcmp, 1) := by decide +kernel
theorem dX2_add_5 : decode cX2_add 5 = .ok (.ifCond .lt 11, 3) := by decide +kernel
theorem dX2_add_8 : decode cX2_add 8 = .ok (.lload_n 1, 1) := by decide +kernel
theorem dX2_add_9 : decode cX2_add 9 = .ok (.ldc2_w 33, 3) := by decide +kernel
theorem dX2_add_12 : decode cX2_add 12 = .ok (.lcmp, 1) := by decide +kernel
theorem dX2_add_13 : decode cX2_add 13 = .ok (.ifCond .le 4, 3) := by decide +kernel
theorem dX2_add_16 : decode cX2_add 16 = .ok (.return_, 1) := by decide +kernel
theorem dX2_add_17 : decode cX2_add 17 = .ok (.iconst 0, 1) := by decide +kernel
theorem dX2_add_18 : decode cX2_add 18 = .ok (.istore_n 3, 1) := by decide +kernel
theorem dX2_add_19 : decode cX2_add 19 = .ok (.iload_n 3, 1) := by decide +kernel
theorem dX2_add_20 : decode cX2_add 20 = .ok (.aload_n 0, 1) := by decide +kernel
theorem dX2_add_21 : decode cX2_add 21 = .ok (.getfield 20, 3) := by decide +kernel
theorem dX2_add_24 : decode cX2_add 24 = .ok (.if_icmp .ge 22, 3) := by decide +kernel
theorem dX2_add_27 : decode cX2_add 27 = .ok (.aload_n 0, 1) := by decide +kernel
theorem dX2_add_28 : decode cX2_add 28 = .ok (.getfield 9, 3) := by decide +kernel
theorem dX2_add_31 : decode cX2_add 31 = .ok (.iload_n 3, 1) := by decide +kernel
theorem dX2_add_32 : decode cX2_add 32 = .ok (.iaload, 1) := by decide +kernel
theorem dX2_add_33 : decode cX2_add 33 = .ok (.i2l, 1) := by decide +kernel
theorem dX2_add_34 : decode cX2_add 34 = .ok (.lload_n 1, 1) := by decide +kernel
theorem dX2_add_35 : decode cX2_add 35 = .ok (.lcmp, 1) := by decide +kernel
theorem dX2_add_36 : decode cX2_add 36 = .ok (.ifCond .ne 4, 3) := by decide +kernel
theorem dX2_add_39 : decode cX2_add 39 = .ok (.return_, 1) := by decide +kernel
theorem dX2_add_40 : decode cX2_add 40 = .ok (.iinc 3 1, 3) := by decide +kernel
theorem dX2_add_43 : decode cX2_add 43 = .ok (.goto (-24), 3) := by decide +kernel
theorem dX2_add_46 : decode cX2_add 46 = .ok (.aload_n 0, 1) := by decide +kernel
theorem dX2_add_47 : decode cX2_add 47 = .ok (.getfield 9, 3) := by decide +kernel
theorem dX2_add_50 : decode cX2_add 50 = .ok (.aload_n 0, 1) := by decide +kernel
theorem dX2_add_51 : decode cX2_add 51 = .ok (.getfield 20, 3) := by decide +kernel
theorem dX2_add_54 : decode cX2_add 54 = .ok (.lload_n 1, 1) := by decide +kernel
theorem dX2_add_55 : decode cX2_add 55 = .ok (.l2i, 1) := by decide +kernel
theorem dX2_add_56 : decode cX2_add 56 = .ok (.iastore, 1) := by decide +kernel
theorem dX2_add_57 : decode cX2_add 57 = .ok (.aload_n 0, 1) := by decide +kernel
theorem dX2_add_58 : decode cX2_add 58 = .ok (.dup, 1) := by decide +kernel
theorem dX2_add_59 : decode cX2_add 59 = .ok (.getfield 20, 3) := by decide +kernel
theorem dX2_add_62 : decode cX2_add 62 = .ok (.iconst 1, 1) := by decide +kernel
theorem dX2_add_63 : decode cX2_add 63 = .ok (.iadd, 1) := by decide +kernel
theorem dX2_add_64 : decode cX2_add 64 = .ok (.putfield 20, 3) := by decide +kernel
theorem dX2_add_67 : decode cX2_add 67 = .ok (.return_, 1) := by decide +kernel
set_option maxRecDepth 20000 in
theorem ggX2_around_X2_add : GoodIn wsX2_around wsX2_add := goodIn_r _ [7, 8, 9, 2, 10, 11, 12, 13, 14, 15] (by decide +kernel) (by decide +kernel)
set_option maxRecDepth 20000 in
theorem gX2_around_X2_add : GoodIn wsX2_around (wsV RX2 25 RX2 yX2_add wsX2_add) := goodIn_app (goodIn_of _ (by decide +kernel)) ggX2_around_X2_add
theorem dX2_around_0 : decode cX2_around 0 = .ok (.aload_n 0, 1) := by decide +kernel
theorem dX2_around_1 : decode cX2_around 1 = .ok (.getfield 16, 3) := by decide +kernel
theorem dX2_around_4 : decode cX2_around 4 = .ok (.bipush 60, 2) := by decide +kernel
theorem dX2_around_6 : decode cX2_around 6 = .ok (.if_icmp .ne 5, 3) := by decide +kernel
theorem dX2_around_9 : decode cX2_around 9 = .ok (.iconst (-1), 1) := by decide +kernel
theorem dX2_around_10 : decode cX2_around 10 = .ok (.ireturn, 1) := by decide +kernel
theorem dX2_around_11 : decode cX2_around 11 = .ok (.aload_n 0, 1) := by decide +kernel
theorem dX2_around_12 : decode cX2_around 12 = .ok (.dup, 1) := by decide +kernel
theorem dX2_around_13 : decode cX2_around 13 = .ok (.getfield 16, 3) := by decide +kernel
theorem dX2_around_16 : decode cX2_around 16 = .ok (.iconst 1, 1) := by decide +kernel
theorem dX2_around_17 : decode cX2_around 17 = .ok (.iadd, 1) := by decide +kernel
theorem dX2_around_18 : decode cX2_around 18 = .ok (.putfield 16, 3) := by decide +kernel
theorem dX2_around_21 : decode cX2_around 21 = .ok (.iload_n 1, 1) := by decide +kernel
theorem dX2_around_22 : decode cX2_around 22 = .ok (.i2l, 1) := by decide +kernel
theorem dX2_around_23 : decode cX2_around 23 = .ok (.lconst 1, 1) := by decide +kernel
theorem dX2_around_24 : decode cX2_around 24 = .ok (.lsub, 1) := by decide +kernel
theorem dX2_around_25 : decode cX2_around 25 = .ok (.lstore_n 2, 1) := by decide +kernel
theorem dX2_around_26 : decode cX2_around 26 = .ok (.lload_n 2, 1) := by decide +kernel
theorem dX2_around_27 : decode cX2_around 27 = .ok (.iload_n 1, 1) := by decide +kernel
theorem dX2_around_28 : decode cX2_around 28 = .ok (.i2l, 1) := by decide +kernel
theorem dX2_around_29 : decode cX2_around 29 = .ok (.lconst 1, 1) := by decide +kernel
theorem dX2_around_30 : decode cX2_around 30 = .ok (.ladd, 1) := by decide +kernel
theorem dX2_around_31 : decode cX2_around 31 = .ok (.lcmp, 1) := by decide +kernel
theorem dX2_around_32 : decode cX2_around 32 = .ok (.ifCond .gt 15, 3) := by decide +kernel
theorem dX2_around_35 : decode cX2_around 35 = .ok (.aload_n 0, 1) := by decide +kernel
theorem dX2_around_36 : decode cX2_around 36 = .ok (.lload_n 2, 1) := by decide +kernel
theorem dX2_around_37 : decode cX2_around 37 = .ok (.invokevirtual 25, 3) := by decide +kernel
theorem dX2_around_40 : decode cX2_around 40 = .ok (.lload_n 2, 1) := by decide +kernel
theorem dX2_around_41 : decode cX2_around 41 = .ok (.lconst 1, 1) := by decide +kernel
theorem dX2_around_42 : decode cX2_around 42 = .ok (.ladd, 1) := by decide +kernel
theorem dX2_around_43 : decode cX2_around 43 = .ok (.lstore_n 2, 1) := by decide +kernel
theorem dX2_around_44 : decode cX2_around 44 = .ok (.goto (-18), 3) := by decide +kernel
theorem dX2_around_47 : decode cX2_around 47 = .ok (.aload_n 0, 1) := by decide +kernel
theorem dX2_around_48 : decode cX2_around 48 = .ok (.getfield 20, 3) := by decide +kernel
theorem dX2_around_51 : decode cX2_around 51 = .ok (.ireturn, 1) := by decide +kernel
theorem dX2_size_0 : decode cX2_size 0 = .ok (.aload_n 0, 1) := by decide +kernel
theorem dX2_size_1 : decode cX2_size 1 = .ok (.getfield 20, 3) := by decide +kernel
theorem dX2_size_4 : decode cX2_size 4 = .ok (.ireturn, 1) := by decide +kernel
theorem dX2_down_0 : decode cX2_down 0 = .ok (.ldc 35, 2) := by decide +kernel
theorem dX2_down_2 : decode cX2_down 2 = .ok (.istore_n 2, 1) := by decide +kernel
theorem dX2_down_3 : decode cX2_down 3 = .ok (.iconst 0, 1) := by decide +kernel
theorem dX2_down_4 : decode cX2_down 4 = .ok (.istore_n 3, 1) := by decide +kernel
theorem dX2_down_5 : decode cX2_down 5 = .ok (.iload_n 3, 1) := by decide +kernel
theorem dX2_down_6 : decode cX2_down 6 = .ok (.aload_n 0, 1) := by decide +kernel
theorem dX2_down_7 : decode cX2_down 7 = .ok (.getfield 20, 3) := by decide +kernel
theorem dX2_down_10 : decode cX2_down 10 = .ok (.if_icmp .ge 30, 3) := by decide +kernel
theorem dX2_down_13 : decode cX2_down 13 = .ok (.aload_n 0, 1) := by decide +kernel
theorem dX2_down_14 : decode cX2_down 14 = .ok (.getfield 9, 3) := by decide +kernel
theorem dX2_down_17 : decode cX2_down 17 = .ok (.iload_n 3, 1) := by decide +kernel
theorem dX2_down_18 : decode cX2_down 18 = .ok (.iaload, 1) := by decide +kernel
theorem dX2_down_19 : decode cX2_down 19 = .ok (.iload_n 1, 1) := by decide +kernel
theorem dX2_down_20 : decode cX2_down 20 = .ok (.if_icmp .gt 14, 3) := by decide +kernel
theorem dX2_down_23 : decode cX2_down 23 = .ok (.iload_n 2, 1) := by decide +kernel
theorem dX2_down_24 : decode cX2_down 24 = .ok (.aload_n 0, 1) := by decide +kernel
theorem dX2_down_25 : decode cX2_down 25 = .ok (.getfield 9, 3) := by decide +kernel
theorem dX2_down_28 : decode cX2_down 28 = .ok (.iload_n 3, 1) := by decide +kernel
theorem dX2_down_29 : decode cX2_down 29 = .ok (.iaload, 1) := by decide +kernel
theorem dX2_down_30 : decode cX2_down 30 = .ok (.invokestatic 36, 3) := by decide +kernel
theorem dX2_down_33 : decode cX2_down 33 = .ok (.istore_n 2, 1) := by decide +kernel
theorem dX2_down_34 : decode cX2_down 34 = .ok (.iinc 3 1, 3) := by decide +kernel
theorem dX2_down_37 : decode cX2_down 37 = .ok (.goto (-32), 3) := by decide +kernel
theorem dX2_down_40 : decode cX2_down 40 = .ok (.iload_n 2, 1) := by decide +kernel
theorem dX2_down_41 : decode cX2_down 41 = .ok (.ireturn, 1) := by decide +kernel
theorem dX2_up_0 : decode cX2_up 0 = .ok (.ldc 42, 2) := by decide +kernel
theorem dX2_up_2 : decode cX2_up 2 = .ok (.istore_n 2, 1) := by decide +kernel
theorem dX2_up_3 : decode cX2_up 3 = .ok (.iconst 0, 1) := by decide +kernel
theorem dX2_up_4 : decode cX2_up 4 = .ok (.istore_n 3, 1) := by decide +kernel
theorem dX2_up_5 : decode cX2_up 5 = .ok (.iload_n 3, 1) := by decide +kernel
theorem dX2_up_6 : decode cX2_up 6 = .ok (.aload_n 0, 1) := by decide +kernel
theorem dX2_up_7 : decode cX2_up 7 = .ok (.getfield 20, 3) := by decide +kernel
theorem dX2_up_10 : decode cX2_up 10 = .ok (.if_icmp .ge 30, 3) := by decide +kernel
theorem dX2_up_13 : decode cX2_up 13 = .ok (.aload_n 0, 1) := by decide +kernel
theorem dX2_up_14 : decode cX2_up 14 = .ok (.getfield 9, 3) := by decide +kernel
theorem dX2_up_17 : decode cX2_up 17 = .ok (.iload_n 3, 1) := by decide +kernel
theorem dX2_up_18 : decode cX2_up 18 = .ok (.iaload, 1) := by decide +kernel
theorem dX2_up_19 : decode cX2_up 19 = .ok (.iload_n 1, 1) := by decide +kernel
theorem dX2_up_20 : decode cX2_up 20 = .ok (.if_icmp .lt 14, 3) := by decide +kernel
theorem dX2_up_23 : decode cX2_up 23 = .ok (.iload_n 2, 1) := by decide +kernel
theorem dX2_up_24 : decode cX2_up 24 = .ok (.aload_n 0, 1) := by decide +kernel
theorem dX2_up_25 : decode cX2_up 25 = .ok (.getfield 9, 3) := by decide +kernel
theorem dX2_up_28 : decode cX2_up 28 = .ok (.iload_n 3, 1) := by decide +kernel
theorem dX2_up_29 : decode cX2_up 29 = .ok (.iaload, 1) := by decide +kernel
theorem dX2_up_30 : decode cX2_up 30 = .ok (.invokestatic 43, 3) := by decide +kernel
theorem dX2_up_33 : decode cX2_up 33 = .ok (.istore_n 2, 1) := by decide +kernel
theorem dX2_up_34 : decode cX2_up 34 = .ok (.iinc 3 1, 3) := by decide +kernel
theorem dX2_up_37 : decode cX2_up 37 = .ok (.goto (-32), 3) := by decide +kernel
theorem dX2_up_40 : decode cX2_up 40 = .ok (.iload_n 2, 1) := by decide +kernel
theorem dX2_up_41 : decode cX2_up 41 = .ok (.ireturn, 1) := by decide +kernel
set_option maxRecDepth 20000 in
theorem ggX2_isRange_X2_down : GoodIn wsX2_isRange wsX2_down := goodIn_r _ [5, 6, 7, 8, 9, 10, 11, 12, 21, 22, 23, 24, 25] (by decide +kernel) (by decide +kernel)
set_option maxRecDepth 20000 in
theorem gX2_isRange_X2_down : GoodIn wsX2_isRange (wsV RX2 46 RX2 yX2_down wsX2_down) := goodIn_app (goodIn_of _ (by decide +kernel)) ggX2_isRange_X2_down
set_option maxRecDepth 20000 in
theorem ggX2_isRange_X2_up : GoodIn wsX2_isRange wsX2_up := goodIn_r _ [16, 17, 7, 8, 18, 19, 11, 20, 21, 22, 23, 24, 25] (by decide +kernel) (by decide +kernel)
set_option maxRecDepth 20000 in
theorem gX2_isRange_X2_up : GoodIn wsX2_isRange (wsV RX2 50 RX2 yX2_up wsX2_up) := goodIn_app (goodIn_of _ (by decide +kernel)) ggX2_isRange_X2_up
theorem dX2_isRange_0 : decode cX2_isRange 0 = .ok (.iload_n 1, 1) := by decide +kernel
theorem dX2_isRange_1 : decode cX2_isRange 1 = .ok (.iload_n 2, 1) := by decide +kernel
theorem dX2_isRange_2 : decode cX2_isRange 2 = .ok (.if_icmp .gt 25, 3) := by decide +kernel
theorem dX2_isRange_5 : decode cX2_isRange 5 = .ok (.aload_n 0, 1) := by decide +kernel
theorem dX2_isRange_6 : decode cX2_isRange 6 = .ok (.iload_n 1, 1) := by decide +kernel
theorem dX2_isRange_7 : decode cX2_isRange 7 = .ok (.invokevirtual 46, 3) := by decide +kernel
theorem dX2_isRange_10 : decode cX2_isRange 10 = .ok (.iload_n 1, 1) := by decide +kernel
theorem dX2_isRange_11 : decode cX2_isRange 11 = .ok (.if_icmp .ne 16, 3) := by decide +kernel
theorem dX2_isRange_14 : decode cX2_isRange 14 = .ok (.aload_n 0, 1) := by decide +kernel
theorem dX2_isRange_15 : decode cX2_isRange 15 = .ok (.iload_n 2, 1) := by decide +kernel
theorem dX2_isRange_16 : decode cX2_isRange 16 = .ok (.invokevirtual 50, 3) := by decide +kernel
theorem dX2_isRange_19 : decode cX2_isRange 19 = .ok (.iload_n 2, 1) := by decide +kernel
theorem dX2_isRange_20 : decode cX2_isRange 20 = .ok (.if_icmp .ne 7, 3) := by decide +kernel
theorem dX2_isRange_23 : decode cX2_isRange 23 = .ok (.iconst 1, 1) := by decide +kernel
theorem dX2_isRange_24 : decode cX2_isRange 24 = .ok (.goto 4, 3) := by decide +kernel
theorem dX2_isRange_27 : decode cX2_isRange 27 = .ok (.iconst 0, 1) := by decide +kernel
theorem dX2_isRange_28 : decode cX2_isRange 28 = .ok (.ireturn, 1) := by decide +kernel
set_option maxRecDepth 20000 in
theorem ggX2_tell_X2_down : GoodIn wsX2_tell wsX2_down := goodIn_r _ [11, 3, 12, 13, 14, 15, 16, 17, 25, 26, 27, 28, 29] (by decide +kernel) (by decide +kernel)
set_option maxRecDepth 20000 in
theorem gX2_tell_X2_down : GoodIn wsX2_tell (wsV RX2 46 RX2 yX2_down wsX2_down) := goodIn_app (goodIn_of _ (by decide +kernel)) ggX2_tell_X2_down
set_option maxRecDepth 20000 in
theorem ggX2_tell_X2_up : GoodIn wsX2_tell wsX2_up := goodIn_r _ [21, 5, 12, 13, 22, 23, 16, 24, 25, 26, 27, 28, 29] (by decide +kernel) (by decide +kernel)
set_option maxRecDepth 20000 in
theorem gX2_tell_X2_up : GoodIn wsX2_tell (wsV RX2 50 RX2 yX2_up wsX2_up) := goodIn_app (goodIn_of _ (by decide +kernel)) ggX2_tell_X2_up
theorem dX2_tell_0 : decode cX2_tell 0 = .ok (.lload_n 1, 1) := by decide +kernel
theorem dX2_tell_1 : decode cX2_tell 1 = .ok (.ldc2_w 23, 3) := by decide +kernel
theorem dX2_tell_4 : decode cX2_tell 4 = .ok (.lcmp, 1) := by decide +kernel
theorem dX2_tell_5 : decode cX2_tell 5 = .ok (.ifCond .lt 15, 3) := by decide +kernel
theorem dX2_tell_8 : decode cX2_tell 8 = .ok (.lload_n 3, 1) := by decide +kernel
theorem dX2_tell_9 : decode cX2_tell 9 = .ok (.ldc2_w 33, 3) := by decide +kernel
theorem dX2_tell_12 : decode cX2_tell 12 = .ok (.lcmp, 1) := by decide +kernel
theorem dX2_tell_13 : decode cX2_tell 13 = .ok (.ifCond .gt 7, 3) := by decide +kernel
theorem dX2_tell_16 : decode cX2_tell 16 = .ok (.iconst 1, 1) := by decide +kernel
theorem dX2_tell_17 : decode cX2_tell 17 = .ok (.goto 4, 3) := by decide +kernel
theorem dX2_tell_20 : decode cX2_tell 20 = .ok (.iconst 0, 1) := by decide +kernel
theorem dX2_tell_21 : decode cX2_tell 21 = .ok (.istore 5, 2) := by decide +kernel
theorem dX2_tell_23 : decode cX2_tell 23 = .ok (.aload_n 0, 1) := by decide +kernel
theorem dX2_tell_24 : decode cX2_tell 24 = .ok (.iload 5, 2) := by decide +kernel
theorem dX2_tell_26 : decode cX2_tell 26 = .ok (.ifCond .eq 12, 3) := by decide +kernel
theorem dX2_tell_29 : decode cX2_tell 29 = .ok (.aload_n 0, 1) := by decide +kernel
theorem dX2_tell_30 : decode cX2_tell 30 = .ok (.lload_n 1, 1) := by decide +kernel
theorem dX2_tell_31 : decode cX2_tell 31 = .ok (.l2i, 1) := by decide +kernel
theorem dX2_tell_32 : decode cX2_tell 32 = .ok (.invokevirtual 46, 3) := by decide +kernel
theorem dX2_tell_35 : decode cX2_tell 35 = .ok (.goto 5, 3) := by decide +kernel
theorem dX2_tell_38 : decode cX2_tell 38 = .ok (.ldc 35, 2) := by decide +kernel
theorem dX2_tell_40 : decode cX2_tell 40 = .ok (.putfield 53, 3) := by decide +kernel
theorem dX2_tell_43 : decode cX2_tell 43 = .ok (.aload_n 0, 1) := by decide +kernel
theorem dX2_tell_44 : decode cX2_tell 44 = .ok (.iload 5, 2) := by decide +kernel
theorem dX2_tell_46 : decode cX2_tell 46 = .ok (.ifCond .eq 12, 3) := by decide +kernel
theorem dX2_tell_49 : decode cX2_tell 49 = .ok (.aload_n 0, 1) := by decide +kernel
theorem dX2_tell_50 : decode cX2_tell 50 = .ok (.lload_n 3, 1) := by decide +kernel
theorem dX2_tell_51 : decode cX2_tell 51 = .ok (.l2i, 1) := by decide +kernel
theorem dX2_tell_52 : decode cX2_tell 52 = .ok (.invokevirtual 50, 3) := by decide +kernel
theorem dX2_tell_55 : decode cX2_tell 55 = .ok (.goto 5, 3) := by decide +kernel
theorem dX2_tell_58 : decode cX2_tell 58 = .ok (.ldc 42, 2) := by decide +kernel
theorem dX2_tell_60 : decode cX2_tell 60 = .ok (.putfield 56, 3) := by decide +kernel
theorem dX2_tell_63 : decode cX2_tell 63 = .ok (.iconst 1, 1) := by decide +kernel
theorem dX2_tell_64 : decode cX2_tell 64 = .ok (.ireturn, 1) := by decide +kernel
set_option maxRecDepth 20000 in
theorem ggX2_tellAll_X2_tell : GoodIn wsX2_tellAll wsX2_tell := goodIn_r _ [7, 1, 2, 8, 9, 10, 11, 12, 13, 14, 6, 15, 16, 17, 18, 19, 20, 21, 22, 23, 24, 25, 26, 27, 28, 29, 30, 31, 32, 33] (by decide +kernel) (by decide +kernel)
set_option maxRecDepth 20000 in
theorem gX2_tellAll_X2_tell : GoodIn wsX2_tellAll (wsV RX2 59 RX2 yX2_tell wsX2_tell) := goodIn_app (goodIn_of _ (by decide +kernel)) ggX2_tellAll_X2_tell
theorem dX2_tellAll_0 : decode cX2_tellAll 0 = .ok (.aload_n 0, 1) := by decide +kernel
theorem dX2_tellAll_1 : decode cX2_tellAll 1 = .ok (.ldc2_w 23, 3) := by decide +kernel
theorem dX2_tellAll_4 : decode cX2_tellAll 4 = .ok (.ldc2_w 33, 3) := by decide +kernel
theorem dX2_tellAll_7 : decode cX2_tellAll 7 = .ok (.invokevirtual 59, 3) := by decide +kernel
theorem dX2_tellAll_10 : decode cX2_tellAll 10 = .ok (.ireturn, 1) := by decide +kernel
set_option maxRecDepth 20000 in
theorem ggX2_tellLeast_X2_tell : GoodIn wsX2_tellLeast wsX2_tell := goodIn_r _ [12, 13, 14, 15, 16, 17, 18, 19, 20, 21, 11, 22, 23, 24, 25, 26, 3, 27, 28, 29, 30, 31, 32, 33, 34, 35, 36, 37, 38, 39] (by decide +kernel) (by decide +kernel)
set_option maxRecDepth 20000 in
theorem gX2_tellLeast_X2_tell : GoodIn wsX2_tellLeast (wsV RX2 59 RX2 yX2_tell wsX2_tell) := goodIn_app (goodIn_of _ (by decide +kernel)) ggX2_tellLeast_X2_tell
theorem dX2_tellLeast_0 : decode cX2_tellLeast 0 = .ok (.aload_n 0, 1) := by decide +kernel
theorem dX2_tellLeast_1 : decode cX2_tellLeast 1 = .ok (.lload_n 1, 1) := by decide +kernel
theorem dX2_tellLeast_2 : decode cX2_tellLeast 2 = .ok (.lload_n 3, 1) := by decide +kernel
theorem dX2_tellLeast_3 : decode cX2_tellLeast 3 = .ok (.invokestatic 63, 3) := by decide +kernel
theorem dX2_tellLeast_6 : decode cX2_tellLeast 6 = .ok (.lload 5, 2) := by decide +kernel
theorem dX2_tellLeast_8 : decode cX2_tellLeast 8 = .ok (.lload 7, 2) := by decide +kernel
theorem dX2_tellLeast_10 : decode cX2_tellLeast 10 = .ok (.invokestatic 63, 3) := by decide +kernel
theorem dX2_tellLeast_13 : decode cX2_tellLeast 13 = .ok (.invokestatic 63, 3) := by decide +kernel
theorem dX2_tellLeast_16 : decode cX2_tellLeast 16 = .ok (.lload_n 1, 1) := by decide +kernel
theorem dX2_tellLeast_17 : decode cX2_tellLeast 17 = .ok (.lload_n 3, 1) := by decide +kernel
theorem dX2_tellLeast_18 : decode cX2_tellLeast 18 = .ok (.invokestatic 66, 3) := by decide +kernel
theorem dX2_tellLeast_21 : decode cX2_tellLeast 21 = .ok (.lload 5, 2) := by decide +kernel
theorem dX2_tellLeast_23 : decode cX2_tellLeast 23 = .ok (.lload 7, 2) := by decide +kernel
theorem dX2_tellLeast_25 : decode cX2_tellLeast 25 = .ok (.invokestatic 66, 3) := by decide +kernel
theorem dX2_tellLeast_28 : decode cX2_tellLeast 28 = .ok (.invokestatic 66, 3) := by decide +kernel
theorem dX2_tellLeast_31 : decode cX2_tellLeast 31 = .ok (.invokevirtual 59, 3) := by decide +kernel
theorem dX2_tellLeast_34 : decode cX2_tellLeast 34 = .ok (.ireturn, 1) := by decide +kernel
set_option maxRecDepth 20000 in
theorem ggX2_negate_X2_isRange : GoodIn wsX2_negate wsX2_isRange := goodIn_r _ [5, 6, 7, 8, 4, 9, 10, 11, 12, 13, 14, 15, 16, 17, 18, 19, 20, 21, 22, 23, 24, 33, 34, 35, 36, 37] (by decide +kernel) (by decide +kernel)
set_option maxRecDepth 20000 in
theorem gX2_negate_X2_isRange : GoodIn wsX2_negate (wsV RX2 68 RX2 yX2_isRange wsX2_isRange) := goodIn_app (goodIn_of _ (by decide +kernel)) ggX2_negate_X2_isRange
set_option maxRecDepth 20000 in
theorem ggX2_negate_X2_tell : GoodIn wsX2_negate wsX2_tell := goodIn_r _ [28, 29, 30, 10, 31, 21, 32, 6, 7, 8, 4, 9, 11, 12, 13, 14, 15, 16, 17, 18, 19, 20, 22, 23, 24, 33, 34, 35, 36, 37] (by decide +kernel) (by decide +kernel)
set_option maxRecDepth 20000 in
theorem gX2_negate_X2_tell : GoodIn wsX2_negate (wsV RX2 59 RX2 yX2_tell wsX2_tell) := goodIn_app (goodIn_of _ (by decide +kernel)) ggX2_negate_X2_tell
theorem dX2_negate_0 : decode cX2_negate 0 = .ok (.aload_n 0, 1) := by decide +kernel
theorem dX2_negate_1 : decode cX2_negate 1 = .ok (.iload_n 1, 1) := by decide +kernel
theorem dX2_negate_2 : decode cX2_negate 2 = .ok (.iload_n 2, 1) := by decide +kernel
theorem dX2_negate_3 : decode cX2_negate 3 = .ok (.invokevirtual 68, 3) := by decide +kernel
theorem dX2_negate_6 : decode cX2_negate 6 = .ok (.ifCond .ne 5, 3) := by decide +kernel
theorem dX2_negate_9 : decode cX2_negate 9 = .ok (.iconst 0, 1) := by decide +kernel
theorem dX2_negate_10 : decode cX2_negate 10 = .ok (.ireturn, 1) := by decide +kernel
theorem dX2_negate_11 : decode cX2_negate 11 = .ok (.aload_n 0, 1) := by decide +kernel
theorem dX2_negate_12 : decode cX2_negate 12 = .ok (.iload_n 2, 1) := by decide +kernel
theorem dX2_negate_13 : decode cX2_negate 13 = .ok (.i2l, 1) := by decide +kernel
theorem dX2_negate_14 : decode cX2_negate 14 = .ok (.lneg, 1) := by decide +kernel
theorem dX2_negate_15 : decode cX2_negate 15 = .ok (.iload_n 1, 1) := by decide +kernel
theorem dX2_negate_16 : decode cX2_negate 16 = .ok (.i2l, 1) := by decide +kernel
theorem dX2_negate_17 : decode cX2_negate 17 = .ok (.lneg, 1) := by decide +kernel
theorem dX2_negate_18 : decode cX2_negate 18 = .ok (.invokevirtual 59, 3) := by decide +kernel
theorem dX2_negate_21 : decode cX2_negate 21 = .ok (.istore_n 3, 1) := by decide +kernel
theorem dX2_negate_22 : decode cX2_negate 22 = .ok (.iload_n 3, 1) := by decide +kernel
theorem dX2_negate_23 : decode cX2_negate 23 = .ok (.iconst 1, 1) := by decide +kernel
theorem dX2_negate_24 : decode cX2_negate 24 = .ok (.if_icmp .ne 7, 3) := by decide +kernel
theorem dX2_negate_27 : decode cX2_negate 27 = .ok (.iconst 1, 1) := by decide +kernel
theorem dX2_negate_28 : decode cX2_negate 28 = .ok (.goto 4, 3) := by decide +kernel
theorem dX2_negate_31 : decode cX2_negate 31 = .ok (.iconst 0, 1) := by decide +kernel
theorem dX2_negate_32 : decode cX2_negate 32 = .ok (.ireturn, 1) := by decide +kernel
set_option maxRecDepth 20000 in
theorem ggX2_work_X2_isRange : GoodIn wsX2_work wsX2_isRange := goodIn_r _ [12, 13, 14, 15, 11, 16, 17, 18, 19, 5, 6, 3, 7, 20, 21, 22, 23, 24, 1, 2, 4, 64, 65, 66, 67, 68] (by decide +kernel) (by decide +kernel)
set_option maxRecDepth 20000 in
theorem gX2_work_X2_isRange : GoodIn wsX2_work (wsV RX2 68 RX2 yX2_isRange wsX2_isRange) := goodIn_app (goodIn_of _ (by decide +kernel)) ggX2_work_X2_isRange
set_option maxRecDepth 20000 in
theorem ggX2_work_X2_tell : GoodIn wsX2_work wsX2_tell := goodIn_r _ [28, 29, 30, 17, 31, 24, 32, 13, 14, 15, 11, 16, 18, 19, 5, 6, 3, 7, 20, 21, 22, 23, 1, 2, 4, 64, 65, 66, 67, 68] (by decide +kernel) (by decide +kernel)
set_option maxRecDepth 20000 in
theorem gX2_work_X2_tell : GoodIn wsX2_work (wsV RX2 59 RX2 yX2_tell wsX2_tell) := goodIn_app (goodIn_of _ (by decide +kernel)) ggX2_work_X2_tell
set_option maxRecDepth 20000 in
theorem ggX2_work_X2_tellLeast : GoodIn wsX2_work wsX2_tellLeast := goodIn_r _ [36, 37, 38, 3, 39, 40, 41, 42, 25, 26, 27, 11, 28, 29, 30, 17, 31, 24, 32, 13, 14, 15, 16, 18, 19, 5, 6, 7, 20, 21, 22, 23, 1, 2, 4, 64, 65, 66, 67, 68] (by decide +kernel) (by decide +kernel)
set_option maxRecDepth 20000 in
theorem gX2_work_X2_tellLeast : GoodIn wsX2_work (wsV RX2 72 RX2 yX2_tellLeast wsX2_tellLeast) := goodIn_app (goodIn_of _ (by decide +kernel)) ggX2_work_X2_tellLeast
set_option maxRecDepth 20000 in
theorem ggX2_work_X2_quotient : GoodIn wsX2_work wsX2_quotient := goodIn_r _ [46, 47, 48, 37, 38, 3, 39, 40, 41, 42, 25, 26, 27, 11, 28, 29, 30, 17, 31, 24, 32, 13, 14, 15, 16, 18, 19, 5, 6, 7, 20, 21, 22, 23, 1, 2, 4, 64, 65, 66, 67, 68] (by decide +kernel) (by decide +kernel)
set_option maxRecDepth 20000 in
theorem gX2_work_X2_quotient : GoodIn wsX2_work (wsV RX2 76 RX2 yX2_quotient wsX2_quotient) := goodIn_app (goodIn_of _ (by decide +kernel)) ggX2_work_X2_quotient
set_option maxRecDepth 20000 in
theorem ggX2_work_X2_rest : GoodIn wsX2_work wsX2_rest := goodIn_r _ [52, 53, 54, 3, 55, 40, 41, 42, 37, 38, 39, 25, 26, 27, 11, 28, 29, 30, 17, 31, 24, 32, 13, 14, 15, 16, 18, 19, 5, 6, 7, 20, 21, 22, 23, 1, 2, 4, 64, 65, 66, 67, 68] (by decide +kernel) (by decide +kernel)
set_option maxRecDepth 20000 in
theorem gX2_work_X2_rest : GoodIn wsX2_work (wsV RX2 80 RX2 yX2_rest wsX2_rest) := goodIn_app (goodIn_of _ (by decide +kernel)) ggX2_work_X2_rest
set_option maxRecDepth 20000 in
theorem ggX2_work_X2_tellAll : GoodIn wsX2_work wsX2_tellAll := goodIn_r _ [59, 29, 30, 25, 26, 27, 11, 28, 17, 31, 24, 32, 13, 14, 15, 16, 18, 19, 5, 6, 3, 7, 20, 21, 22, 23, 1, 2, 4, 64, 65, 66, 67, 68] (by decide +kernel) (by decide +kernel)
set_option maxRecDepth 20000 in
theorem gX2_work_X2_tellAll : GoodIn wsX2_work (wsV RX2 84 RX2 yX2_tellAll wsX2_tellAll) := goodIn_app (goodIn_of _ (by decide +kernel)) ggX2_work_X2_tellAll
set_option maxRecDepth 20000 in
theorem ggX2_work_X2_ones : GoodIn wsX2_work wsX2_ones := goodIn_r _ [62, 63] (by decide +kernel) (by decide +kernel)
set_option maxRecDepth 20000 in
theorem gX2_work_X2_ones : GoodIn wsX2_work (va_wsS RX2 88 yX2_ones wsX2_ones) := goodIn_app (goodIn_of _ (by decide +kernel)) ggX2_work_X2_ones
theorem dX2_work_0 : decode cX2_work 0 = .ok (.iload_n 1, 1) := by decide +kernel
theorem dX2_work_1 : decode cX2_work 1 = .ok (.ifCond .lt 29, 3) := by decide +kernel
theorem dX2_work_4 : decode cX2_work 4 = .ok (.iload_n 1, 1) := by decide +kernel
theorem dX2_work_5 : decode cX2_work 5 = .ok (.bipush 9, 2) := by decide +kernel
theorem dX2_work_7 : decode cX2_work 7 = .ok (.if_icmp .gt 23, 3) := by decide +kernel
theorem dX2_work_10 : decode cX2_work 10 = .ok (.aload_n 0, 1) := by decide +kernel
theorem dX2_work_11 : decode cX2_work 11 = .ok (.iload_n 2, 1) := by decide +kernel
theorem dX2_work_12 : decode cX2_work 12 = .ok (.iload_n 3, 1) := by decide +kernel
theorem dX2_work_13 : decode cX2_work 13 = .ok (.invokevirtual 68, 3) := by decide +kernel
theorem dX2_work_16 : decode cX2_work 16 = .ok (.ifCond .eq 14, 3) := by decide +kernel
theorem dX2_work_19 : decode cX2_work 19 = .ok (.aload_n 0, 1) := by decide +kernel
theorem dX2_work_20 : decode cX2_work 20 = .ok (.iload 4, 2) := by decide +kernel
theorem dX2_work_22 : decode cX2_work 22 = .ok (.iload 5, 2) := by decide +kernel
theorem dX2_work_24 : decode cX2_work 24 = .ok (.invokevirtual 68, 3) := by decide +kernel
theorem dX2_work_27 : decode cX2_work 27 = .ok (.ifCond .ne 5, 3) := by decide +kernel
theorem dX2_work_30 : decode cX2_work 30 = .ok (.iconst (-1), 1) := by decide +kernel
theorem dX2_work_31 : decode cX2_work 31 = .ok (.ireturn, 1) := by decide +kernel
theorem dX2_work_32 : decode cX2_work 32 = .ok (.iload_n 1, 1) := by decide +kernel
theorem dX2_work_33 : decode cX2_work 33 = .ok (.tableswitch 250 0 8 #[51, 68, 85, 114, 125, 138, 185, 185, 214], 51) := by decide +kernel
theorem dX2_work_84 : decode cX2_work 84 = .ok (.aload_n 0, 1) := by decide +kernel
theorem dX2_work_85 : decode cX2_work 85 = .ok (.iload_n 2, 1) := by decide +kernel
theorem dX2_work_86 : decode cX2_work 86 = .ok (.i2l, 1) := by decide +kernel
theorem dX2_work_87 : decode cX2_work 87 = .ok (.iload 4, 2) := by decide +kernel
theorem dX2_work_89 : decode cX2_work 89 = .ok (.i2l, 1) := by decide +kernel
theorem dX2_work_90 : decode cX2_work 90 = .ok (.ladd, 1) := by decide +kernel
theorem dX2_work_91 : decode cX2_work 91 = .ok (.iload_n 3, 1) := by decide +kernel
theorem dX2_work_92 : decode cX2_work 92 = .ok (.i2l, 1) := by decide +kernel
theorem dX2_work_93 : decode cX2_work 93 = .ok (.iload 5, 2) := by decide +kernel
theorem dX2_work_95 : decode cX2_work 95 = .ok (.i2l, 1) := by decide +kernel
theorem dX2_work_96 : decode cX2_work 96 = .ok (.ladd, 1) := by decide +kernel
theorem dX2_work_97 : decode cX2_work 97 = .ok (.invokevirtual 59, 3) := by decide +kernel
theorem dX2_work_100 : decode cX2_work 100 = .ok (.ireturn, 1) := by decide +kernel
theorem dX2_work_101 : decode cX2_work 101 = .ok (.aload_n 0, 1) := by decide +kernel
theorem dX2_work_102 : decode cX2_work 102 = .ok (.iload_n 2, 1) := by decide +kernel
theorem dX2_work_103 : decode cX2_work 103 = .ok (.i2l, 1) := by decide +kernel
theorem dX2_work_104 : decode cX2_work 104 = .ok (.iload 5, 2) := by decide +kernel
theorem dX2_work_106 : decode cX2_work 106 = .ok (.i2l, 1) := by decide +kernel
theorem dX2_work_107 : decode cX2_work 107 = .ok (.lsub, 1) := by decide +kernel
theorem dX2_work_108 : decode cX2_work 108 = .ok (.iload_n 3, 1) := by decide +kernel
theorem dX2_work_109 : decode cX2_work 109 = .ok (.i2l, 1) := by decide +kernel
theorem dX2_work_110 : decode cX2_work 110 = .ok (.iload 4, 2) := by decide +kernel
theorem dX2_work_112 : decode cX2_work 112 = .ok (.i2l, 1) := by decide +kernel
theorem dX2_work_113 : decode cX2_work 113 = .ok (.lsub, 1) := by decide +kernel
theorem dX2_work_114 : decode cX2_work 114 = .ok (.invokevirtual 59, 3) := by decide +kernel
theorem dX2_work_117 : decode cX2_work 117 = .ok (.ireturn, 1) := by decide +kernel
theorem dX2_work_118 : decode cX2_work 118 = .ok (.aload_n 0, 1) := by decide +kernel
theorem dX2_work_119 : decode cX2_work 119 = .ok (.iload_n 2, 1) := by decide +kernel
theorem dX2_work_120 : decode cX2_work 120 = .ok (.i2l, 1) := by decide +kernel
theorem dX2_work_121 : decode cX2_work 121 = .ok (.iload 4, 2) := by decide +kernel
theorem dX2_work_123 : decode cX2_work 123 = .ok (.i2l, 1) := by decide +kernel
theorem dX2_work_124 : decode cX2_work 124 = .ok (.lmul, 1) := by decide +kernel
theorem dX2_work_125 : decode cX2_work 125 = .ok (.iload_n 2, 1) := by decide +kernel
theorem dX2_work_126 : decode cX2_work 126 = .ok (.i2l, 1) := by decide +kernel
theorem dX2_work_127 : decode cX2_work 127 = .ok (.iload 5, 2) := by decide +kernel
theorem dX2_work_129 : decode cX2_work 129 = .ok (.i2l, 1) := by decide +kernel
theorem dX2_work_130 : decode cX2_work 130 = .ok (.lmul, 1) := by decide +kernel
theorem dX2_work_131 : decode cX2_work 131 = .ok (.iload_n 3, 1) := by decide +kernel
theorem dX2_work_132 : decode cX2_work 132 = .ok (.i2l, 1) := by decide +kernel
theorem dX2_work_133 : decode cX2_work 133 = .ok (.iload 4, 2) := by decide +kernel
theorem dX2_work_135 : decode cX2_work 135 = .ok (.i2l, 1) := by decide +kernel
theorem dX2_work_136 : decode cX2_work 136 = .ok (.lmul, 1) := by decide +kernel
theorem dX2_work_137 : decode cX2_work 137 = .ok (.iload_n 3, 1) := by decide +kernel
theorem dX2_work_138 : decode cX2_work 138 = .ok (.i2l, 1) := by decide +kernel
theorem dX2_work_139 : decode cX2_work 139 = .ok (.iload 5, 2) := by decide +kernel
theorem dX2_work_141 : decode cX2_work 141 = .ok (.i2l, 1) := by decide +kernel
theorem dX2_work_142 : decode cX2_work 142 = .ok (.lmul, 1) := by decide +kernel
theorem dX2_work_143 : decode cX2_work 143 = .ok (.invokevirtual 72, 3) := by decide +kernel
theorem dX2_work_146 : decode cX2_work 146 = .ok (.ireturn, 1) := by decide +kernel
theorem dX2_work_147 : decode cX2_work 147 = .ok (.aload_n 0, 1) := by decide +kernel
theorem dX2_work_148 : decode cX2_work 148 = .ok (.iload_n 2, 1) := by decide +kernel
theorem dX2_work_149 : decode cX2_work 149 = .ok (.iload_n 3, 1) := by decide +kernel
theorem dX2_work_150 : decode cX2_work 150 = .ok (.iload 4, 2) := by decide +kernel
theorem dX2_work_152 : decode cX2_work 152 = .ok (.iload 5, 2) := by decide +kernel
theorem dX2_work_154 : decode cX2_work 154 = .ok (.invokevirtual 76, 3) := by decide +kernel
theorem dX2_work_157 : decode cX2_work 157 = .ok (.ireturn, 1) := by decide +kernel
theorem dX2_work_158 : decode cX2_work 158 = .ok (.aload_n 0, 1) := by decide +kernel
theorem dX2_work_159 : decode cX2_work 159 = .ok (.iload_n 2, 1) := by decide +kernel
theorem dX2_work_160 : decode cX2_work 160 = .ok (.iload_n 3, 1) := by decide +kernel
theorem dX2_work_161 : decode cX2_work 161 = .ok (.iload 4, 2) := by decide +kernel
theorem dX2_work_163 : decode cX2_work 163 = .ok (.i2l, 1) := by decide +kernel
theorem dX2_work_164 : decode cX2_work 164 = .ok (.iload 5, 2) := by decide +kernel
theorem dX2_work_166 : decode cX2_work 166 = .ok (.i2l, 1) := by decide +kernel
theorem dX2_work_167 : decode cX2_work 167 = .ok (.invokevirtual 80, 3) := by decide +kernel
theorem dX2_work_170 : decode cX2_work 170 = .ok (.ireturn, 1) := by decide +kernel
theorem dX2_work_171 : decode cX2_work 171 = .ok (.iload_n 2, 1) := by decide +kernel
theorem dX2_work_172 : decode cX2_work 172 = .ok (.ifCond .ge 13, 3) := by decide +kernel
theorem dX2_work_175 : decode cX2_work 175 = .ok (.iload 4, 2) := by decide +kernel
theorem dX2_work_177 : decode cX2_work 177 = .ok (.ifCond .ge 8, 3) := by decide +kernel
theorem dX2_work_180 : decode cX2_work 180 = .ok (.aload_n 0, 1) := by decide +kernel
theorem dX2_work_181 : decode cX2_work 181 = .ok (.invokevirtual 84, 3) := by decide +kernel
theorem dX2_work_184 : decode cX2_work 184 = .ok (.ireturn, 1) := by decide +kernel
theorem dX2_work_185 : decode cX2_work 185 = .ok (.aload_n 0, 1) := by decide +kernel
theorem dX2_work_186 : decode cX2_work 186 = .ok (.lconst 0, 1) := by decide +kernel
theorem dX2_work_187 : decode cX2_work 187 = .ok (.iload_n 2, 1) := by decide +kernel
theorem dX2_work_188 : decode cX2_work 188 = .ok (.ifCond .ge 9, 3) := by decide +kernel
theorem dX2_work_191 : decode cX2_work 191 = .ok (.iload 5, 2) := by decide +kernel
theorem dX2_work_193 : decode cX2_work 193 = .ok (.i2l, 1) := by decide +kernel
theorem dX2_work_194 : decode cX2_work 194 = .ok (.goto 20, 3) := by decide +kernel
theorem dX2_work_197 : decode cX2_work 197 = .ok (.iload 4, 2) := by decide +kernel
theorem dX2_work_199 : decode cX2_work 199 = .ok (.ifCond .ge 8, 3) := by decide +kernel
theorem dX2_work_202 : decode cX2_work 202 = .ok (.iload_n 3, 1) := by decide +kernel
theorem dX2_work_203 : decode cX2_work 203 = .ok (.i2l, 1) := by decide +kernel
theorem dX2_work_204 : decode cX2_work 204 = .ok (.goto 10, 3) := by decide +kernel
theorem dX2_work_207 : decode cX2_work 207 = .ok (.iload_n 3, 1) := by decide +kernel
theorem dX2_work_208 : decode cX2_work 208 = .ok (.iload 5, 2) := by decide +kernel
theorem dX2_work_210 : decode cX2_work 210 = .ok (.invokestatic 43, 3) := by decide +kernel
theorem dX2_work_213 : decode cX2_work 213 = .ok (.i2l, 1) := by decide +kernel
theorem dX2_work_214 : decode cX2_work 214 = .ok (.invokevirtual 59, 3) := by decide +kernel
theorem dX2_work_217 : decode cX2_work 217 = .ok (.ireturn, 1) := by decide +kernel
theorem dX2_work_218 : decode cX2_work 218 = .ok (.iload_n 2, 1) := by decide +kernel
theorem dX2_work_219 : decode cX2_work 219 = .ok (.ifCond .lt 8, 3) := by decide +kernel
theorem dX2_work_222 : decode cX2_work 222 = .ok (.iload 4, 2) := by decide +kernel
theorem dX2_work_224 : decode cX2_work 224 = .ok (.ifCond .ge 8, 3) := by decide +kernel
theorem dX2_work_227 : decode cX2_work 227 = .ok (.aload_n 0, 1) := by decide +kernel
theorem dX2_work_228 : decode cX2_work 228 = .ok (.invokevirtual 84, 3) := by decide +kernel
theorem dX2_work_231 : decode cX2_work 231 = .ok (.ireturn, 1) := by decide +kernel
theorem dX2_work_232 : decode cX2_work 232 = .ok (.aload_n 0, 1) := by decide +kernel
theorem dX2_work_233 : decode cX2_work 233 = .ok (.lconst 0, 1) := by decide +kernel
theorem dX2_work_234 : decode cX2_work 234 = .ok (.iload_n 3, 1) := by decide +kernel
theorem dX2_work_235 : decode cX2_work 235 = .ok (.iload 5, 2) := by decide +kernel
theorem dX2_work_237 : decode cX2_work 237 = .ok (.invokestatic 36, 3) := by decide +kernel
theorem dX2_work_240 : decode cX2_work 240 = .ok (.invokestatic 88, 3) := by decide +kernel
theorem dX2_work_243 : decode cX2_work 243 = .ok (.invokevirtual 59, 3) := by decide +kernel
theorem dX2_work_246 : decode cX2_work 246 = .ok (.ireturn, 1) := by decide +kernel
theorem dX2_work_247 : decode cX2_work 247 = .ok (.iload 4, 2) := by decide +kernel
theorem dX2_work_249 : decode cX2_work 249 = .ok (.iload 5, 2) := by decide +kernel
theorem dX2_work_251 : decode cX2_work 251 = .ok (.if_icmp .eq 8, 3) := by decide +kernel
theorem dX2_work_254 : decode cX2_work 254 = .ok (.aload_n 0, 1) := by decide +kernel
theorem dX2_work_255 : decode cX2_work 255 = .ok (.invokevirtual 84, 3) := by decide +kernel
theorem dX2_work_258 : decode cX2_work 258 = .ok (.ireturn, 1) := by decide +kernel
theorem dX2_work_259 : decode cX2_work 259 = .ok (.lconst 1, 1) := by decide +kernel
theorem dX2_work_260 : decode cX2_work 260 = .ok (.iload 4, 2) := by decide +kernel
theorem dX2_work_262 : decode cX2_work 262 = .ok (.bipush 31, 2) := by decide +kernel
theorem dX2_work_264 : decode cX2_work 264 = .ok (.iand, 1) := by decide +kernel
theorem dX2_work_265 : decode cX2_work 265 = .ok (.lshl, 1) := by decide +kernel
theorem dX2_work_266 : decode cX2_work 266 = .ok (.lstore 6, 2) := by decide +kernel
theorem dX2_work_268 : decode cX2_work 268 = .ok (.aload_n 0, 1) := by decide +kernel
theorem dX2_work_269 : decode cX2_work 269 = .ok (.iload_n 2, 1) := by decide +kernel
theorem dX2_work_270 : decode cX2_work 270 = .ok (.i2l, 1) := by decide +kernel
theorem dX2_work_271 : decode cX2_work 271 = .ok (.lload 6, 2) := by decide +kernel
theorem dX2_work_273 : decode cX2_work 273 = .ok (.lmul, 1) := by decide +kernel
theorem dX2_work_274 : decode cX2_work 274 = .ok (.iload_n 3, 1) := by decide +kernel
theorem dX2_work_275 : decode cX2_work 275 = .ok (.i2l, 1) := by decide +kernel
theorem dX2_work_276 : decode cX2_work 276 = .ok (.lload 6, 2) := by decide +kernel
theorem dX2_work_278 : decode cX2_work 278 = .ok (.lmul, 1) := by decide +kernel
theorem dX2_work_279 : decode cX2_work 279 = .ok (.invokevirtual 59, 3) := by decide +kernel
theorem dX2_work_282 : decode cX2_work 282 = .ok (.ireturn, 1) := by decide +kernel
theorem dX2_work_283 : decode cX2_work 283 = .ok (.iload 4, 2) := by decide +kernel
theorem dX2_work_285 : decode cX2_work 285 = .ok (.iload 5, 2) := by decide +kernel
theorem dX2_work_287 : decode cX2_work 287 = .ok (.if_icmp .ne 24, 3) := by decide +kernel
theorem dX2_work_290 : decode cX2_work 290 = .ok (.aload_n 0, 1) := by decide +kernel
theorem dX2_work_291 : decode cX2_work 291 = .ok (.iload_n 2, 1) := by decide +kernel
theorem dX2_work_292 : decode cX2_work 292 = .ok (.iload 4, 2) := by decide +kernel
theorem dX2_work_294 : decode cX2_work 294 = .ok (.bipush 31, 2) := by decide +kernel
theorem dX2_work_296 : decode cX2_work 296 = .ok (.iand, 1) := by decide +kernel
theorem dX2_work_297 : decode cX2_work 297 = .ok (.ishr, 1) := by decide +kernel
theorem dX2_work_298 : decode cX2_work 298 = .ok (.i2l, 1) := by decide +kernel
theorem dX2_work_299 : decode cX2_work 299 = .ok (.iload_n 3, 1) := by decide +kernel
theorem dX2_work_300 : decode cX2_work 300 = .ok (.iload 4, 2) := by decide +kernel
theorem dX2_work_302 : decode cX2_work 302 = .ok (.bipush 31, 2) := by decide +kernel
theorem dX2_work_304 : decode cX2_work 304 = .ok (.iand, 1) := by decide +kernel
theorem dX2_work_305 : decode cX2_work 305 = .ok (.ishr, 1) := by decide +kernel
theorem dX2_work_306 : decode cX2_work 306 = .ok (.i2l, 1) := by decide +kernel
theorem dX2_work_307 : decode cX2_work 307 = .ok (.invokevirtual 59, 3) := by decide +kernel
theorem dX2_work_310 : decode cX2_work 310 = .ok (.ireturn, 1) := by decide +kernel
theorem dX2_work_311 : decode cX2_work 311 = .ok (.aload_n 0, 1) := by decide +kernel
theorem dX2_work_312 : decode cX2_work 312 = .ok (.iload_n 2, 1) := by decide +kernel
theorem dX2_work_313 : decode cX2_work 313 = .ok (.iconst 0, 1) := by decide +kernel
theorem dX2_work_314 : decode cX2_work 314 = .ok (.invokestatic 43, 3) := by decide +kernel
theorem dX2_work_317 : decode cX2_work 317 = .ok (.i2l, 1) := by decide +kernel
theorem dX2_work_318 : decode cX2_work 318 = .ok (.iload_n 3, 1) := by decide +kernel
theorem dX2_work_319 : decode cX2_work 319 = .ok (.iconst (-1), 1) := by decide +kernel
theorem dX2_work_320 : decode cX2_work 320 = .ok (.invokestatic 36, 3) := by decide +kernel
theorem dX2_work_323 : decode cX2_work 323 = .ok (.i2l, 1) := by decide +kernel
theorem dX2_work_324 : decode cX2_work 324 = .ok (.invokevirtual 59, 3) := by decide +kernel
theorem dX2_work_327 : decode cX2_work 327 = .ok (.ireturn, 1) := by decide +kernel
theorem dX2_ones_0 : decode cX2_ones 0 = .ok (.lconst 0, 1) := by decide +kernel
theorem dX2_ones_1 : decode cX2_ones 1 = .ok (.lstore_n 1, 1) := by decide +kernel
theorem dX2_ones_2 : decode cX2_ones 2 = .ok (.lload_n 1, 1) := by decide +kernel
theorem dX2_ones_3 : decode cX2_ones 3 = .ok (.iload_n 0, 1) := by decide +kernel
theorem dX2_ones_4 : decode cX2_ones 4 = .ok (.i2l, 1) := by decide +kernel
theorem dX2_ones_5 : decode cX2_ones 5 = .ok (.lcmp, 1) := by decide +kernel
theorem dX2_ones_6 : decode cX2_ones 6 = .ok (.ifCond .ge 14, 3) := by decide +kernel
theorem dX2_ones_9 : decode cX2_ones 9 = .ok (.ldc2_w 92, 3) := by decide +kernel
theorem dX2_ones_12 : decode cX2_ones 12 = .ok (.lload_n 1, 1) := by decide +kernel
theorem dX2_ones_13 : decode cX2_ones 13 = .ok (.lmul, 1) := by decide +kernel
theorem dX2_ones_14 : decode cX2_ones 14 = .ok (.lconst 1, 1) := by decide +kernel
theorem dX2_ones_15 : decode cX2_ones 15 = .ok (.ladd, 1) := by decide +kernel
theorem dX2_ones_16 : decode cX2_ones 16 = .ok (.lstore_n 1, 1) := by decide +kernel
theorem dX2_ones_17 : decode cX2_ones 17 = .ok (.goto (-15), 3) := by decide +kernel
theorem dX2_ones_20 : decode cX2_ones 20 = .ok (.lload_n 1, 1) := by decide +kernel
theorem dX2_ones_21 : decode cX2_ones 21 = .ok (.lreturn, 1) := by decide +kernel
set_option maxRecDepth 20000 in
theorem ggX2_quotient_X2_tell : GoodIn wsX2_quotient wsX2_tell := goodIn_r _ [14, 15, 16, 17, 18, 19, 20, 21, 22, 23, 13, 24, 25, 26, 27, 28, 5, 29, 30, 31, 32, 33, 34, 35, 36, 37, 38, 39, 40, 41] (by decide +kernel) (by decide +kernel)
set_option maxRecDepth 20000 in
theorem gX2_quotient_X2_tell : GoodIn wsX2_quotient (wsV RX2 59 RX2 yX2_tell wsX2_tell) := goodIn_app (goodIn_of _ (by decide +kernel)) ggX2_quotient_X2_tell
theorem dX2_quotient_0 : decode cX2_quotient 0 = .ok (.ldc2_w 96, 3) := by decide +kernel
theorem dX2_quotient_3 : decode cX2_quotient 3 = .ok (.lstore 5, 2) := by decide +kernel
theorem dX2_quotient_5 : decode cX2_quotient 5 = .ok (.ldc2_w 98, 3) := by decide +kernel
theorem dX2_quotient_8 : decode cX2_quotient 8 = .ok (.lstore 7, 2) := by decide +kernel
theorem dX2_quotient_10 : decode cX2_quotient 10 = .ok (.iconst 0, 1) := by decide +kernel
theorem dX2_quotient_11 : decode cX2_quotient 11 = .ok (.istore 9, 2) := by decide +kernel
theorem dX2_quotient_13 : decode cX2_quotient 13 = .ok (.iload 9, 2) := by decide +kernel
theorem dX2_quotient_15 : decode cX2_quotient 15 = .ok (.iconst 4, 1) := by decide +kernel
theorem dX2_quotient_16 : decode cX2_quotient 16 = .ok (.if_icmp .ge 108, 3) := by decide +kernel
theorem dX2_quotient_19 : decode cX2_quotient 19 = .ok (.iload 9, 2) := by decide +kernel
theorem dX2_quotient_21 : decode cX2_quotient 21 = .ok (.iconst 2, 1) := by decide +kernel
theorem dX2_quotient_22 : decode cX2_quotient 22 = .ok (.if_icmp .ge 13, 3) := by decide +kernel
theorem dX2_quotient_25 : decode cX2_quotient 25 = .ok (.iconst 2, 1) := by decide +kernel
theorem dX2_quotient_26 : decode cX2_quotient 26 = .ok (.iload 9, 2) := by decide +kernel
theorem dX2_quotient_28 : decode cX2_quotient 28 = .ok (.imul, 1) := by decide +kernel
theorem dX2_quotient_29 : decode cX2_quotient 29 = .ok (.iconst 1, 1) := by decide +kernel
theorem dX2_quotient_30 : decode cX2_quotient 30 = .ok (.isub, 1) := by decide +kernel
theorem dX2_quotient_31 : decode cX2_quotient 31 = .ok (.i2l, 1) := by decide +kernel
theorem dX2_quotient_32 : decode cX2_quotient 32 = .ok (.goto 17, 3) := by decide +kernel
theorem dX2_quotient_35 : decode cX2_quotient 35 = .ok (.iload 9, 2) := by decide +kernel
theorem dX2_quotient_37 : decode cX2_quotient 37 = .ok (.iconst 2, 1) := by decide +kernel
theorem dX2_quotient_38 : decode cX2_quotient 38 = .ok (.if_icmp .ne 8, 3) := by decide +kernel
theorem dX2_quotient_41 : decode cX2_quotient 41 = .ok (.iload_n 3, 1) := by decide +kernel
theorem dX2_quotient_42 : decode cX2_quotient 42 = .ok (.i2l, 1) := by decide +kernel
theorem dX2_quotient_43 : decode cX2_quotient 43 = .ok (.goto 6, 3) := by decide +kernel
theorem dX2_quotient_46 : decode cX2_quotient 46 = .ok (.iload 4, 2) := by decide +kernel
theorem dX2_quotient_48 : decode cX2_quotient 48 = .ok (.i2l, 1) := by decide +kernel
theorem dX2_quotient_49 : decode cX2_quotient 49 = .ok (.lstore 10, 2) := by decide +kernel
theorem dX2_quotient_51 : decode cX2_quotient 51 = .ok (.lload 10, 2) := by decide +kernel
theorem dX2_quotient_53 : decode cX2_quotient 53 = .ok (.lconst 0, 1) := by decide +kernel
theorem dX2_quotient_54 : decode cX2_quotient 54 = .ok (.lcmp, 1) := by decide +kernel
theorem dX2_quotient_55 : decode cX2_quotient 55 = .ok (.ifCond .eq 63, 3) := by decide +kernel
theorem dX2_quotient_58 : decode cX2_quotient 58 = .ok (.lload 10, 2) := by decide +kernel
theorem dX2_quotient_60 : decode cX2_quotient 60 = .ok (.iload_n 3, 1) := by decide +kernel
theorem dX2_quotient_61 : decode cX2_quotient 61 = .ok (.i2l, 1) := by decide +kernel
theorem dX2_quotient_62 : decode cX2_quotient 62 = .ok (.lcmp, 1) := by decide +kernel
theorem dX2_quotient_63 : decode cX2_quotient 63 = .ok (.ifCond .lt 55, 3) := by decide +kernel
theorem dX2_quotient_66 : decode cX2_quotient 66 = .ok (.lload 10, 2) := by decide +kernel
theorem dX2_quotient_68 : decode cX2_quotient 68 = .ok (.iload 4, 2) := by decide +kernel
theorem dX2_quotient_70 : decode cX2_quotient 70 = .ok (.i2l, 1) := by decide +kernel
theorem dX2_quotient_71 : decode cX2_quotient 71 = .ok (.lcmp, 1) := by decide +kernel
theorem dX2_quotient_72 : decode cX2_quotient 72 = .ok (.ifCond .le 6, 3) := by decide +kernel
theorem dX2_quotient_75 : decode cX2_quotient 75 = .ok (.goto 43, 3) := by decide +kernel
theorem dX2_quotient_78 : decode cX2_quotient 78 = .ok (.lload 5, 2) := by decide +kernel
theorem dX2_quotient_80 : decode cX2_quotient 80 = .ok (.iload_n 1, 1) := by decide +kernel
theorem dX2_quotient_81 : decode cX2_quotient 81 = .ok (.i2l, 1) := by decide +kernel
theorem dX2_quotient_82 : decode cX2_quotient 82 = .ok (.lload 10, 2) := by decide +kernel
theorem dX2_quotient_84 : decode cX2_quotient 84 = .ok (.ldiv, 1) := by decide +kernel
theorem dX2_quotient_85 : decode cX2_quotient 85 = .ok (.iload_n 2, 1) := by decide +kernel
theorem dX2_quotient_86 : decode cX2_quotient 86 = .ok (.i2l, 1) := by decide +kernel
theorem dX2_quotient_87 : decode cX2_quotient 87 = .ok (.lload 10, 2) := by decide +kernel
theorem dX2_quotient_89 : decode cX2_quotient 89 = .ok (.ldiv, 1) := by decide +kernel
theorem dX2_quotient_90 : decode cX2_quotient 90 = .ok (.invokestatic 63, 3) := by decide +kernel
theorem dX2_quotient_93 : decode cX2_quotient 93 = .ok (.invokestatic 63, 3) := by decide +kernel
theorem dX2_quotient_96 : decode cX2_quotient 96 = .ok (.lstore 5, 2) := by decide +kernel
theorem dX2_quotient_98 : decode cX2_quotient 98 = .ok (.lload 7, 2) := by decide +kernel
theorem dX2_quotient_100 : decode cX2_quotient 100 = .ok (.iload_n 1, 1) := by decide +kernel
theorem dX2_quotient_101 : decode cX2_quotient 101 = .ok (.i2l, 1) := by decide +kernel
theorem dX2_quotient_102 : decode cX2_quotient 102 = .ok (.lload 10, 2) := by decide +kernel
theorem dX2_quotient_104 : decode cX2_quotient 104 = .ok (.ldiv, 1) := by decide +kernel
theorem dX2_quotient_105 : decode cX2_quotient 105 = .ok (.iload_n 2, 1) := by decide +kernel
theorem dX2_quotient_106 : decode cX2_quotient 106 = .ok (.i2l, 1) := by decide +kernel
theorem dX2_quotient_107 : decode cX2_quotient 107 = .ok (.lload 10, 2) := by decide +kernel
theorem dX2_quotient_109 : decode cX2_quotient 109 = .ok (.ldiv, 1) := by decide +kernel
theorem dX2_quotient_110 : decode cX2_quotient 110 = .ok (.invokestatic 66, 3) := by decide +kernel
theorem dX2_quotient_113 : decode cX2_quotient 113 = .ok (.invokestatic 66, 3) := by decide +kernel
theorem dX2_quotient_116 : decode cX2_quotient 116 = .ok (.lstore 7, 2) := by decide +kernel
theorem dX2_quotient_118 : decode cX2_quotient 118 = .ok (.iinc 9 1, 3) := by decide +kernel
theorem dX2_quotient_121 : decode cX2_quotient 121 = .ok (.goto (-108), 3) := by decide +kernel
theorem dX2_quotient_124 : decode cX2_quotient 124 = .ok (.lload 5, 2) := by decide +kernel
theorem dX2_quotient_126 : decode cX2_quotient 126 = .ok (.lload 7, 2) := by decide +kernel
theorem dX2_quotient_128 : decode cX2_quotient 128 = .ok (.lcmp, 1) := by decide +kernel
theorem dX2_quotient_129 : decode cX2_quotient 129 = .ok (.ifCond .le 7, 3) := by decide +kernel
theorem dX2_quotient_132 : decode cX2_quotient 132 = .ok (.iconst 0, 1) := by decide +kernel
theorem dX2_quotient_133 : decode cX2_quotient 133 = .ok (.goto 11, 3) := by decide +kernel
theorem dX2_quotient_136 : decode cX2_quotient 136 = .ok (.aload_n 0, 1) := by decide +kernel
theorem dX2_quotient_137 : decode cX2_quotient 137 = .ok (.lload 5, 2) := by decide +kernel
theorem dX2_quotient_139 : decode cX2_quotient 139 = .ok (.lload 7, 2) := by decide +kernel
theorem dX2_quotient_141 : decode cX2_quotient 141 = .ok (.invokevirtual 59, 3) := by decide +kernel
theorem dX2_quotient_144 : decode cX2_quotient 144 = .ok (.ireturn, 1) := by decide +kernel
set_option maxRecDepth 20000 in
theorem ggX2_rest_X2_tell : GoodIn wsX2_rest wsX2_tell := goodIn_r _ [15, 16, 17, 18, 19, 20, 21, 22, 23, 24, 14, 25, 26, 27, 28, 29, 3, 30, 31, 32, 33, 34, 35, 36, 37, 38, 39, 40, 41, 42] (by decide +kernel) (by decide +kernel)
set_option maxRecDepth 20000 in
theorem gX2_rest_X2_tell : GoodIn wsX2_rest (wsV RX2 59 RX2 yX2_tell wsX2_tell) := goodIn_app (goodIn_of _ (by decide +kernel)) ggX2_rest_X2_tell
theorem dX2_rest_0 : decode cX2_rest 0 = .ok (.lload_n 3, 1) := by decide +kernel
theorem dX2_rest_1 : decode cX2_rest 1 = .ok (.lconst 0, 1) := by decide +kernel
theorem dX2_rest_2 : decode cX2_rest 2 = .ok (.lcmp, 1) := by decide +kernel
theorem dX2_rest_3 : decode cX2_rest 3 = .ok (.ifCond .ne 12, 3) := by decide +kernel
theorem dX2_rest_6 : decode cX2_rest 6 = .ok (.lload 5, 2) := by decide +kernel
theorem dX2_rest_8 : decode cX2_rest 8 = .ok (.lconst 0, 1) := by decide +kernel
theorem dX2_rest_9 : decode cX2_rest 9 = .ok (.lcmp, 1) := by decide +kernel
theorem dX2_rest_10 : decode cX2_rest 10 = .ok (.ifCond .ne 5, 3) := by decide +kernel
theorem dX2_rest_13 : decode cX2_rest 13 = .ok (.iconst 0, 1) := by decide +kernel
theorem dX2_rest_14 : decode cX2_rest 14 = .ok (.ireturn, 1) := by decide +kernel
theorem dX2_rest_15 : decode cX2_rest 15 = .ok (.lload_n 3, 1) := by decide +kernel
theorem dX2_rest_16 : decode cX2_rest 16 = .ok (.invokestatic 100, 3) := by decide +kernel
theorem dX2_rest_19 : decode cX2_rest 19 = .ok (.lload 5, 2) := by decide +kernel
theorem dX2_rest_21 : decode cX2_rest 21 = .ok (.invokestatic 100, 3) := by decide +kernel
theorem dX2_rest_24 : decode cX2_rest 24 = .ok (.invokestatic 66, 3) := by decide +kernel
theorem dX2_rest_27 : decode cX2_rest 27 = .ok (.lconst 1, 1) := by decide +kernel
theorem dX2_rest_28 : decode cX2_rest 28 = .ok (.lsub, 1) := by decide +kernel
theorem dX2_rest_29 : decode cX2_rest 29 = .ok (.lstore 7, 2) := by decide +kernel
theorem dX2_rest_31 : decode cX2_rest 31 = .ok (.iload_n 1, 1) := by decide +kernel
theorem dX2_rest_32 : decode cX2_rest 32 = .ok (.ifCond .lt 16, 3) := by decide +kernel
theorem dX2_rest_35 : decode cX2_rest 35 = .ok (.aload_n 0, 1) := by decide +kernel
theorem dX2_rest_36 : decode cX2_rest 36 = .ok (.lconst 0, 1) := by decide +kernel
theorem dX2_rest_37 : decode cX2_rest 37 = .ok (.iload_n 2, 1) := by decide +kernel
theorem dX2_rest_38 : decode cX2_rest 38 = .ok (.i2l, 1) := by decide +kernel
theorem dX2_rest_39 : decode cX2_rest 39 = .ok (.lload 7, 2) := by decide +kernel
theorem dX2_rest_41 : decode cX2_rest 41 = .ok (.invokestatic 63, 3) := by decide +kernel
theorem dX2_rest_44 : decode cX2_rest 44 = .ok (.invokevirtual 59, 3) := by decide +kernel
theorem dX2_rest_47 : decode cX2_rest 47 = .ok (.ireturn, 1) := by decide +kernel
theorem dX2_rest_48 : decode cX2_rest 48 = .ok (.aload_n 0, 1) := by decide +kernel
theorem dX2_rest_49 : decode cX2_rest 49 = .ok (.iload_n 1, 1) := by decide +kernel
theorem dX2_rest_50 : decode cX2_rest 50 = .ok (.i2l, 1) := by decide +kernel
theorem dX2_rest_51 : decode cX2_rest 51 = .ok (.lload 7, 2) := by decide +kernel
theorem dX2_rest_53 : decode cX2_rest 53 = .ok (.lneg, 1) := by decide +kernel
theorem dX2_rest_54 : decode cX2_rest 54 = .ok (.invokestatic 66, 3) := by decide +kernel
theorem dX2_rest_57 : decode cX2_rest 57 = .ok (.iload_n 2, 1) := by decide +kernel
theorem dX2_rest_58 : decode cX2_rest 58 = .ok (.ifCond .gt 7, 3) := by decide +kernel
theorem dX2_rest_61 : decode cX2_rest 61 = .ok (.lconst 0, 1) := by decide +kernel
theorem dX2_rest_62 : decode cX2_rest 62 = .ok (.goto 10, 3) := by decide +kernel
theorem dX2_rest_65 : decode cX2_rest 65 = .ok (.iload_n 2, 1) := by decide +kernel
theorem dX2_rest_66 : decode cX2_rest 66 = .ok (.i2l, 1) := by decide +kernel
theorem dX2_rest_67 : decode cX2_rest 67 = .ok (.lload 7, 2) := by decide +kernel
theorem dX2_rest_69 : decode cX2_rest 69 = .ok (.invokestatic 63, 3) := by decide +kernel
theorem dX2_rest_72 : decode cX2_rest 72 = .ok (.invokevirtual 59, 3) := by decide +kernel
theorem dX2_rest_75 : decode cX2_rest 75 = .ok (.ireturn, 1) := by decide +kernel
theorem dX2_low_0 : decode cX2_low 0 = .ok (.aload_n 0, 1) := by decide +kernel
theorem dX2_low_1 : decode cX2_low 1 = .ok (.getfield 53, 3) := by decide +kernel
theorem dX2_low_4 : decode cX2_low 4 = .ok (.ireturn, 1) := by decide +kernel
theorem dX2_high_0 : decode cX2_high 0 = .ok (.aload_n 0, 1) := by decide +kernel
theorem dX2_high_1 : decode cX2_high 1 = .ok (.getfield 56, 3) := by decide +kernel
theorem dX2_high_4 : decode cX2_high 4 = .ok (.ireturn, 1) := by decide +kernel
theorem dJ9_abs_067f4_0 : decode cJ9_abs_067f4 0 = .ok (.lload_n 0, 1) := by decide +kernel
theorem dJ9_abs_067f4_1 : decode cJ9_abs_067f4 1 = .ok (.lconst 0, 1) := by decide +kernel
theorem dJ9_abs_067f4_2 : decode cJ9_abs_067f4 2 = .ok (.lcmp, 1) := by decide +kernel
theorem dJ9_abs_067f4_3 : decode cJ9_abs_067f4 3 = .ok (.ifCond .ge 8, 3) := by decide +kernel
theorem dJ9_abs_067f4_6 : decode cJ9_abs_067f4 6 = .ok (.lload_n 0, 1) := by decide +kernel
theorem dJ9_abs_067f4_7 : decode cJ9_abs_067f4 7 = .ok (.lneg, 1) := by decide +kernel
theorem dJ9_abs_067f4_8 : decode cJ9_abs_067f4 8 = .ok (.goto 4, 3) := by decide +kernel
theorem dJ9_abs_067f4_11 : decode cJ9_abs_067f4 11 = .ok (.lload_n 0, 1) := by decide +kernel
theorem dJ9_abs_067f4_12 : decode cJ9_abs_067f4 12 = .ok (.lreturn, 1) := by decide +kernel
theorem dJ9_max_7cf53_0 : decode cJ9_max_7cf53 0 = .ok (.iload_n 0, 1) := by decide +kernel
theorem dJ9_max_7cf53_1 : decode cJ9_max_7cf53 1 = .ok (.iload_n 1, 1) := by decide +kernel
theorem dJ9_max_7cf53_2 : decode cJ9_max_7cf53 2 = .ok (.if_icmp .lt 7, 3) := by decide +kernel
theorem dJ9_max_7cf53_5 : decode cJ9_max_7cf53 5 = .ok (.iload_n 0, 1) := by decide +kernel
theorem dJ9_max_7cf53_6 : decode cJ9_max_7cf53 6 = .ok (.goto 4, 3) := by decide +kernel
theorem dJ9_max_7cf53_9 : decode cJ9_max_7cf53 9 = .ok (.iload_n 1, 1) := by decide +kernel
theorem dJ9_max_7cf53_10 : decode cJ9_max_7cf53 10 = .ok (.ireturn, 1) := by decide +kernel
theorem dJ9_max_f86c9_0 : decode cJ9_max_f86c9 0 = .ok (.lload_n 0, 1) := by decide +kernel
theorem dJ9_max_f86c9_1 : decode cJ9_max_f86c9 1 = .ok (.lload_n 2, 1) := by decide +kernel
theorem dJ9_max_f86c9_2 : decode cJ9_max_f86c9 2 = .ok (.lcmp, 1) := by decide +kernel
theorem dJ9_max_f86c9_3 : decode cJ9_max_f86c9 3 = .ok (.ifCond .lt 7, 3) := by decide +kernel
theorem dJ9_max_f86c9_6 : decode cJ9_max_f86c9 6 = .ok (.lload_n 0, 1) := by decide +kernel
theorem dJ9_max_f86c9_7 : decode cJ9_max_f86c9 7 = .ok (.goto 4, 3) := by decide +kernel
theorem dJ9_max_f86c9_10 : decode cJ9_max_f86c9 10 = .ok (.lload_n 2, 1) := by decide +kernel
theorem dJ9_max_f86c9_11 : decode cJ9_max_f86c9 11 = .ok (.lreturn, 1) := by decide +kernel
theorem dJ9_min_7cf53_0 : decode cJ9_min_7cf53 0 = .ok (.iload_n 0, 1) := by decide +kernel
theorem dJ9_min_7cf53_1 : decode cJ9_min_7cf53 1 = .ok (.iload_n 1, 1) := by decide +kernel
theorem dJ9_min_7cf53_2 : decode cJ9_min_7cf53 2 = .ok (.if_icmp .gt 7, 3) := by decide +kernel
theorem dJ9_min_7cf53_5 : decode cJ9_min_7cf53 5 = .ok (.iload_n 0, 1) := by decide +kernel
theorem dJ9_min_7cf53_6 : decode cJ9_min_7cf53 6 = .ok (.goto 4, 3) := by decide +kernel
theorem dJ9_min_7cf53_9 : decode cJ9_min_7cf53 9 = .ok (.iload_n 1, 1) := by decide +kernel
theorem dJ9_min_7cf53_10 : decode cJ9_min_7cf53 10 = .ok (.ireturn, 1) := by decide +kernel
theorem dJ9_min_f86c9_0 : decode cJ9_min_f86c9 0 = .ok (.lload_n 0, 1) := by decide +kernel
theorem dJ9_min_f86c9_1 : decode cJ9_min_f86c9 1 = .ok (.lload_n 2, 1) := by decide +kernel
theorem dJ9_min_f86c9_2 : decode cJ9_min_f86c9 2 = .ok (.lcmp, 1) := by decide +kernel
theorem dJ9_min_f86c9_3 : decode cJ9_min_f86c9 3 = .ok (.ifCond .gt 7, 3) := by decide +kernel
theorem dJ9_min_f86c9_6 : decode cJ9_min_f86c9 6 = .ok (.lload_n 0, 1) := by decide +kernel
theorem dJ9_min_f86c9_7 : decode cJ9_min_f86c9 7 = .ok (.goto 4, 3) := by decide +kernel
theorem dJ9_min_f86c9_10 : decode cJ9_min_f86c9 10 = .ok (.lload_n 2, 1) := by decide +kernel
theorem dJ9_min_f86c9_11 : decode cJ9_min_f86c9 11 = .ok (.lreturn, 1) := by decide +kernel
end
section
set_option maxRecDepth 20000 in
theorem ggL_law_X1_init : GoodIn wsL_law wsX1_init := goodIn_r _ [8, 9, 10, 11, 12, 13, 14, 15, 16, 17, 18, 19, 20, 21, 22, 23, 24, 25, 26, 27, 28, 29, 252, 253, 254, 255, 256, 257, 263, 264] (by decide +kernel) (by decide +kernel)
set_option maxRecDepth 20000 in
theorem gL_law_X1_init : GoodIn wsL_law (wsX1_init) := ggL_law_X1_init
set_option maxRecDepth 20000 in
theorem ggL_law_X2_init : GoodIn wsL_law wsX2_init := goodIn_r _ [32, 33, 10, 11, 13, 34, 35, 36, 37, 5, 38, 39, 40, 41, 42, 43, 44, 45, 46, 47, 48, 258, 259, 260, 261, 262] (by decide +kernel) (by decide +kernel)
set_option maxRecDepth 20000 in
theorem gL_law_X2_init : GoodIn wsL_law (wsX2_init) := ggL_law_X2_init
set_option maxRecDepth 20000 in
theorem ggL_law_X1_around : GoodIn wsL_law wsX1_around := goodIn_r _ [52, 20, 53, 54, 19, 55, 56, 57, 2, 58, 14, 59, 60, 61, 62, 63, 64, 65, 66, 252, 253, 254, 255, 256, 257] (by decide +kernel) (by decide +kernel)
set_option maxRecDepth 20000 in
theorem gL_law_X1_around : GoodIn wsL_law (wsV RL 13 RX1 yX1_around wsX1_around) := goodIn_app (goodIn_of _ (by decide +kernel)) ggL_law_X1_around
set_option maxRecDepth 20000 in
theorem ggL_law_X2_around : GoodIn wsL_law wsX2_around := goodIn_r _ [70, 39, 40, 45, 46, 47, 5, 48, 41, 44, 34, 258, 259, 260, 261, 262] (by decide +kernel) (by decide +kernel)
set_option maxRecDepth 20000 in
theorem gL_law_X2_around : GoodIn wsL_law (wsV RL 17 RX2 yX2_around wsX2_around) := goodIn_app (goodIn_of _ (by decide +kernel)) ggL_law_X2_around
set_option maxRecDepth 20000 in
theorem ggL_law_X1_clear : GoodIn wsL_law wsX1_clear := goodIn_r _ [74, 12, 19, 20, 252, 253, 254, 255, 256, 257] (by decide +kernel) (by decide +kernel)
set_option maxRecDepth 20000 in
theorem gL_law_X1_clear : GoodIn wsL_law (wsV RL 18 RX1 yX1_clear wsX1_clear) := goodIn_app (goodIn_of _ (by decide +kernel)) ggL_law_X1_clear
set_option maxRecDepth 20000 in
theorem ggL_law_X2_clear : GoodIn wsL_law wsX2_clear := goodIn_r _ [38, 39, 40, 41, 42, 43, 44, 45, 46, 47, 5, 48, 34, 258, 259, 260, 261, 262] (by decide +kernel) (by decide +kernel)
set_option maxRecDepth 20000 in
theorem gL_law_X2_clear : GoodIn wsL_law (wsV RL 21 RX2 yX2_clear wsX2_clear) := goodIn_app (goodIn_of _ (by decide +kernel)) ggL_law_X2_clear
set_option maxRecDepth 20000 in
theorem ggL_law_X1_size : GoodIn wsL_law wsX1_size := goodIn_r _ [79, 19, 252, 253, 254, 255, 256, 257] (by decide +kernel) (by decide +kernel)
set_option maxRecDepth 20000 in
theorem gL_law_X1_size : GoodIn wsL_law (wsV RL 22 RX1 yX1_size wsX1_size) := goodIn_app (goodIn_of _ (by decide +kernel)) ggL_law_X1_size
set_option maxRecDepth 20000 in
theorem ggL_law_X2_size : GoodIn wsL_law wsX2_size := goodIn_r _ [83, 40, 258, 259, 260, 261, 262] (by decide +kernel) (by decide +kernel)
set_option maxRecDepth 20000 in
theorem gL_law_X2_size : GoodIn wsL_law (wsV RL 26 RX2 yX2_size wsX2_size) := goodIn_app (goodIn_of _ (by decide +kernel)) ggL_law_X2_size
set_option maxRecDepth 20000 in
theorem ggL_law_X1_down : GoodIn wsL_law wsX1_down := goodIn_r _ [66, 53, 19, 14, 252, 253, 254, 255, 256, 257] (by decide +kernel) (by decide +kernel)
set_option maxRecDepth 20000 in
theorem gL_law_X1_down : GoodIn wsL_law (wsV RL 27 RX1 yX1_down wsX1_down) := goodIn_app (goodIn_of _ (by decide +kernel)) ggL_law_X1_down
set_option maxRecDepth 20000 in
theorem ggL_law_X2_down : GoodIn wsL_law wsX2_down := goodIn_r _ [88, 89, 40, 34, 90, 91, 92, 93, 258, 259, 260, 261, 262] (by decide +kernel) (by decide +kernel)
set_option maxRecDepth 20000 in
theorem gL_law_X2_down : GoodIn wsL_law (wsV RL 30 RX2 yX2_down wsX2_down) := goodIn_app (goodIn_of _ (by decide +kernel)) ggL_law_X2_down
set_option maxRecDepth 20000 in
theorem ggL_law_X1_up : GoodIn wsL_law wsX1_up := goodIn_r _ [97, 54, 19, 14, 252, 253, 254, 255, 256, 257] (by decide +kernel) (by decide +kernel)
set_option maxRecDepth 20000 in
theorem gL_law_X1_up : GoodIn wsL_law (wsV RL 31 RX1 yX1_up wsX1_up) := goodIn_app (goodIn_of _ (by decide +kernel)) ggL_law_X1_up
set_option maxRecDepth 20000 in
theorem ggL_law_X2_up : GoodIn wsL_law wsX2_up := goodIn_r _ [101, 102, 40, 34, 103, 104, 92, 105, 258, 259, 260, 261, 262] (by decide +kernel) (by decide +kernel)
set_option maxRecDepth 20000 in
theorem gL_law_X2_up : GoodIn wsL_law (wsV RL 34 RX2 yX2_up wsX2_up) := goodIn_app (goodIn_of _ (by decide +kernel)) ggL_law_X2_up
set_option maxRecDepth 20000 in
theorem ggL_law_X1_work : GoodIn wsL_law wsX1_work := goodIn_r _ [109, 110, 111, 112, 2, 113, 59, 60, 61, 62, 63, 64, 65, 66, 53, 19, 14, 114, 115, 116, 117, 21, 22, 118, 119, 120, 121, 122, 123, 95, 96, 97, 54, 124, 125, 126, 127, 128, 129, 130, 131, 26, 132, 25, 133, 134, 135, 136, 137, 138, 139, 140, 141, 142, 143, 92, 144, 145, 146, 147, 148, 149, 150, 151, 152, 153, 154, 155, 156, 157, 158, 159, 160, 161, 162, 163, 164, 165, 166, 167, 168, 169, 170, 104, 105, 171, 172, 173, 174, 175, 91, 93, 176, 177, 178, 179, 180, 181, 182, 183, 184, 185, 186, 252, 253, 254, 255, 256, 257, 263, 264] (by decide +kernel) (by decide +kernel)
set_option maxRecDepth 20000 in
theorem gL_law_X1_work : GoodIn wsL_law (wsV RL 35 RX1 yX1_work wsX1_work) := goodIn_app (goodIn_of _ (by decide +kernel)) ggL_law_X1_work
set_option maxRecDepth 20000 in
theorem ggL_law_X2_work : GoodIn wsL_law wsX2_work := goodIn_r _ [190, 103, 104, 92, 105, 90, 91, 93, 191, 192, 193, 5, 194, 195, 86, 87, 88, 89, 40, 34, 196, 99, 100, 101, 102, 197, 198, 199, 200, 41, 44, 201, 202, 203, 204, 205, 206, 207, 143, 144, 208, 146, 147, 209, 210, 211, 212, 213, 214, 215, 216, 217, 218, 219, 162, 163, 220, 221, 222, 223, 224, 225, 226, 227, 258, 259, 260, 261, 262] (by decide +kernel) (by decide +kernel)
set_option maxRecDepth 20000 in
theorem gL_law_X2_work : GoodIn wsL_law (wsV RL 39 RX2 yX2_work wsX2_work) := goodIn_app (goodIn_of _ (by decide +kernel)) ggL_law_X2_work
set_option maxRecDepth 20000 in
theorem ggL_law_X1_negate : GoodIn wsL_law wsX1_negate := goodIn_r _ [231, 110, 111, 112, 2, 113, 59, 60, 61, 62, 63, 64, 65, 66, 53, 19, 14, 114, 115, 116, 117, 21, 22, 118, 119, 120, 121, 122, 123, 95, 96, 97, 54, 124, 125, 126, 127, 252, 253, 254, 255, 256, 257] (by decide +kernel) (by decide +kernel)
set_option maxRecDepth 20000 in
theorem gL_law_X1_negate : GoodIn wsL_law (wsV RL 40 RX1 yX1_negate wsX1_negate) := goodIn_app (goodIn_of _ (by decide +kernel)) ggL_law_X1_negate
set_option maxRecDepth 20000 in
theorem ggL_law_X2_negate : GoodIn wsL_law wsX2_negate := goodIn_r _ [235, 191, 192, 193, 5, 194, 195, 86, 87, 88, 89, 40, 34, 90, 91, 92, 93, 196, 99, 100, 101, 102, 103, 104, 105, 197, 198, 199, 200, 41, 44, 201, 202, 258, 259, 260, 261, 262] (by decide +kernel) (by decide +kernel)
set_option maxRecDepth 20000 in
theorem gL_law_X2_negate : GoodIn wsL_law (wsV RL 44 RX2 yX2_negate wsX2_negate) := goodIn_app (goodIn_of _ (by decide +kernel)) ggL_law_X2_negate
set_option maxRecDepth 20000 in
theorem ggL_law_X1_low : GoodIn wsL_law wsX1_low := goodIn_r _ [239, 21, 252, 253, 254, 255, 256, 257] (by decide +kernel) (by decide +kernel)
set_option maxRecDepth 20000 in
theorem gL_law_X1_low : GoodIn wsL_law (wsV RL 45 RX1 yX1_low wsX1_low) := goodIn_app (goodIn_of _ (by decide +kernel)) ggL_law_X1_low
set_option maxRecDepth 20000 in
theorem ggL_law_X2_low : GoodIn wsL_law wsX2_low := goodIn_r _ [243, 201, 258, 259, 260, 261, 262] (by decide +kernel) (by decide +kernel)
set_option maxRecDepth 20000 in
theorem gL_law_X2_low : GoodIn wsL_law (wsV RL 48 RX2 yX2_low wsX2_low) := goodIn_app (goodIn_of _ (by decide +kernel)) ggL_law_X2_low
set_option maxRecDepth 20000 in
theorem ggL_law_X1_high : GoodIn wsL_law wsX1_high := goodIn_r _ [247, 22, 252, 253, 254, 255, 256, 257] (by decide +kernel) (by decide +kernel)
set_option maxRecDepth 20000 in
theorem gL_law_X1_high : GoodIn wsL_law (wsV RL 49 RX1 yX1_high wsX1_high) := goodIn_app (goodIn_of _ (by decide +kernel)) ggL_law_X1_high
set_option maxRecDepth 20000 in
theorem ggL_law_X2_high : GoodIn wsL_law wsX2_high := goodIn_r _ [251, 202, 258, 259, 260, 261, 262] (by decide +kernel) (by decide +kernel)
set_option maxRecDepth 20000 in
theorem gL_law_X2_high : GoodIn wsL_law (wsV RL 52 RX2 yX2_high wsX2_high) := goodIn_app (goodIn_of _ (by decide +kernel)) ggL_law_X2_high
theorem dL_law_0 : decode cL_law 0 = .ok (.new 7, 3) := by decide +kernel
theorem dL_law_3 : decode cL_law 3 = .ok (.dup, 1) := by decide +kernel
theorem dL_law_4 : decode cL_law 4 = .ok (.invokespecial 9, 3) := by decide +kernel
theorem dL_law_7 : decode cL_law 7 = .ok (.astore_n 1, 1) := by decide +kernel
theorem dL_law_8 : decode cL_law 8 = .ok (.new 10, 3) := by decide +kernel
theorem dL_law_11 : decode cL_law 11 = .ok (.dup, 1) := by decide +kernel
theorem dL_law_12 : decode cL_law 12 = .ok (.invokespecial 12, 3) := by decide +kernel
theorem dL_law_15 : decode cL_law 15 = .ok (.astore_n 2, 1) := by decide +kernel
theorem dL_law_16 : decode cL_law 16 = .ok (.iconst 0, 1) := by decide +kernel
theorem dL_law_17 : decode cL_law 17 = .ok (.istore_n 3, 1) := by decide +kernel
theorem dL_law_18 : decode cL_law 18 = .ok (.iload_n 3, 1) := by decide +kernel
theorem dL_law_19 : decode cL_law 19 = .ok (.aload_n 0, 1) := by decide +kernel
theorem dL_law_20 : decode cL_law 20 = .ok (.arraylength, 1) := by decide +kernel
theorem dL_law_21 : decode cL_law 21 = .ok (.bipush 6, 2) := by decide +kernel
theorem dL_law_23 : decode cL_law 23 = .ok (.isub, 1) := by decide +kernel
theorem dL_law_24 : decode cL_law 24 = .ok (.if_icmp .gt 281, 3) := by decide +kernel
theorem dL_law_27 : decode cL_law 27 = .ok (.aload_n 0, 1) := by decide +kernel
theorem dL_law_28 : decode cL_law 28 = .ok (.iload_n 3, 1) := by decide +kernel
theorem dL_law_29 : decode cL_law 29 = .ok (.iaload, 1) := by decide +kernel
theorem dL_law_30 : decode cL_law 30 = .ok (.bipush 15, 2) := by decide +kernel
theorem dL_law_32 : decode cL_law 32 = .ok (.iand, 1) := by decide +kernel
theorem dL_law_33 : decode cL_law 33 = .ok (.tableswitch 266 0 8 #[51, 74, 85, 98, 121, 144, 207, 240, 253], 51) := by decide +kernel
theorem dL_law_84 : decode cL_law 84 = .ok (.aload_n 1, 1) := by decide +kernel
theorem dL_law_85 : decode cL_law 85 = .ok (.aload_n 0, 1) := by decide +kernel
theorem dL_law_86 : decode cL_law 86 = .ok (.iload_n 3, 1) := by decide +kernel
theorem dL_law_87 : decode cL_law 87 = .ok (.iconst 1, 1) := by decide +kernel
theorem dL_law_88 : decode cL_law 88 = .ok (.iadd, 1) := by decide +kernel
theorem dL_law_89 : decode cL_law 89 = .ok (.iaload, 1) := by decide +kernel
theorem dL_law_90 : decode cL_law 90 = .ok (.invokevirtual 13, 3) := by decide +kernel
theorem dL_law_93 : decode cL_law 93 = .ok (.aload_n 2, 1) := by decide +kernel
theorem dL_law_94 : decode cL_law 94 = .ok (.aload_n 0, 1) := by decide +kernel
theorem dL_law_95 : decode cL_law 95 = .ok (.iload_n 3, 1) := by decide +kernel
theorem dL_law_96 : decode cL_law 96 = .ok (.iconst 1, 1) := by decide +kernel
theorem dL_law_97 : decode cL_law 97 = .ok (.iadd, 1) := by decide +kernel
theorem dL_law_98 : decode cL_law 98 = .ok (.iaload, 1) := by decide +kernel
theorem dL_law_99 : decode cL_law 99 = .ok (.invokevirtual 17, 3) := by decide +kernel
theorem dL_law_102 : decode cL_law 102 = .ok (.if_icmp .eq 197, 3) := by decide +kernel
theorem dL_law_105 : decode cL_law 105 = .ok (.iconst 0, 1) := by decide +kernel
theorem dL_law_106 : decode cL_law 106 = .ok (.ireturn, 1) := by decide +kernel
theorem dL_law_107 : decode cL_law 107 = .ok (.aload_n 1, 1) := by decide +kernel
theorem dL_law_108 : decode cL_law 108 = .ok (.invokevirtual 18, 3) := by decide +kernel
theorem dL_law_111 : decode cL_law 111 = .ok (.aload_n 2, 1) := by decide +kernel
theorem dL_law_112 : decode cL_law 112 = .ok (.invokevirtual 21, 3) := by decide +kernel
theorem dL_law_115 : decode cL_law 115 = .ok (.goto 184, 3) := by decide +kernel
theorem dL_law_118 : decode cL_law 118 = .ok (.aload_n 1, 1) := by decide +kernel
theorem dL_law_119 : decode cL_law 119 = .ok (.invokevirtual 22, 3) := by decide +kernel
theorem dL_law_122 : decode cL_law 122 = .ok (.aload_n 2, 1) := by decide +kernel
theorem dL_law_123 : decode cL_law 123 = .ok (.invokevirtual 26, 3) := by decide +kernel
theorem dL_law_126 : decode cL_law 126 = .ok (.if_icmp .eq 173, 3) := by decide +kernel
theorem dL_law_129 : decode cL_law 129 = .ok (.iconst 0, 1) := by decide +kernel
theorem dL_law_130 : decode cL_law 130 = .ok (.ireturn, 1) := by decide +kernel
theorem dL_law_131 : decode cL_law 131 = .ok (.aload_n 1, 1) := by decide +kernel
theorem dL_law_132 : decode cL_law 132 = .ok (.aload_n 0, 1) := by decide +kernel
theorem dL_law_133 : decode cL_law 133 = .ok (.iload_n 3, 1) := by decide +kernel
theorem dL_law_134 : decode cL_law 134 = .ok (.iconst 1, 1) := by decide +kernel
theorem dL_law_135 : decode cL_law 135 = .ok (.iadd, 1) := by decide +kernel
theorem dL_law_136 : decode cL_law 136 = .ok (.iaload, 1) := by decide +kernel
theorem dL_law_137 : decode cL_law 137 = .ok (.invokevirtual 27, 3) := by decide +kernel
theorem dL_law_140 : decode cL_law 140 = .ok (.aload_n 2, 1) := by decide +kernel
theorem dL_law_141 : decode cL_law 141 = .ok (.aload_n 0, 1) := by decide +kernel
theorem dL_law_142 : decode cL_law 142 = .ok (.iload_n 3, 1) := by decide +kernel
theorem dL_law_143 : decode cL_law 143 = .ok (.iconst 1, 1) := by decide +kernel
theorem dL_law_144 : decode cL_law 144 = .ok (.iadd, 1) := by decide +kernel
theorem dL_law_145 : decode cL_law 145 = .ok (.iaload, 1) := by decide +kernel
theorem dL_law_146 : decode cL_law 146 = .ok (.invokevirtual 30, 3) := by decide +kernel
theorem dL_law_149 : decode cL_law 149 = .ok (.if_icmp .eq 150, 3) := by decide +kernel
theorem dL_law_152 : decode cL_law 152 = .ok (.iconst 0, 1) := by decide +kernel
theorem dL_law_153 : decode cL_law 153 = .ok (.ireturn, 1) := by decide +kernel
theorem dL_law_154 : decode cL_law 154 = .ok (.aload_n 1, 1) := by decide +kernel
theorem dL_law_155 : decode cL_law 155 = .ok (.aload_n 0, 1) := by decide +kernel
theorem dL_law_156 : decode cL_law 156 = .ok (.iload_n 3, 1) := by decide +kernel
theorem dL_law_157 : decode cL_law 157 = .ok (.iconst 1, 1) := by decide +kernel
theorem dL_law_158 : decode cL_law 158 = .ok (.iadd, 1) := by decide +kernel
theorem dL_law_159 : decode cL_law 159 = .ok (.iaload, 1) := by decide +kernel
theorem dL_law_160 : decode cL_law 160 = .ok (.invokevirtual 31, 3) := by decide +kernel
theorem dL_law_163 : decode cL_law 163 = .ok (.aload_n 2, 1) := by decide +kernel
theorem dL_law_164 : decode cL_law 164 = .ok (.aload_n 0, 1) := by decide +kernel
theorem dL_law_165 : decode cL_law 165 = .ok (.iload_n 3, 1) := by decide +kernel
theorem dL_law_166 : decode cL_law 166 = .ok (.iconst 1, 1) := by decide +kernel
theorem dL_law_167 : decode cL_law 167 = .ok (.iadd, 1) := by decide +kernel
theorem dL_law_168 : decode cL_law 168 = .ok (.iaload, 1) := by decide +kernel
theorem dL_law_169 : decode cL_law 169 = .ok (.invokevirtual 34, 3) := by decide +kernel
theorem dL_law_172 : decode cL_law 172 = .ok (.if_icmp .eq 127, 3) := by decide +kernel
theorem dL_law_175 : decode cL_law 175 = .ok (.iconst 0, 1) := by decide +kernel
theorem dL_law_176 : decode cL_law 176 = .ok (.ireturn, 1) := by decide +kernel
theorem dL_law_177 : decode cL_law 177 = .ok (.aload_n 1, 1) := by decide +kernel
theorem dL_law_178 : decode cL_law 178 = .ok (.aload_n 0, 1) := by decide +kernel
theorem dL_law_179 : decode cL_law 179 = .ok (.iload_n 3, 1) := by decide +kernel
theorem dL_law_180 : decode cL_law 180 = .ok (.iconst 1, 1) := by decide +kernel
theorem dL_law_181 : decode cL_law 181 = .ok (.iadd, 1) := by decide +kernel
theorem dL_law_182 : decode cL_law 182 = .ok (.iaload, 1) := by decide +kernel
theorem dL_law_183 : decode cL_law 183 = .ok (.aload_n 0, 1) := by decide +kernel
theorem dL_law_184 : decode cL_law 184 = .ok (.iload_n 3, 1) := by decide +kernel
theorem dL_law_185 : decode cL_law 185 = .ok (.iconst 2, 1) := by decide +kernel
theorem dL_law_186 : decode cL_law 186 = .ok (.iadd, 1) := by decide +kernel
theorem dL_law_187 : decode cL_law 187 = .ok (.iaload, 1) := by decide +kernel
theorem dL_law_188 : decode cL_law 188 = .ok (.aload_n 0, 1) := by decide +kernel
theorem dL_law_189 : decode cL_law 189 = .ok (.iload_n 3, 1) := by decide +kernel
theorem dL_law_190 : decode cL_law 190 = .ok (.iconst 3, 1) := by decide +kernel
theorem dL_law_191 : decode cL_law 191 = .ok (.iadd, 1) := by decide +kernel
theorem dL_law_192 : decode cL_law 192 = .ok (.iaload, 1) := by decide +kernel
theorem dL_law_193 : decode cL_law 193 = .ok (.aload_n 0, 1) := by decide +kernel
theorem dL_law_194 : decode cL_law 194 = .ok (.iload_n 3, 1) := by decide +kernel
theorem dL_law_195 : decode cL_law 195 = .ok (.iconst 4, 1) := by decide +kernel
theorem dL_law_196 : decode cL_law 196 = .ok (.iadd, 1) := by decide +kernel
theorem dL_law_197 : decode cL_law 197 = .ok (.iaload, 1) := by decide +kernel
theorem dL_law_198 : decode cL_law 198 = .ok (.aload_n 0, 1) := by decide +kernel
theorem dL_law_199 : decode cL_law 199 = .ok (.iload_n 3, 1) := by decide +kernel
theorem dL_law_200 : decode cL_law 200 = .ok (.iconst 5, 1) := by decide +kernel
theorem dL_law_201 : decode cL_law 201 = .ok (.iadd, 1) := by decide +kernel
theorem dL_law_202 : decode cL_law 202 = .ok (.iaload, 1) := by decide +kernel
theorem dL_law_203 : decode cL_law 203 = .ok (.invokevirtual 35, 3) := by decide +kernel
theorem dL_law_206 : decode cL_law 206 = .ok (.aload_n 2, 1) := by decide +kernel
theorem dL_law_207 : decode cL_law 207 = .ok (.aload_n 0, 1) := by decide +kernel
theorem dL_law_208 : decode cL_law 208 = .ok (.iload_n 3, 1) := by decide +kernel
theorem dL_law_209 : decode cL_law 209 = .ok (.iconst 1, 1) := by decide +kernel
theorem dL_law_210 : decode cL_law 210 = .ok (.iadd, 1) := by decide +kernel
theorem dL_law_211 : decode cL_law 211 = .ok (.iaload, 1) := by decide +kernel
theorem dL_law_212 : decode cL_law 212 = .ok (.aload_n 0, 1) := by decide +kernel
theorem dL_law_213 : decode cL_law 213 = .ok (.iload_n 3, 1) := by decide +kernel
theorem dL_law_214 : decode cL_law 214 = .ok (.iconst 2, 1) := by decide +kernel
theorem dL_law_215 : decode cL_law 215 = .ok (.iadd, 1) := by decide +kernel
theorem dL_law_216 : decode cL_law 216 = .ok (.iaload, 1) := by decide +kernel
theorem dL_law_217 : decode cL_law 217 = .ok (.aload_n 0, 1) := by decide +kernel
theorem dL_law_218 : decode cL_law 218 = .ok (.iload_n 3, 1) := by decide +kernel
theorem dL_law_219 : decode cL_law 219 = .ok (.iconst 3, 1) := by decide +kernel
theorem dL_law_220 : decode cL_law 220 = .ok (.iadd, 1) := by decide +kernel
theorem dL_law_221 : decode cL_law 221 = .ok (.iaload, 1) := by decide +kernel
theorem dL_law_222 : decode cL_law 222 = .ok (.aload_n 0, 1) := by decide +kernel
theorem dL_law_223 : decode cL_law 223 = .ok (.iload_n 3, 1) := by decide +kernel
theorem dL_law_224 : decode cL_law 224 = .ok (.iconst 4, 1) := by decide +kernel
theorem dL_law_225 : decode cL_law 225 = .ok (.iadd, 1) := by decide +kernel
theorem dL_law_226 : decode cL_law 226 = .ok (.iaload, 1) := by decide +kernel
theorem dL_law_227 : decode cL_law 227 = .ok (.aload_n 0, 1) := by decide +kernel
theorem dL_law_228 : decode cL_law 228 = .ok (.iload_n 3, 1) := by decide +kernel
theorem dL_law_229 : decode cL_law 229 = .ok (.iconst 5, 1) := by decide +kernel
theorem dL_law_230 : decode cL_law 230 = .ok (.iadd, 1) := by decide +kernel
theorem dL_law_231 : decode cL_law 231 = .ok (.iaload, 1) := by decide +kernel
theorem dL_law_232 : decode cL_law 232 = .ok (.invokevirtual 39, 3) := by decide +kernel
theorem dL_law_235 : decode cL_law 235 = .ok (.if_icmp .eq 64, 3) := by decide +kernel
theorem dL_law_238 : decode cL_law 238 = .ok (.iconst 0, 1) := by decide +kernel
theorem dL_law_239 : decode cL_law 239 = .ok (.ireturn, 1) := by decide +kernel
theorem dL_law_240 : decode cL_law 240 = .ok (.aload_n 1, 1) := by decide +kernel
theorem dL_law_241 : decode cL_law 241 = .ok (.aload_n 0, 1) := by decide +kernel
theorem dL_law_242 : decode cL_law 242 = .ok (.iload_n 3, 1) := by decide +kernel
theorem dL_law_243 : decode cL_law 243 = .ok (.iconst 1, 1) := by decide +kernel
theorem dL_law_244 : decode cL_law 244 = .ok (.iadd, 1) := by decide +kernel
theorem dL_law_245 : decode cL_law 245 = .ok (.iaload, 1) := by decide +kernel
theorem dL_law_246 : decode cL_law 246 = .ok (.aload_n 0, 1) := by decide +kernel
theorem dL_law_247 : decode cL_law 247 = .ok (.iload_n 3, 1) := by decide +kernel
theorem dL_law_248 : decode cL_law 248 = .ok (.iconst 2, 1) := by decide +kernel
theorem dL_law_249 : decode cL_law 249 = .ok (.iadd, 1) := by decide +kernel
theorem dL_law_250 : decode cL_law 250 = .ok (.iaload, 1) := by decide +kernel
theorem dL_law_251 : decode cL_law 251 = .ok (.invokevirtual 40, 3) := by decide +kernel
theorem dL_law_254 : decode cL_law 254 = .ok (.aload_n 2, 1) := by decide +kernel
theorem dL_law_255 : decode cL_law 255 = .ok (.aload_n 0, 1) := by decide +kernel
theorem dL_law_256 : decode cL_law 256 = .ok (.iload_n 3, 1) := by decide +kernel
theorem dL_law_257 : decode cL_law 257 = .ok (.iconst 1, 1) := by decide +kernel
theorem dL_law_258 : decode cL_law 258 = .ok (.iadd, 1) := by decide +kernel
theorem dL_law_259 : decode cL_law 259 = .ok (.iaload, 1) := by decide +kernel
theorem dL_law_260 : decode cL_law 260 = .ok (.aload_n 0, 1) := by decide +kernel
theorem dL_law_261 : decode cL_law 261 = .ok (.iload_n 3, 1) := by decide +kernel
theorem dL_law_262 : decode cL_law 262 = .ok (.iconst 2, 1) := by decide +kernel
theorem dL_law_263 : decode cL_law 263 = .ok (.iadd, 1) := by decide +kernel
theorem dL_law_264 : decode cL_law 264 = .ok (.iaload, 1) := by decide +kernel
theorem dL_law_265 : decode cL_law 265 = .ok (.invokevirtual 44, 3) := by decide +kernel
theorem dL_law_268 : decode cL_law 268 = .ok (.if_icmp .eq 31, 3) := by decide +kernel
theorem dL_law_271 : decode cL_law 271 = .ok (.iconst 0, 1) := by decide +kernel
theorem dL_law_272 : decode cL_law 272 = .ok (.ireturn, 1) := by decide +kernel
theorem dL_law_273 : decode cL_law 273 = .ok (.aload_n 1, 1) := by decide +kernel
theorem dL_law_274 : decode cL_law 274 = .ok (.invokevirtual 45, 3) := by decide +kernel
theorem dL_law_277 : decode cL_law 277 = .ok (.aload_n 2, 1) := by decide +kernel
theorem dL_law_278 : decode cL_law 278 = .ok (.invokevirtual 48, 3) := by decide +kernel
theorem dL_law_281 : decode cL_law 281 = .ok (.if_icmp .eq 18, 3) := by decide +kernel
theorem dL_law_284 : decode cL_law 284 = .ok (.iconst 0, 1) := by decide +kernel
theorem dL_law_285 : decode cL_law 285 = .ok (.ireturn, 1) := by decide +kernel
theorem dL_law_286 : decode cL_law 286 = .ok (.aload_n 1, 1) := by decide +kernel
theorem dL_law_287 : decode cL_law 287 = .ok (.invokevirtual 49, 3) := by decide +kernel
theorem dL_law_290 : decode cL_law 290 = .ok (.aload_n 2, 1) := by decide +kernel
theorem dL_law_291 : decode cL_law 291 = .ok (.invokevirtual 52, 3) := by decide +kernel
theorem dL_law_294 : decode cL_law 294 = .ok (.if_icmp .eq 5, 3) := by decide +kernel
theorem dL_law_297 : decode cL_law 297 = .ok (.iconst 0, 1) := by decide +kernel
theorem dL_law_298 : decode cL_law 298 = .ok (.ireturn, 1) := by decide +kernel
theorem dL_law_299 : decode cL_law 299 = .ok (.iinc 3 6, 3) := by decide +kernel
theorem dL_law_302 : decode cL_law 302 = .ok (.goto (-284), 3) := by decide +kernel
theorem dL_law_305 : decode cL_law 305 = .ok (.iconst 1, 1) := by decide +kernel
theorem dL_law_306 : decode cL_law 306 = .ok (.ireturn, 1) := by decide +kernel
abbrev vwCl : List vw_C := [(RX0, TX0, 2), (RX1, TX1, 6), (RX2, TX2, 5)]
end
section
/-! the worlds of the class's object and of the reference's, and how a call is passed over -/
abbrev rr_wx (h0 qT qS : Nat) (cA : ClassId) (f : Nat → Int32) (n t : Nat) (lo hi : Int32) (a b : Int64) : va_W := [(h0, .inr (1, [.ref qT, .int (nI n), .int (nI t), .int lo, .int hi, .ref qS])), (qT, .inl (cA, 187, .inl f)), (qS, .inr (0, [.long a, .long b]))]
abbrev rr_wm (h0 qT : Nat) (cA : ClassId) (f : Nat → Int32) (n t : Nat) (lo hi : Int32) : va_W := [(h0, .inr (2, [.ref qT, .int (nI n), .int (nI t), .int lo, .int hi])), (qT, .inl (cA, 187, .inl f))]
/-- the words on the nest mates' links -/
def rr_N (U : State) : Prop := va_Nw (.methodLinkNest RX1 101 yX0_empty RX1) U ∧ va_Nw (.methodLinkNest RX1 104 yX0_take RX1) U ∧ va_Nw (.fieldLinkNest RX1 108 "RangeRules$Span" "least" "J" RX1) U ∧ va_Nw (.fieldLinkNest RX1 112 "RangeRules$Span" "greatest" "J" RX1) U
theorem rr_N.same {u U : State} (h : u.vm = U.vm) (hN : rr_N u) : rr_N U := ⟨va_Nw.same rfl h hN.1, va_Nw.same rfl h hN.2.1, va_Nw.same rfl h hN.2.2.1, va_Nw.same rfl h hN.2.2.2⟩
theorem rr_N.warm {s U : State} (hW : s.WarmedH U.vm) (hN : rr_N s) : rr_N U := ⟨va_Nw.warmM hW hN.1, va_Nw.warmM hW hN.2.1, va_Nw.warmF hW hN.2.2.1, va_Nw.warmF hW hN.2.2.2⟩
def rr_p0 (av : List Value) (sz : Nat) : Array Value → State → Prop := va_Pc av (fun U => U.heap.size = sz)
def rr_pR (D : va_G) (ws : va_W) (tys : List (ClassId × FieldType)) (av : List Value) (sz : Nat) : Array Value → State → Prop := va_Pc av (fun U => U.heap.size = sz ∧ va_P D vwCl ws U.heap ∧ va_K D vwCl tys U)
def rr_pW (D : va_G) (ws : va_W) (tys : List (ClassId × FieldType)) (av : List Value) (sz : Nat) : Array Value → State → Prop := va_Pc av (fun U => U.heap.size = sz ∧ va_P D vwCl ws U.heap ∧ va_K D vwCl tys U ∧ va_D (fun _ => True) ws)
def rr_pN (D : va_G) (ws : va_W) (tys : List (ClassId × FieldType)) (av : List Value) (sz : Nat) : Array Value → State → Prop := va_Pc av (fun U => U.heap.size = sz ∧ va_P D vwCl ws U.heap ∧ va_K D vwCl tys U ∧ va_D (fun _ => True) ws ∧ rr_N U)
theorem rr_b0 {av : List Value} {sz : Nat} : FrameBlind (rr_p0 av sz) := fun _ _ _ _ q => q
theorem rr_bR {D : va_G} {ws : va_W} {tys : List (ClassId × FieldType)} {av : List Value} {sz : Nat} : FrameBlind (rr_pR D ws tys av sz) := fun a U g mk q => by
  obtain ⟨q0, q1, qP, qK⟩ := q
  exact ⟨q0, q1, qP, va_K.moved (u := U) (U := U.calling g mk a) (Vm.Alike.refl U.vm) qK⟩
theorem rr_bW {D : va_G} {ws : va_W} {tys : List (ClassId × FieldType)} {av : List Value} {sz : Nat} : FrameBlind (rr_pW D ws tys av sz) := fun a U g mk q => by
  obtain ⟨q0, q1, qP, qK, qD⟩ := q
  exact ⟨q0, q1, qP, va_K.moved (u := U) (U := U.calling g mk a) (Vm.Alike.refl U.vm) qK, qD⟩
theorem rr_bN {D : va_G} {ws : va_W} {tys : List (ClassId × FieldType)} {av : List Value} {sz : Nat} : FrameBlind (rr_pN D ws tys av sz) := fun a U g mk q => by
  obtain ⟨q0, q1, qP, qK, qD, qN⟩ := q
  exact ⟨q0, q1, qP, va_K.moved (u := U) (U := U.calling g mk a) (Vm.Alike.refl U.vm) qK, qD, rr_N.same (u := U) (U := U.calling g mk a) rfl qN⟩
theorem rr_v0 {s : State} {H : Heap} {As : List Value} : PreS s H (rr_p0 As H.size) As := ⟨rr_b0, fun U hU _ => ⟨rfl, congrArg Array.size hU⟩⟩
theorem rr_vR {s : State} {H : Heap} {D : va_G} {ws : va_W} {tys : List (ClassId × FieldType)} {C : String} {b : Nat} {As : List Value} (hK : va_K D vwCl tys s) (hP : va_P D vwCl ws H) (hr : ∃ cell : Cell, H[b]? = some cell ∧ cell.vm.isStatics = false ∧ s.vm.findClass C = some cell.cls) : PreV s H C b (rr_pR D ws tys (.ref b :: As) H.size) As :=
  ⟨rr_bR, hr, fun U hU hW => ⟨rfl, by rw [hU], by rw [hU]; exact hP, va_K.moved hW.alike hK⟩⟩
theorem rr_vW {s : State} {H : Heap} {D : va_G} {ws : va_W} {A : Nat → Prop} {tys : List (ClassId × FieldType)} {C : String} {b : Nat} {As : List Value} (hK : va_K D vwCl tys s) (hP : va_P D vwCl ws H) (hD : va_D A ws) (hr : ∃ cell : Cell, H[b]? = some cell ∧ cell.vm.isStatics = false ∧ s.vm.findClass C = some cell.cls) : PreV s H C b (rr_pW D ws tys (.ref b :: As) H.size) As :=
  ⟨rr_bW, hr, fun U hU hW => ⟨rfl, by rw [hU], by rw [hU]; exact hP, va_K.moved hW.alike hK, hD.weaken (fun _ _ _ _ => trivial)⟩⟩
theorem rr_vN {s : State} {H : Heap} {D : va_G} {ws : va_W} {A : Nat → Prop} {tys : List (ClassId × FieldType)} {C : String} {b : Nat} {As : List Value} (hN : rr_N s) (hK : va_K D vwCl tys s) (hP : va_P D vwCl ws H) (hD : va_D A ws) (hr : ∃ cell : Cell, H[b]? = some cell ∧ cell.vm.isStatics = false ∧ s.vm.findClass C = some cell.cls) : PreV s H C b (rr_pN D ws tys (.ref b :: As) H.size) As :=
  ⟨rr_bN, hr, fun U hU hW => ⟨rfl, by rw [hU], by rw [hU]; exact hP, va_K.moved hW.alike hK, hD.weaken (fun _ _ _ _ => trivial), hN.warm hW⟩⟩
theorem rr_nil {A0 : Nat → Prop} {H0 H : Heap} {locs : List Loc} (hS : va_S A0 H0 H locs) (hA : ∀ q, H0.size ≤ q → A0 q) : ∀ q, va_A [] H.size q → A0 q := by
  intro q h
  rcases h with ⟨k, e, h⟩ | h
  · simp at h
  · exact hA q (Nat.le_trans hS.1 h)
theorem rr_old {D : va_G} {cl : List vw_C} {ws : va_W} {H H1 : Heap} (hP : va_P D cl ws H) (hk : ∀ q : Nat, q < H.size → ¬ va_A [] H.size q → H1[q]? = H[q]?) : va_P D cl ws H1 := by
  refine hP.kept (fun k q hq => hk q.1 (hP k q hq).lt ?_)
  intro h
  rcases h with ⟨k, e, h⟩ | h
  · simp at h
  · exact absurd (hP k q hq).lt (Nat.not_lt.mpr h)
theorem rr_at {w1 wc : va_W} (h : w1.map (fun q => q.1) = wc.map (fun q => q.1)) {k : Nat} {q : Nat × va_E} (hk : w1[k]? = some q) : ∃ q0, wc[k]? = some q0 ∧ q0.1 = q.1 := by
  have h1 : (w1.map (fun q => q.1))[k]? = some q.1 := by rw [List.getElem?_map, hk]; rfl
  rw [h, List.getElem?_map] at h1
  cases hc : wc[k]? with
  | none => rw [hc] at h1; cases h1
  | some q0 => rw [hc] at h1; exact ⟨q0, rfl, Option.some.inj h1⟩
theorem rr_sameD {A : Nat → Prop} {w1 wc : va_W} {sz : Nat} (hD : va_D A wc) (h : w1.map (fun q => q.1) = wc.map (fun q => q.1)) : va_D (va_A wc sz) w1 := by
  refine ⟨fun i j p q hi hj e => ?_, fun k q hk => ?_⟩
  · obtain ⟨p0, hp, e1⟩ := rr_at h hi
    obtain ⟨q0, hq, e2⟩ := rr_at h hj
    exact hD.1 i j p0 q0 hp hq (by rw [e1, e2, e])
  · obtain ⟨q0, hq, e1⟩ := rr_at h hk
    rw [← e1]
    exact va_A.in hq
section RRC
variable {p : Program} {l : Launch} {e : Env} {R : Room} {s : State} {m : MethodId} {args : Array Value} {below : List Frame} {meth : Method} {c : Code} {H : Heap} {locs : List Loc} {cells slots : Nat} {Q : State → Prop}
variable {pc : Nat} {ls : Array Slot} {rest st0 : List Value} {a : Array Value} {A0 : Nat → Prop} {H0 : Heap} {mc ms : Nat} {D : va_G} {cl : List vw_C} {ws : va_W}
/-- behind a call that only reads, with an int for an answer -/
theorem rr_ri {post : Int32 → Prop} (hr : va_Run p l e R s m args below meth c H locs cells slots mc ms (F0 m pc ls st0) rest (va_Qi (fun r (_ : Unit) => post r) (fun _ _ => True) (va_A [] H.size) a) (va_A [] H.size)) (hS : va_S A0 H0 H locs) (hA : ∀ q, H0.size ≤ q → A0 q) (hP : va_P D cl ws H)
    (kk : ∀ (r : Int32) (H1 : Heap) (locs1 : List Loc), post r → va_P D cl ws H1 → va_S A0 H0 H1 locs1 → W p l e R s m args below meth c H1 locs1 (cells + mc) (slots + ms) Q (F0 m (pc + 3) ls (.int r :: rest))) : W p l e R s m args below meth c H locs cells slots Q (F0 m pc ls st0) :=
  va_calli hr hS (fun q _ h => rr_nil hS hA q h) (rr_nil hS hA) (fun r _ _ H1 locs1 _ _ hw _ _ hk1 hS1 => kk r H1 locs1 hw (rr_old hP hk1) hS1)
theorem rr_rl {post : Int64 → Prop} (hr : va_Run p l e R s m args below meth c H locs cells slots mc ms (F0 m pc ls st0) rest (va_Ql (fun r (_ : Unit) => post r) (fun _ _ => True) (va_A [] H.size) a) (va_A [] H.size)) (hS : va_S A0 H0 H locs) (hA : ∀ q, H0.size ≤ q → A0 q) (hP : va_P D cl ws H)
    (kk : ∀ (r : Int64) (H1 : Heap) (locs1 : List Loc), post r → va_P D cl ws H1 → va_S A0 H0 H1 locs1 → W p l e R s m args below meth c H1 locs1 (cells + mc) (slots + ms) Q (F0 m (pc + 3) ls (.long r :: rest))) : W p l e R s m args below meth c H locs cells slots Q (F0 m pc ls st0) :=
  va_calll hr hS (fun q _ h => rr_nil hS hA q h) (rr_nil hS hA) (fun r _ _ H1 locs1 _ _ hw _ _ hk1 hS1 => kk r H1 locs1 hw (rr_old hP hk1) hS1)
/-- behind a call that writes cells of the world wc -/
theorem rr_wv {S : Type} {post : S → Prop} {w1 : S → va_W} {wc wr : va_W} (isC isR : List Nat) (hr : va_Run p l e R s m args below meth c H locs cells slots mc ms (F0 m pc ls st0) rest (va_Qv post (fun u t => va_P D cl (w1 u) t.heap) (va_A wc H.size) a) (va_A wc H.size)) (hS : va_S A0 H0 H locs) (hA : ∀ q, H0.size ≤ q → A0 q) (hP : va_P D cl ws H) (hD : va_D A0 ws)
    (hC : isC.map (fun i => ws[i]?) = wc.map some) (hR : isR.map (fun i => ws[i]?) = wr.map some) (hnC : va_nd isC = true) (hn : va_nd isR = true) (hdis : ∀ i ∈ isR, i ∉ isC) (hsame : ∀ u, (w1 u).map (fun q => q.1) = wc.map (fun q => q.1))
    (kk : ∀ (u : S) (H1 : Heap) (locs1 : List Loc), post u → va_P D cl (wr ++ w1 u) H1 → va_D A0 (wr ++ w1 u) → va_S A0 H0 H1 locs1 → W p l e R s m args below meth c H1 locs1 (cells + mc) (slots + ms) Q (F0 m (pc + 3) ls rest)) : W p l e R s m args below meth c H locs cells slots Q (F0 m pc ls st0) := by
  have hF := va_free (wc := wc) hD hS hA isC hC
  refine va_callv hr hS (fun q _ h => hF q h) hF (fun u t H1 locs1 ht _ hw hB _ hk1 hS1 => ?_)
  rw [ht] at hB
  obtain ⟨h1, h2⟩ := va_join (wr := wr) (w1 := w1 u) hP hD isC isR hC hR hn hdis hk1 hF hB (rr_sameD (hD.sub (ws' := wc) isC hnC hC) (hsame u))
  exact kk u H1 locs1 hw h1 h2 hS1
theorem rr_wi {S : Type} {post : Int32 → S → Prop} {w1 : S → va_W} {wc wr : va_W} (isC isR : List Nat) (hr : va_Run p l e R s m args below meth c H locs cells slots mc ms (F0 m pc ls st0) rest (va_Qi post (fun u t => va_P D cl (w1 u) t.heap) (va_A wc H.size) a) (va_A wc H.size)) (hS : va_S A0 H0 H locs) (hA : ∀ q, H0.size ≤ q → A0 q) (hP : va_P D cl ws H) (hD : va_D A0 ws)
    (hC : isC.map (fun i => ws[i]?) = wc.map some) (hR : isR.map (fun i => ws[i]?) = wr.map some) (hnC : va_nd isC = true) (hn : va_nd isR = true) (hdis : ∀ i ∈ isR, i ∉ isC) (hsame : ∀ u, (w1 u).map (fun q => q.1) = wc.map (fun q => q.1))
    (kk : ∀ (r : Int32) (u : S) (H1 : Heap) (locs1 : List Loc), post r u → va_P D cl (wr ++ w1 u) H1 → va_D A0 (wr ++ w1 u) → va_S A0 H0 H1 locs1 → W p l e R s m args below meth c H1 locs1 (cells + mc) (slots + ms) Q (F0 m (pc + 3) ls (.int r :: rest))) : W p l e R s m args below meth c H locs cells slots Q (F0 m pc ls st0) := by
  have hF := va_free (wc := wc) hD hS hA isC hC
  refine va_calli hr hS (fun q _ h => hF q h) hF (fun r u t H1 locs1 ht _ hw hB _ hk1 hS1 => ?_)
  rw [ht] at hB
  obtain ⟨h1, h2⟩ := va_join (wr := wr) (w1 := w1 u) hP hD isC isR hC hR hn hdis hk1 hF hB (rr_sameD (hD.sub (ws' := wc) isC hnC hC) (hsame u))
  exact kk r u H1 locs1 hw h1 h2 hS1
end RRC
end
section
/-! what the methods compute, in plain words: the thresholds are f 0 .. f (n - 1) -/
def rr_dn (f : Nat → Int32) (v : Int32) : Nat → Int32
  | 0 => -2147483648
  | k + 1 => if f k ≤ v ∧ rr_dn f v k < f k then f k else rr_dn f v k
def rr_up (f : Nat → Int32) (v : Int32) : Nat → Int32
  | 0 => 2147483647
  | k + 1 => if v ≤ f k ∧ f k < rr_up f v k then f k else rr_up f v k
def rr_fd (f : Nat → Int32) (v : Int32) : Nat → Bool
  | 0 => false
  | k + 1 => rr_fd f v k || decide (f k = v)
def rr_ad (f : Nat → Int32) (n : Nat) (v : Int32) : (Nat → Int32) × Nat := if rr_fd f v n = true then (f, n) else (upd f n v, n + 1)
def rr_al (f : Nat → Int32) (n : Nat) (w : Int64) : (Nat → Int32) × Nat := if -2147483648 ≤ w ∧ w ≤ 2147483647 then rr_ad f n w.toInt32 else (f, n)
def rr_ar (f : Nat → Int32) (n : Nat) (v : Int32) : (Nat → Int32) × Nat := rr_al (rr_al (rr_al f n (v.toInt64 - 1)).1 (rr_al f n (v.toInt64 - 1)).2 v.toInt64).1 (rr_al (rr_al f n (v.toInt64 - 1)).1 (rr_al f n (v.toInt64 - 1)).2 v.toInt64).2 (v.toInt64 + 1)
def rr_first (j : Nat) : Int32 := if j = 0 then -2147483648 else if j = 1 then -2147483647 else if j = 2 then -1 else if j = 3 then 0 else if j = 4 then 1 else if j = 5 then 2147483646 else 2147483647
def rr_ok (f : Nat → Int32) (n : Nat) : Prop := 7 ≤ n ∧ ∀ j, j < 7 → f j = rr_first j
def rr_rg (f : Nat → Int32) (n : Nat) (l h : Int32) : Bool := decide (l ≤ h) && (rr_fd f l n && rr_fd f h n)
def rr_tl (f : Nat → Int32) (n : Nat) (x y : Int64) : Int32 × Int32 := if (-2147483648 ≤ x ∧ x ≤ 2147483647) ∧ -2147483648 ≤ y ∧ y ≤ 2147483647 then (rr_dn f x.toInt32 n, rr_up f y.toInt32 n) else (-2147483648, 2147483647)
def rr_mn (x y : Int64) : Int64 := if y < x then y else x
def rr_mx (x y : Int64) : Int64 := if y < x then x else y
def rr_ab (x : Int64) : Int64 := if 0 < x then x else -x
def rr_ni (x y : Int32) : Int32 := if y < x then y else x
def rr_xi (x y : Int32) : Int32 := if x < y then y else x
def rr_qc (m n d : Int64) : Bool := decide (¬ d = 0 ∧ m ≤ d ∧ d ≤ n)
def rr_qm (c : Bool) (l h d : Int64) (z : Int64 × Int64) : Int64 × Int64 := if c = true then (rr_mn z.1 (rr_mn (l / d) (h / d)), rr_mx z.2 (rr_mx (l / d) (h / d))) else z
def rr_q0 : Int64 × Int64 := (9223372036854775807, -9223372036854775808)
def rr_qs (l h m n : Int64) : Int64 × Int64 := rr_qm (rr_qc m n n) l h n (rr_qm (rr_qc m n m) l h m (rr_qm (rr_qc m n 1) l h 1 (rr_qm (rr_qc m n (-1)) l h (-1) rr_q0)))
def rr_rs (l h m n : Int64) : Int64 × Int64 := if 0 ≤ l then (0, rr_mn h (rr_mx (rr_ab m) (rr_ab n) - 1)) else if h ≤ 0 then (rr_mx l (-(rr_mx (rr_ab m) (rr_ab n) - 1)), 0) else (rr_mx l (-(rr_mx (rr_ab m) (rr_ab n) - 1)), rr_mn h (rr_mx (rr_ab m) (rr_ab n) - 1))
def rr_on (v : Int32) : Nat → Nat → Nat
  | 0, a => a
  | k + 1, a => if nI a < v then rr_on v k (2 * a + 1) else a
def rr_by (m : Int32) : Int64 := (1 : Int64) <<< ((m &&& 31).toInt64 &&& 63)
def rr_o2 (l h m n : Int64) : Int64 × Int64 := (rr_mn (rr_mn (l * m) (l * n)) (rr_mn (h * m) (h * n)), rr_mx (rr_mx (l * m) (l * n)) (rr_mx (h * m) (h * n)))
def rr_o5 (l h m k : Int32) : Int64 × Int64 := if l < 0 ∧ m < 0 then (-2147483648, 2147483647) else if l < 0 then (0, k.toInt64) else if m < 0 then (0, h.toInt64) else (0, (rr_ni h k).toInt64)
def rr_o6 (l h m k : Int32) : Int64 × Int64 := if l < 0 ∨ m < 0 then (-2147483648, 2147483647) else (0, lN (rr_on (rr_xi h k) 31 0))
def rr_o8 (l h m k : Int32) : Int64 × Int64 := if m = k then (l.toInt64 * rr_by m, h.toInt64 * rr_by m) else (-2147483648, 2147483647)
def rr_o9 (l h m k : Int32) : Int64 × Int64 := if m = k then ((l >>> ((m &&& 31) &&& 31)).toInt64, (h >>> ((m &&& 31) &&& 31)).toInt64) else ((rr_ni l 0).toInt64, (rr_xi h (-1)).toInt64)
def rr_op (op l h m k : Int32) : Int64 × Int64 :=
  if op = 0 then (l.toInt64 + m.toInt64, h.toInt64 + k.toInt64)
  else if op = 1 then (l.toInt64 - k.toInt64, h.toInt64 - m.toInt64)
  else if op = 2 then rr_o2 l.toInt64 h.toInt64 m.toInt64 k.toInt64
  else if op = 3 then rr_qs l.toInt64 h.toInt64 m.toInt64 k.toInt64
  else if op = 4 then rr_rs l.toInt64 h.toInt64 m.toInt64 k.toInt64
  else if op = 5 then rr_o5 l h m k
  else if op = 6 ∨ op = 7 then rr_o6 l h m k
  else if op = 8 then rr_o8 l h m k
  else rr_o9 l h m k
def rr_wk (f : Nat → Int32) (n : Nat) (lo hi op l h m k : Int32) : Int32 × Int32 × Int32 :=
  if (¬ op < 0 ∧ ¬ 9 < op) ∧ rr_rg f n l h = true ∧ rr_rg f n m k = true then
    (if (op = 3 ∨ op = 4) ∧ m = 0 ∧ k = 0 then (0, lo, hi) else (1, rr_tl f n (rr_op op l h m k).1 (rr_op op l h m k).2))
  else (-1, lo, hi)
def rr_ng (f : Nat → Int32) (n : Nat) (lo hi l h : Int32) : Int32 × Int32 × Int32 := if rr_rg f n l h = true then (1, rr_tl f n (-h.toInt64) (-l.toInt64)) else (0, lo, hi)
-- numbers
theorem rr_m32 : (-2147483648 : Int32).toInt = -2147483648 := rfl
theorem rr_x32 : (2147483647 : Int32).toInt = 2147483647 := rfl
theorem rr_m64 : (-2147483648 : Int64).toInt = -2147483648 := rfl
theorem rr_x64 : (2147483647 : Int64).toInt = 2147483647 := rfl
theorem rr_mL : (-9223372036854775808 : Int64).toInt = -9223372036854775808 := rfl
theorem rr_xL : (9223372036854775807 : Int64).toInt = 9223372036854775807 := rfl
theorem rr_0L : (0 : Int64).toInt = 0 := rfl
theorem rr_1L : (1 : Int64).toInt = 1 := rfl
theorem rr_nL : (-1 : Int64).toInt = -1 := rfl
theorem rr_0I : (0 : Int32).toInt = 0 := rfl
theorem rr_nI1 : (-1 : Int32).toInt = -1 := rfl
theorem rr_bm {x : Int} (h1 : -9223372036854775808 ≤ x) (h2 : x < 9223372036854775808) : x.bmod (2 ^ 64) = x := by
  rw [Int.bmod_def]
  split <;> omega
theorem rr_bm32 {x : Int} (h1 : -2147483648 ≤ x) (h2 : x < 2147483648) : x.bmod (2 ^ 32) = x := by
  rw [Int.bmod_def]
  split <;> omega
theorem rr_bd (x : Int32) : -2147483648 ≤ x.toInt ∧ x.toInt < 2147483648 := ⟨x.le_toInt, x.toInt_lt⟩
theorem rr_bdL (x : Int64) : -9223372036854775808 ≤ x.toInt ∧ x.toInt < 9223372036854775808 := ⟨x.le_toInt, x.toInt_lt⟩
-- down and up
theorem rr_dn_le (f : Nat → Int32) (v : Int32) : ∀ k, rr_dn f v k ≤ v
  | 0 => by
    show (-2147483648 : Int32) ≤ v
    rw [Int32.le_iff_toInt_le, rr_m32]
    exact (rr_bd v).1
  | k + 1 => by
    unfold rr_dn
    split
    · rename_i h; exact h.1
    · exact rr_dn_le f v k
theorem rr_up_ge (f : Nat → Int32) (v : Int32) : ∀ k, v ≤ rr_up f v k
  | 0 => by
    show v ≤ (2147483647 : Int32)
    rw [Int32.le_iff_toInt_le, rr_x32]
    have := (rr_bd v).2
    omega
  | k + 1 => by
    unfold rr_up
    split
    · rename_i h; exact h.1
    · exact rr_up_ge f v k
theorem rr_dn_fd (f : Nat → Int32) (v : Int32) : ∀ k, rr_fd f v k = true → rr_dn f v k = v
  | 0, h => by simp [rr_fd] at h
  | k + 1, h => by
    have hle := rr_dn_le f v k
    have ih := rr_dn_fd f v k
    simp only [rr_fd, Bool.or_eq_true, decide_eq_true_eq] at h
    unfold rr_dn
    simp only [Int32.le_iff_toInt_le, Int32.lt_iff_toInt_lt, ← Int32.toInt_inj] at *
    split
    · rename_i h1
      rcases h with h | h
      · have := ih h; omega
      · exact h
    · rename_i h1
      rcases h with h | h
      · exact ih h
      · omega
theorem rr_fd_dn (f : Nat → Int32) (v : Int32) : ∀ k, rr_dn f v k = v → v = -2147483648 ∨ rr_fd f v k = true
  | 0, h => Or.inl h.symm
  | k + 1, h => by
    unfold rr_dn at h
    simp only [rr_fd, Bool.or_eq_true, decide_eq_true_eq]
    split at h
    · exact Or.inr (Or.inr h)
    · rcases rr_fd_dn f v k h with h1 | h1
      · exact Or.inl h1
      · exact Or.inr (Or.inl h1)
theorem rr_up_fd (f : Nat → Int32) (v : Int32) : ∀ k, rr_fd f v k = true → rr_up f v k = v
  | 0, h => by simp [rr_fd] at h
  | k + 1, h => by
    have hle := rr_up_ge f v k
    have ih := rr_up_fd f v k
    simp only [rr_fd, Bool.or_eq_true, decide_eq_true_eq] at h
    unfold rr_up
    simp only [Int32.le_iff_toInt_le, Int32.lt_iff_toInt_lt, ← Int32.toInt_inj] at *
    split
    · rename_i h1
      rcases h with h | h
      · have := ih h; omega
      · exact h
    · rename_i h1
      rcases h with h | h
      · exact ih h
      · omega
theorem rr_fd_up (f : Nat → Int32) (v : Int32) : ∀ k, rr_up f v k = v → v = 2147483647 ∨ rr_fd f v k = true
  | 0, h => Or.inl h.symm
  | k + 1, h => by
    unfold rr_up at h
    simp only [rr_fd, Bool.or_eq_true, decide_eq_true_eq]
    split at h
    · exact Or.inr (Or.inr h)
    · rcases rr_fd_up f v k h with h1 | h1
      · exact Or.inl h1
      · exact Or.inr (Or.inl h1)
theorem rr_fd_of {f : Nat → Int32} {v : Int32} {j : Nat} : ∀ {k : Nat}, j < k → f j = v → rr_fd f v k = true
  | 0, h, _ => absurd h (Nat.not_lt_zero _)
  | k + 1, h, e => by
    simp only [rr_fd, Bool.or_eq_true, decide_eq_true_eq]
    by_cases hj : j = k
    · exact Or.inr (hj ▸ e)
    · exact Or.inl (rr_fd_of (by omega) e)
theorem rr_dn_iff {f : Nat → Int32} {n : Nat} (h : rr_ok f n) (v : Int32) : rr_dn f v n = v ↔ rr_fd f v n = true := by
  refine ⟨fun e => ?_, rr_dn_fd f v n⟩
  rcases rr_fd_dn f v n e with h1 | h1
  · exact rr_fd_of (j := 0) (by have := h.1; omega) (by rw [h.2 0 (by decide), h1]; rfl)
  · exact h1
theorem rr_up_iff {f : Nat → Int32} {n : Nat} (h : rr_ok f n) (v : Int32) : rr_up f v n = v ↔ rr_fd f v n = true := by
  refine ⟨fun e => ?_, rr_up_fd f v n⟩
  rcases rr_fd_up f v n e with h1 | h1
  · exact rr_fd_of (j := 6) (by have := h.1; omega) (by rw [h.2 6 (by decide), h1]; rfl)
  · exact h1
theorem rr_dn_min (f : Nat → Int32) (k : Nat) : rr_dn f (-2147483648) k = -2147483648 := by
  have h := rr_dn_le f (-2147483648) k
  rw [Int32.le_iff_toInt_le, rr_m32] at h
  rw [← Int32.toInt_inj, rr_m32]
  have := (rr_bd (rr_dn f (-2147483648) k)).1
  omega
theorem rr_up_max (f : Nat → Int32) (k : Nat) : rr_up f 2147483647 k = 2147483647 := by
  have h := rr_up_ge f 2147483647 k
  rw [Int32.le_iff_toInt_le, rr_x32] at h
  rw [← Int32.toInt_inj, rr_x32]
  have := (rr_bd (rr_up f 2147483647 k)).2
  omega
theorem rr_tl_all (f : Nat → Int32) (n : Nat) : rr_tl f n (-2147483648) 2147483647 = (-2147483648, 2147483647) := by
  unfold rr_tl
  rw [if_pos (by decide)]
  show (rr_dn f (-2147483648) n, rr_up f 2147483647 n) = _
  rw [rr_dn_min, rr_up_max]
end
section
/-! the operations: orders, and the class's way against the reference's -/
theorem rr_rg_iff {f : Nat → Int32} {n : Nat} {x y : Int32} : rr_rg f n x y = true ↔ x ≤ y ∧ rr_fd f x n = true ∧ rr_fd f y n = true := by simp [rr_rg]
theorem rr_mn_t (x y : Int64) : (rr_mn x y).toInt = min x.toInt y.toInt := by
  unfold rr_mn
  simp only [Int64.lt_iff_toInt_lt]
  split <;> omega
theorem rr_mx_t (x y : Int64) : (rr_mx x y).toInt = max x.toInt y.toInt := by
  unfold rr_mx
  simp only [Int64.lt_iff_toInt_lt]
  split <;> omega
theorem rr_ni_t (x y : Int32) : (rr_ni x y).toInt = min x.toInt y.toInt := by
  unfold rr_ni
  simp only [Int32.lt_iff_toInt_lt]
  split <;> omega
theorem rr_xi_t (x y : Int32) : (rr_xi x y).toInt = max x.toInt y.toInt := by
  unfold rr_xi
  simp only [Int32.lt_iff_toInt_lt]
  split <;> omega
theorem rr_mn4 (p q r s : Int64) : rr_mn (rr_mn (rr_mn (rr_mn 9223372036854775807 p) q) r) s = rr_mn (rr_mn p q) (rr_mn r s) := by
  rw [← Int64.toInt_inj]
  simp only [rr_mn_t, rr_xL]
  have := (rr_bdL p).2
  omega
theorem rr_mx4 (p q r s : Int64) : rr_mx (rr_mx (rr_mx (rr_mx (-9223372036854775808) p) q) r) s = rr_mx (rr_mx p q) (rr_mx r s) := by
  rw [← Int64.toInt_inj]
  simp only [rr_mx_t, rr_mL]
  have := (rr_bdL p).1
  omega
theorem rr_mn3 (p q r : Int64) : rr_mn (rr_mn p q) r = rr_mn p (rr_mn q r) := by
  rw [← Int64.toInt_inj]
  simp only [rr_mn_t]
  omega
theorem rr_mx3 (p q r : Int64) : rr_mx (rr_mx p q) r = rr_mx p (rr_mx q r) := by
  rw [← Int64.toInt_inj]
  simp only [rr_mx_t]
  omega
theorem rr_mnS (p q r : Int64) : rr_mn (rr_mn p q) r = rr_mn (rr_mn p r) q := by
  rw [← Int64.toInt_inj]
  simp only [rr_mn_t]
  omega
theorem rr_mxS (p q r : Int64) : rr_mx (rr_mx p q) r = rr_mx (rr_mx p r) q := by
  rw [← Int64.toInt_inj]
  simp only [rr_mx_t]
  omega
-- thresholds added
theorem rr_ad_of {f f1 : Nat → Int32} {n n1 : Nat} {v : Int32} (hk : rr_ok f n) (g : rr_ad f n v = (f1, n1)) : rr_ok f1 n1 ∧ n ≤ n1 ∧ n1 ≤ n + 1 := by
  unfold rr_ad at g
  split at g
  · cases g
    exact ⟨hk, Nat.le_refl _, by omega⟩
  · cases g
    refine ⟨⟨by have := hk.1; omega, fun j hj => ?_⟩, by omega, Nat.le_refl _⟩
    have h7 := hk.1
    show (if j = n then v else f j) = _
    rw [if_neg (by omega)]
    exact hk.2 j hj
theorem rr_al_of {f f1 : Nat → Int32} {n n1 : Nat} {v : Int64} (hk : rr_ok f n) (g : rr_al f n v = (f1, n1)) : rr_ok f1 n1 ∧ n ≤ n1 ∧ n1 ≤ n + 1 := by
  unfold rr_al at g
  split at g
  · exact rr_ad_of hk g
  · cases g
    exact ⟨hk, Nat.le_refl _, by omega⟩
theorem rr_sub1 (v : Int32) : (v.toInt64 - 1).toInt = v.toInt - 1 := by
  have := rr_bd v
  rw [Int64.toInt_sub, Int32.toInt_toInt64, rr_1L, rr_bm (by omega) (by omega)]
theorem rr_add1 (v : Int32) : (v.toInt64 + 1).toInt = v.toInt + 1 := by
  have := rr_bd v
  rw [Int64.toInt_add, Int32.toInt_toInt64, rr_1L, rr_bm (by omega) (by omega)]
theorem rr_e1 {f : Nat → Int32} {n : Nat} {v : Int32} (h : v ≤ -2147483648) : rr_al f n (v.toInt64 - 1) = (f, n) := by
  refine if_neg (fun z => ?_)
  have z1 := z.1
  rw [Int64.le_iff_toInt_le, rr_sub1, rr_m64] at z1
  rw [Int32.le_iff_toInt_le, rr_m32] at h
  omega
theorem rr_e2 {f : Nat → Int32} {n : Nat} {v : Int32} (h : ¬ v ≤ -2147483648) : rr_al f n (v.toInt64 - 1) = rr_ad f n (v - 1) := by
  have hb := rr_bd v
  rw [Int32.le_iff_toInt_le, rr_m32] at h
  have e : (v.toInt64 - 1).toInt32 = v - 1 := by
    rw [← Int32.toInt_inj, Int64.toInt_toInt32, rr_sub1, Int32.toInt_sub]
    rfl
  unfold rr_al
  rw [e]
  refine if_pos ?_
  rw [Int64.le_iff_toInt_le, Int64.le_iff_toInt_le, rr_sub1, rr_m64, rr_x64]
  omega
theorem rr_e3 {f : Nat → Int32} {n : Nat} {v : Int32} : rr_al f n v.toInt64 = rr_ad f n v := by
  have hb := rr_bd v
  unfold rr_al
  rw [Int32.toInt32_toInt64]
  refine if_pos ?_
  rw [Int64.le_iff_toInt_le, Int64.le_iff_toInt_le, Int32.toInt_toInt64, rr_m64, rr_x64]
  omega
theorem rr_e4 {f : Nat → Int32} {n : Nat} {v : Int32} (h : 2147483647 ≤ v) : rr_al f n (v.toInt64 + 1) = (f, n) := by
  refine if_neg (fun z => ?_)
  have z1 := z.2
  rw [Int64.le_iff_toInt_le, rr_add1, rr_x64] at z1
  rw [Int32.le_iff_toInt_le, rr_x32] at h
  omega
theorem rr_e5 {f : Nat → Int32} {n : Nat} {v : Int32} (h : ¬ 2147483647 ≤ v) : rr_al f n (v.toInt64 + 1) = rr_ad f n (v + 1) := by
  have hb := rr_bd v
  rw [Int32.le_iff_toInt_le, rr_x32] at h
  have e : (v.toInt64 + 1).toInt32 = v + 1 := by
    rw [← Int32.toInt_inj, Int64.toInt_toInt32, rr_add1, Int32.toInt_add]
    rfl
  unfold rr_al
  rw [e]
  refine if_pos ?_
  rw [Int64.le_iff_toInt_le, Int64.le_iff_toInt_le, rr_add1, rr_m64, rr_x64]
  omega
-- quotients
theorem rr_qm_t {a b l h d : Int64} (hd : ¬ d = 0) : rr_qm (decide (¬ d = 0)) l h d (a, b) = (rr_mn (rr_mn a (l / d)) (h / d), rr_mx (rr_mx b (l / d)) (h / d)) := by
  unfold rr_qm
  rw [if_pos (by simp [hd]), rr_mn3, rr_mx3]
theorem rr_qm_f {l h d : Int64} {z : Int64 × Int64} (hd : d = 0) : rr_qm (decide (¬ d = 0)) l h d z = z := by
  unfold rr_qm
  rw [if_neg (by simp [hd])]
theorem rr_qm_s (c1 c2 : Bool) (l h d1 d2 : Int64) (z : Int64 × Int64) : rr_qm c1 l h d1 (rr_qm c2 l h d2 z) = rr_qm c2 l h d2 (rr_qm c1 l h d1 z) := by
  unfold rr_qm
  cases c1 <;> cases c2 <;> simp only [if_true, if_false, Bool.false_eq_true] <;> try rfl
  rw [rr_mnS, rr_mxS]
theorem rr_qc_m {m n : Int64} (h : m ≤ n) : rr_qc m n m = decide (¬ m = 0) := by
  unfold rr_qc
  simp [h]
theorem rr_qc_n {m n : Int64} (h : m ≤ n) : rr_qc m n n = decide (¬ n = 0) := by
  unfold rr_qc
  simp [h]
theorem rr_qs_x {l h m n : Int64} (hmn : m ≤ n) : rr_qs l h m n = rr_qm (rr_qc m n 1) l h 1 (rr_qm (rr_qc m n (-1)) l h (-1) (rr_qm (decide (¬ n = 0)) l h n (rr_qm (decide (¬ m = 0)) l h m rr_q0))) := by
  unfold rr_qs
  rw [rr_qc_m hmn, rr_qc_n hmn]
  rw [rr_qm_s _ _ _ _ m 1, rr_qm_s _ _ _ _ n 1, rr_qm_s _ _ _ _ m (-1), rr_qm_s _ _ _ _ n (-1)]
theorem rr_qm_1 {c : Bool} {l h d : Int64} {z : Int64 × Int64} (hc : c = true) : (rr_qm c l h d z).1 ≤ (rr_qm c l h d z).2 := by
  unfold rr_qm
  rw [if_pos hc, Int64.le_iff_toInt_le]
  simp only [rr_mn_t, rr_mx_t]
  omega
theorem rr_qm_2 {c : Bool} {l h d : Int64} {z : Int64 × Int64} (hz : z.1 ≤ z.2) : (rr_qm c l h d z).1 ≤ (rr_qm c l h d z).2 := by
  unfold rr_qm
  rw [Int64.le_iff_toInt_le] at *
  split
  · simp only [rr_mn_t, rr_mx_t]
    omega
  · exact hz
theorem rr_qs_le {l h m n : Int64} (hmn : m ≤ n) (h0 : ¬ (m = 0 ∧ n = 0)) : (rr_qs l h m n).1 ≤ (rr_qs l h m n).2 := by
  rw [rr_qs_x hmn]
  refine rr_qm_2 (rr_qm_2 ?_)
  by_cases hm : m = 0
  · exact rr_qm_1 (by simp; exact fun z => h0 ⟨hm, z⟩)
  · exact rr_qm_2 (rr_qm_1 (by simp [hm]))
theorem rr_qs_0 (l h : Int64) : rr_qs l h 0 0 = rr_q0 := by
  rw [rr_qs_x (by decide)]
  rw [rr_qm_f rfl, rr_qm_f rfl]
  rfl
-- the reference's tell, where the ends are in order
theorem rr_tl_t {f : Nat → Int32} {n : Nat} {x y : Int64} (h : x ≤ y) (h1 : -2147483648 ≤ x) (h2 : y ≤ 2147483647) : rr_tl f n x y = (rr_dn f x.toInt32 n, rr_up f y.toInt32 n) := by
  refine if_pos ?_
  simp only [Int64.le_iff_toInt_le, rr_m64, rr_x64] at *
  omega
theorem rr_tl_1 {f : Nat → Int32} {n : Nat} {x y : Int64} (h1 : x < -2147483648) : rr_tl f n x y = (-2147483648, 2147483647) := by
  refine if_neg ?_
  simp only [Int64.le_iff_toInt_le, Int64.lt_iff_toInt_lt, rr_m64, rr_x64] at *
  omega
theorem rr_tl_2 {f : Nat → Int32} {n : Nat} {x y : Int64} (h1 : 2147483647 < y) : rr_tl f n x y = (-2147483648, 2147483647) := by
  refine if_neg ?_
  simp only [Int64.le_iff_toInt_le, Int64.lt_iff_toInt_lt, rr_m64, rr_x64] at *
  omega
-- the orders of what is told
theorem rr_le0 {l h m k : Int32} (h1 : l ≤ h) (h2 : m ≤ k) : l.toInt64 + m.toInt64 ≤ h.toInt64 + k.toInt64 := by
  have a1 := rr_bd l; have a2 := rr_bd h; have a3 := rr_bd m; have a4 := rr_bd k
  rw [Int32.le_iff_toInt_le] at h1 h2
  rw [Int64.le_iff_toInt_le, Int64.toInt_add, Int64.toInt_add]
  simp only [Int32.toInt_toInt64]
  rw [rr_bm (by omega) (by omega), rr_bm (by omega) (by omega)]
  omega
theorem rr_le1 {l h m k : Int32} (h1 : l ≤ h) (h2 : m ≤ k) : l.toInt64 - k.toInt64 ≤ h.toInt64 - m.toInt64 := by
  have a1 := rr_bd l; have a2 := rr_bd h; have a3 := rr_bd m; have a4 := rr_bd k
  rw [Int32.le_iff_toInt_le] at h1 h2
  rw [Int64.le_iff_toInt_le, Int64.toInt_sub, Int64.toInt_sub]
  simp only [Int32.toInt_toInt64]
  rw [rr_bm (by omega) (by omega), rr_bm (by omega) (by omega)]
  omega
theorem rr_neg_t (v : Int32) : (-v.toInt64).toInt = -v.toInt := by
  have := rr_bd v
  rw [Int64.toInt_neg, Int32.toInt_toInt64, rr_bm (by omega) (by omega)]
theorem rr_leN {l h : Int32} (h1 : l ≤ h) : -h.toInt64 ≤ -l.toInt64 := by
  rw [Int64.le_iff_toInt_le, rr_neg_t, rr_neg_t]
  rw [Int32.le_iff_toInt_le] at h1
  omega
theorem rr_le2 (p q r s : Int64) : rr_mn (rr_mn p q) (rr_mn r s) ≤ rr_mx (rr_mx p q) (rr_mx r s) := by
  rw [Int64.le_iff_toInt_le]
  simp only [rr_mn_t, rr_mx_t]
  omega
theorem rr_ab_t (v : Int32) : (rr_ab v.toInt64).toInt = max v.toInt (-v.toInt) := by
  unfold rr_ab
  simp only [Int64.lt_iff_toInt_lt, rr_0L, Int32.toInt_toInt64]
  split
  · rw [Int32.toInt_toInt64]; omega
  · rw [rr_neg_t]; omega
theorem rr_am_t {m k : Int32} (h0 : ¬ (m = 0 ∧ k = 0)) : ∃ w : Int, (rr_mx (rr_ab m.toInt64) (rr_ab k.toInt64) - 1).toInt = w ∧ 0 ≤ w ∧ w < 2147483648 ∧ (-(rr_mx (rr_ab m.toInt64) (rr_ab k.toInt64) - 1)).toInt = -w := by
  have a3 := rr_bd m; have a4 := rr_bd k
  have e : (rr_mx (rr_ab m.toInt64) (rr_ab k.toInt64) - 1).toInt = max (max m.toInt (-m.toInt)) (max k.toInt (-k.toInt)) - 1 := by
    rw [Int64.toInt_sub, rr_1L, rr_mx_t, rr_ab_t, rr_ab_t, rr_bm (by omega) (by omega)]
  have hne : ¬ (m.toInt = 0 ∧ k.toInt = 0) := fun z => h0 ⟨Int32.toInt_inj.mp z.1, Int32.toInt_inj.mp z.2⟩
  refine ⟨_, e, by omega, by omega, ?_⟩
  rw [Int64.toInt_neg, e, rr_bm (by omega) (by omega)]
theorem rr_le4 {l h m k : Int32} (h1 : l ≤ h) (h0 : ¬ (m = 0 ∧ k = 0)) : (rr_rs l.toInt64 h.toInt64 m.toInt64 k.toInt64).1 ≤ (rr_rs l.toInt64 h.toInt64 m.toInt64 k.toInt64).2 := by
  obtain ⟨w, e1, w1, w2, e2⟩ := rr_am_t h0
  have a1 := rr_bd l; have a2 := rr_bd h
  rw [Int32.le_iff_toInt_le] at h1
  unfold rr_rs
  simp only [Int64.le_iff_toInt_le, rr_0L, Int32.toInt_toInt64]
  split
  · simp only [rr_mn_t, rr_0L, e1, Int32.toInt_toInt64]
    omega
  · split
    · simp only [rr_mx_t, rr_0L, e2, Int32.toInt_toInt64]
      omega
    · simp only [rr_mx_t, rr_mn_t, rr_0L, e1, e2, Int32.toInt_toInt64]
      omega
theorem rr_le5 {l h m k : Int32} (h1 : l ≤ h) (h2 : m ≤ k) : (rr_o5 l h m k).1 ≤ (rr_o5 l h m k).2 := by
  rw [Int32.le_iff_toInt_le] at h1 h2
  unfold rr_o5
  simp only [Int32.lt_iff_toInt_lt, rr_0I]
  split
  · decide
  · split
    · rw [Int64.le_iff_toInt_le, rr_0L, Int32.toInt_toInt64]; omega
    · split
      · rw [Int64.le_iff_toInt_le, rr_0L, Int32.toInt_toInt64]; omega
      · rw [Int64.le_iff_toInt_le, rr_0L, Int32.toInt_toInt64, rr_ni_t]; omega
theorem rr_on_lt (v : Int32) : ∀ (k a : Nat), (a + 1) * 2 ^ k ≤ 2147483648 → rr_on v k a + 1 ≤ 2147483648
  | 0, a, h => by
    show a + 1 ≤ _
    simpa using h
  | k + 1, a, h => by
    have h3 : (a + 1) * 2 ^ (k + 1) = (2 * a + 1 + 1) * 2 ^ k := by
      rw [Nat.pow_succ, Nat.mul_comm (2 ^ k) 2, ← Nat.mul_assoc]
      congr 1
      omega
    unfold rr_on
    split
    · exact rr_on_lt v k (2 * a + 1) (by rw [← h3]; exact h)
    · exact Nat.le_trans (Nat.le_mul_of_pos_right _ (Nat.pow_pos (by decide))) h
theorem rr_on_b (v : Int32) : rr_on v 31 0 < 2147483648 := rr_on_lt v 31 0 (by decide)
theorem rr_le6 (l h m k : Int32) : (rr_o6 l h m k).1 ≤ (rr_o6 l h m k).2 := by
  unfold rr_o6
  split
  · decide
  · rw [Int64.le_iff_toInt_le, rr_0L]
    show 0 ≤ (lN _).toInt
    rw [lN_toInt (rr_on_b _)]
    omega
theorem rr_by_d : ∀ j, j < 32 → (1 : Int64) <<< ((nI j).toInt64 &&& 63) = lN (2 ^ j) := by decide +kernel
theorem rr_by_t (m : Int32) : 0 ≤ (rr_by m).toInt ∧ (rr_by m).toInt ≤ 2147483648 := by
  obtain ⟨j, hj, e⟩ := pk_andE m (m := 31) 5 (by decide)
  have hj : j < 32 := hj
  unfold rr_by
  rw [e, rr_by_d j hj]
  have h1 : 2 ^ j ≤ 2 ^ 31 := Nat.pow_le_pow_right (by decide) (by omega)
  generalize 2 ^ j = q at h1 ⊢
  have h2 : (2 : Nat) ^ 31 = 2147483648 := by decide
  rw [pk_lT (by omega)]
  omega
theorem rr_mul_t {L B : Int} (h1 : -2147483648 ≤ L) (h2 : L < 2147483648) (h3 : 0 ≤ B) (h4 : B ≤ 2147483648) : -4611686018427387904 ≤ L * B ∧ L * B ≤ 4611686018427387904 := by
  have a1 : -2147483648 * B ≤ L * B := Int.mul_le_mul_of_nonneg_right h1 h3
  have a2 : L * B ≤ 2147483648 * B := Int.mul_le_mul_of_nonneg_right (by omega) h3
  omega
theorem rr_le8 {l h : Int32} (m k : Int32) (h1 : l ≤ h) : (rr_o8 l h m k).1 ≤ (rr_o8 l h m k).2 := by
  have a1 := rr_bd l; have a2 := rr_bd h; have a3 := rr_by_t m
  rw [Int32.le_iff_toInt_le] at h1
  unfold rr_o8
  split
  · rw [Int64.le_iff_toInt_le, Int64.toInt_mul, Int64.toInt_mul, Int32.toInt_toInt64, Int32.toInt_toInt64]
    have b1 := rr_mul_t a1.1 a1.2 a3.1 a3.2
    have b2 := rr_mul_t a2.1 a2.2 a3.1 a3.2
    rw [rr_bm (by omega) (by omega), rr_bm (by omega) (by omega)]
    exact Int.mul_le_mul_of_nonneg_right h1 a3.1
  · decide
theorem rr_o8x {l h m : Int32} (h1 : l ≤ h) : rr_o2 l.toInt64 h.toInt64 (rr_by m) (rr_by m) = (l.toInt64 * rr_by m, h.toInt64 * rr_by m) := by
  have h2 := rr_le8 m m h1
  unfold rr_o8 at h2
  rw [if_pos rfl, Int64.le_iff_toInt_le] at h2
  unfold rr_o2
  refine Prod.ext ?_ ?_
  · show rr_mn _ _ = _
    rw [← Int64.toInt_inj]
    simp only [rr_mn_t] at *
    omega
  · show rr_mx _ _ = _
    rw [← Int64.toInt_inj]
    simp only [rr_mx_t] at *
    omega
theorem rr_sh_d : ∀ j, j < 32 → ((nI j &&& 31).toBitVec.smod 32).toNat = j := by decide +kernel
theorem rr_le9 {l h : Int32} (m k : Int32) (h1 : l ≤ h) : (rr_o9 l h m k).1 ≤ (rr_o9 l h m k).2 := by
  have a1 := rr_bd l; have a2 := rr_bd h
  rw [Int32.le_iff_toInt_le] at h1
  unfold rr_o9
  split
  · obtain ⟨j, hj, e⟩ := pk_andE m (m := 31) 5 (by decide)
    have hj : j < 32 := hj
    rw [e, Int64.le_iff_toInt_le, Int32.toInt_toInt64, Int32.toInt_toInt64, pk_shr l _ j (rr_sh_d j hj), pk_shr h _ j (rr_sh_d j hj), Int.shiftRight_eq_div_pow, Int.shiftRight_eq_div_pow]
    exact Int.ediv_le_ediv (by exact_mod_cast Nat.pow_pos (by decide)) h1
  · rw [Int64.le_iff_toInt_le, Int32.toInt_toInt64, Int32.toInt_toInt64, rr_ni_t, rr_xi_t, rr_0I, rr_nI1]
    omega
theorem rr_ten {x : Int32} (h0 : ¬ x < 0) (h9 : ¬ 9 < x) : x = 0 ∨ x = 1 ∨ x = 2 ∨ x = 3 ∨ x = 4 ∨ x = 5 ∨ x = 6 ∨ x = 7 ∨ x = 8 ∨ x = 9 := by
  obtain ⟨j, hj, e⟩ := nI_of2 (x := x) (M := 9) (n := 9) (by decide) h0 (Int32.not_lt.mp h9)
  subst e
  have h : ∀ j, j ≤ 9 → nI j = 0 ∨ nI j = 1 ∨ nI j = 2 ∨ nI j = 3 ∨ nI j = 4 ∨ nI j = 5 ∨ nI j = 6 ∨ nI j = 7 ∨ nI j = 8 ∨ nI j = 9 := by decide
  exact h j hj
theorem rr_qc_in {m n d : Int64} (h0 : ¬ d = 0) (h1 : m ≤ d) (h2 : d ≤ n) : rr_qc m n d = decide (¬ d = 0) := by
  unfold rr_qc
  simp [h0, h1, h2]
theorem rr_qc_lo {m n d : Int64} (h1 : d < m) : rr_qc m n d = false := by
  unfold rr_qc
  exact decide_eq_false (fun z => absurd z.2.1 (Int64.not_le.mpr h1))
theorem rr_qc_hi {m n d : Int64} (h1 : n < d) : rr_qc m n d = false := by
  unfold rr_qc
  exact decide_eq_false (fun z => absurd z.2.2 (Int64.not_le.mpr h1))
theorem rr_qm_no {l h d : Int64} {z : Int64 × Int64} : rr_qm false l h d z = z := rfl
theorem rr_64 {x y : Int32} (h : x ≤ y) : x.toInt64 ≤ y.toInt64 := by
  rw [Int64.le_iff_toInt_le, Int32.toInt_toInt64, Int32.toInt_toInt64]
  exact Int32.le_iff_toInt_le.mp h
-- for the reference's side
theorem rr_dn_x {f : Nat → Int32} {v : Int32} {i : Nat} (h : f i ≤ v) : rr_dn f v (i + 1) = rr_xi (rr_dn f v i) (f i) := by
  show (if f i ≤ v ∧ rr_dn f v i < f i then f i else rr_dn f v i) = (if rr_dn f v i < f i then f i else rr_dn f v i)
  by_cases h1 : rr_dn f v i < f i
  · rw [if_pos ⟨h, h1⟩, if_pos h1]
  · rw [if_neg (fun z => h1 z.2), if_neg h1]
theorem rr_up_x {f : Nat → Int32} {v : Int32} {i : Nat} (h : v ≤ f i) : rr_up f v (i + 1) = rr_ni (rr_up f v i) (f i) := by
  show (if v ≤ f i ∧ f i < rr_up f v i then f i else rr_up f v i) = (if f i < rr_up f v i then f i else rr_up f v i)
  by_cases h1 : f i < rr_up f v i
  · rw [if_pos ⟨h, h1⟩, if_pos h1]
  · rw [if_neg (fun z => h1 z.2), if_neg h1]
theorem rr_on_c {v : Int32} {a : Nat} (ha : a < 2147483648) : v.toInt64 ≤ lN a ↔ ¬ nI a < v := by
  rw [Int64.le_iff_toInt_le, Int32.lt_iff_toInt_lt, Int32.toInt_toInt64, lN_toInt ha, nI_toInt ha]
  omega
theorem rr_wi32 {w : Int64} (h1 : -2147483648 ≤ w) (h2 : w ≤ 2147483647) (x : Int32) : x.toInt64 = w ↔ x = w.toInt32 := by
  rw [Int64.le_iff_toInt_le, rr_m64] at h1
  rw [Int64.le_iff_toInt_le, rr_x64] at h2
  rw [← Int64.toInt_inj, ← Int32.toInt_inj, Int32.toInt_toInt64, Int64.toInt_toInt32, rr_bm32 h1 (by omega)]
theorem rr_fd_not {f : Nat → Int32} {v : Int32} : ∀ {k : Nat}, (∀ j, j < k → ¬ f j = v) → rr_fd f v k = false
  | 0, _ => rfl
  | k + 1, h => by
    show (rr_fd f v k || decide (f k = v)) = false
    rw [rr_fd_not (fun j hj => h j (Nat.lt_succ_of_lt hj)), decide_eq_false (h k (Nat.lt_succ_self k))]
    rfl
theorem rr_first_ne : ∀ k, k < 7 → ∀ j, j < k → ¬ rr_first j = rr_first k := by decide
theorem rr_c7 {g : Nat → Int32} {w : Int64} (k : Nat) (hk : k < 7) (hg : ∀ j, j < k → g j = rr_first j) (hw : w = (rr_first k).toInt64) : ∃ g1 : Nat → Int32, rr_al g k w = (g1, k + 1) ∧ ∀ j, j < k + 1 → g1 j = rr_first j := by
  refine ⟨upd g k (rr_first k), ?_, fun j hj => ?_⟩
  · rw [hw, rr_e3]
    unfold rr_ad
    rw [if_neg]
    rw [rr_fd_not (fun j hj => by rw [hg j hj]; exact rr_first_ne k hk j hj)]
    decide
  · show (if j = k then rr_first k else g j) = _
    by_cases h : j = k
    · rw [if_pos h, h]
    · rw [if_neg h]
      exact hg j (by omega)
theorem rr_t1 (v : Int32) : ¬ 0 < lg_cmp (v.toInt64 - 1) (v.toInt64 + 1) := by
  rw [lg_cmp_gt, Int64.lt_iff_toInt_lt, rr_sub1, rr_add1]
  omega
theorem rr_t2 (v : Int32) : ¬ 0 < lg_cmp v.toInt64 (v.toInt64 + 1) := by
  rw [lg_cmp_gt, Int64.lt_iff_toInt_lt, rr_add1, Int32.toInt_toInt64]
  omega
theorem rr_t3 (v : Int32) : ¬ 0 < lg_cmp (v.toInt64 + 1) (v.toInt64 + 1) := by
  rw [lg_cmp_gt, Int64.lt_iff_toInt_lt]
  omega
theorem rr_t4 (v : Int32) : 0 < lg_cmp (v.toInt64 + 1 + 1) (v.toInt64 + 1) := by
  have hb := rr_bd v
  rw [lg_cmp_gt, Int64.lt_iff_toInt_lt, Int64.toInt_add (v.toInt64 + 1), rr_add1, rr_1L, rr_bm (by omega) (by omega)]
  omega
theorem rr_z64 {x : Int32} : x.toInt64 = 0 ↔ x = 0 := by
  rw [← Int64.toInt_inj, ← Int32.toInt_inj, Int32.toInt_toInt64, rr_0L, rr_0I]
theorem rr_ge64 {x : Int32} : (0 : Int64) ≤ x.toInt64 ↔ ¬ x < 0 := by
  rw [Int64.le_iff_toInt_le, Int32.lt_iff_toInt_lt, Int32.toInt_toInt64, rr_0L, rr_0I]
  omega
theorem rr_le64 {x : Int32} : x.toInt64 ≤ 0 ↔ ¬ 0 < x := by
  rw [Int64.le_iff_toInt_le, Int32.lt_iff_toInt_lt, Int32.toInt_toInt64, rr_0L, rr_0I]
  omega
end
section
set_option maxHeartbeats 1000000 in
set_option maxRecDepth 100000 in
/-- Span.empty() -/
theorem c_X0_empty (l : Launch) (D : va_G) (h0 sz : Nat) (a b : Int64)   : Met l yX0_empty wsX0_empty ({ frames := 0, cells := 0, slots := 0, locals := 0 }) (rr_pW D [(h0, .inr (0, [.long a, .long b]))] [] [.ref h0] sz) (va_Qv (fun (_ : Unit) => True) (fun _ tt => va_P D vwCl [(h0, .inr (0, [.long 9223372036854775807, .long (-9223372036854775808)]))] tt.heap) (va_A [(h0, .inr (0, [.long a, .long b]))] sz)) 0 0 (va_A [(h0, .inr (0, [.long a, .long b]))] sz) := by
  refine Met.ofW (cc := cX0_empty) (maxL := 1) (ret := none) (by decide) rfl ?_
  intro p e s m args below meth c s₁ B hml hv
  obtain ⟨rfl, hsz, hP, hK, hD0⟩ := hv
  have hx := B.exec
  have hb := B.bytes
  have hr := B.returns
  have hts := atoms_spec (ws := wsX0_empty) B.pre
  have hown : s.vm.findClass RX0 = some m.cls := findClass_of_methodNamed B.named
  have hlocks := B.notSynchronized
  subst hsz
  have hD := hD0.self (sz := s.heap.size)
  generalize hAe : va_A [(h0, .inr (0, [.long a, .long b]))] s.heap.size = A at hD ⊢
  have hA : ∀ q : Nat, s.heap.size ≤ q → A q := fun q h => by rw [← hAe]; exact Or.inr h
  have hS : va_S A s.heap s.heap [] := va_S.rf
  have hP : va_P D vwCl [(h0, .inr (0, [.long a, .long b]))] s.heap := hP
  have hiX0 : ∀ w ∈ wsX00, w ∈ wsX0_empty := by decide +kernel
  have hl := lv_entry ([.ref h0]) (n := 1) (Nat.le_of_ble_eq_true rfl)
  rw [lg_entry_eq]
  generalize (lg_sl ([.ref h0]) ++ List.replicate (1 - (lg_sl ([.ref h0])).length) Slot.unset).toArray = ls at hl ⊢
  have hl : lv_has ls 1 [(0, .ref h0)] := hl
  refine lv_aload_n hx hb dX0_empty_0 rfl (lv_at hl 0 rfl) ?_
  refine lv_ldc2 (v := 9223372036854775807) hx hb hown (hts (.constantLong RX0 9 9223372036854775807) (by decide +kernel)) dX0_empty_1 ?_
  refine va_put (D := D) (ci := 0) (v := .long 9223372036854775807) (ty := .long) (C := RX0) (T := TX0) (N := 2) hx hb hts hiX0 tyX0 tyX0_ok nmX0 hown hK hP hD hS 0 rfl rfl 0 (by decide) (hts (.fieldLink RX0 11 "RangeRules$Span" "least" "J") (by decide +kernel)) (fun _ h9 => h9) rfl (by decide +kernel) rfl rfl (Nat.le_of_ble_eq_true rfl) dX0_empty_4 (fun H locs hP hD hS => ?_)
  have hP : va_P D vwCl [(h0, .inr (0, [.long 9223372036854775807, .long b]))] H := hP
  have hD : va_D A [(h0, .inr (0, [.long 9223372036854775807, .long b]))] := hD
  refine lv_aload_n hx hb dX0_empty_7 rfl (lv_at hl 0 rfl) ?_
  refine lv_ldc2 (v := (-9223372036854775808)) hx hb hown (hts (.constantLong RX0 15 (-9223372036854775808)) (by decide +kernel)) dX0_empty_8 ?_
  refine va_put (D := D) (ci := 0) (v := .long ((-9223372036854775808))) (ty := .long) (C := RX0) (T := TX0) (N := 2) hx hb hts hiX0 tyX0 tyX0_ok nmX0 hown hK hP hD hS 0 rfl rfl 1 (by decide) (hts (.fieldLink RX0 17 "RangeRules$Span" "greatest" "J") (by decide +kernel)) (fun _ h9 => h9) rfl (by decide +kernel) rfl rfl (Nat.le_of_ble_eq_true rfl) dX0_empty_11 (fun H locs hP hD hS => ?_)
  have hP : va_P D vwCl [(h0, .inr (0, [.long 9223372036854775807, .long ((-9223372036854775808))]))] H := hP
  have hD : va_D A [(h0, .inr (0, [.long 9223372036854775807, .long ((-9223372036854775808))]))] := hD
  exact W.vret hx hb hr (fun tt ht hW => ⟨⟨(), rfl, trivial, by dsimp only; rw [ht]; exact hP⟩, hS.F ht⟩) hS.2.2 dX0_empty_14
set_option maxHeartbeats 1000000 in
set_option maxRecDepth 100000 in
/-- Span.take(x) -/
theorem c_X0_take (l : Launch) (D : va_G) (h0 sz : Nat) (a b : Int64) (x : Int64)  : Met l yX0_take wsX0_take ({ frames := 1, cells := 0, slots := 0, locals := 20 }) (rr_pW D [(h0, .inr (0, [.long a, .long b]))] [] [.ref h0, .long x] sz) (va_Qv (fun (_ : Unit) => True) (fun _ tt => va_P D vwCl [(h0, .inr (0, [.long (rr_mn a x), .long (rr_mx b x)]))] tt.heap) (va_A [(h0, .inr (0, [.long a, .long b]))] sz)) 0 0 (va_A [(h0, .inr (0, [.long a, .long b]))] sz) := by
  refine Met.ofW (cc := cX0_take) (maxL := 3) (ret := none) (by decide) rfl ?_
  intro p e s m args below meth c s₁ B hml hv
  obtain ⟨rfl, hsz, hP, hK, hD0⟩ := hv
  have hx := B.exec
  have hb := B.bytes
  have hr := B.returns
  have hts := atoms_spec (ws := wsX0_take) B.pre
  have hown : s.vm.findClass RX0 = some m.cls := findClass_of_methodNamed B.named
  have hlocks := B.notSynchronized
  subst hsz
  have hD := hD0.self (sz := s.heap.size)
  generalize hAe : va_A [(h0, .inr (0, [.long a, .long b]))] s.heap.size = A at hD ⊢
  have hA : ∀ q : Nat, s.heap.size ≤ q → A q := fun q h => by rw [← hAe]; exact Or.inr h
  have hS : va_S A s.heap s.heap [] := va_S.rf
  have hP : va_P D vwCl [(h0, .inr (0, [.long a, .long b]))] s.heap := hP
  have hiX0 : ∀ w ∈ wsX00, w ∈ wsX0_take := by decide +kernel
  have hl := lv_entry ([.ref h0, .long x]) (n := 3) (Nat.le_of_ble_eq_true rfl)
  rw [lg_entry_eq]
  generalize (lg_sl ([.ref h0, .long x]) ++ List.replicate (3 - (lg_sl ([.ref h0, .long x])).length) Slot.unset).toArray = ls at hl ⊢
  have hl : lv_has ls 3 [(0, .ref h0), (1, .long x)] := hl
  refine lv_aload_n hx hb dX0_take_0 rfl (lv_at hl 0 rfl) ?_
  refine lv_aload_n hx hb dX0_take_1 rfl (lv_at hl 0 rfl) ?_
  refine va_get (D := D) (ci := 0) (v := .long a) (C := RX0) (T := TX0) (N := 2) hx hb hts hiX0 hown hK hP 0 rfl rfl 0 (by decide) (hts (.fieldLink RX0 11 "RangeRules$Span" "least" "J") (by decide +kernel)) (fun _ h9 => h9) rfl dX0_take_2 ?_
  refine lv_lload_n hx hb dX0_take_5 rfl (lv_at hl 1 rfl) ?_
  refine va_mmin_long hx hb (hml.trans hl.1.symm) hown (hts (.methodLink RX0 20 Lib.MathLoose.min_long.x) (by decide +kernel)) (hts (.static Lib.MathLoose.min_long.x) (by decide +kernel)) (hts (.initialized "java/lang/Math") (by decide +kernel)) (hts (.code Lib.MathLoose.min_long.x Lib.MathLoose.min_long.code 4 (some .long)) (by decide +kernel)) (Nat.le_of_ble_eq_true rfl) (Nat.le_of_ble_eq_true rfl) (Nat.le_of_ble_eq_true rfl) (Nat.le_of_ble_eq_true rfl) dX0_take_6 ?_
  refine W.eq (g2 := F0 m 9 ls [.long (rr_mn a x), .ref h0]) rfl ?_
  refine va_put (D := D) (ci := 0) (v := .long (rr_mn a x)) (ty := .long) (C := RX0) (T := TX0) (N := 2) hx hb hts hiX0 tyX0 tyX0_ok nmX0 hown hK hP hD hS 0 rfl rfl 0 (by decide) (hts (.fieldLink RX0 11 "RangeRules$Span" "least" "J") (by decide +kernel)) (fun _ h9 => h9) rfl (by decide +kernel) rfl rfl (Nat.le_of_ble_eq_true rfl) dX0_take_9 (fun H locs hP hD hS => ?_)
  have hP : va_P D vwCl [(h0, .inr (0, [.long (rr_mn a x), .long b]))] H := hP
  have hD : va_D A [(h0, .inr (0, [.long (rr_mn a x), .long b]))] := hD
  refine lv_aload_n hx hb dX0_take_12 rfl (lv_at hl 0 rfl) ?_
  refine lv_aload_n hx hb dX0_take_13 rfl (lv_at hl 0 rfl) ?_
  refine va_get (D := D) (ci := 0) (v := .long b) (C := RX0) (T := TX0) (N := 2) hx hb hts hiX0 hown hK hP 0 rfl rfl 1 (by decide) (hts (.fieldLink RX0 17 "RangeRules$Span" "greatest" "J") (by decide +kernel)) (fun _ h9 => h9) rfl dX0_take_14 ?_
  refine lv_lload_n hx hb dX0_take_17 rfl (lv_at hl 1 rfl) ?_
  refine va_mmax_long hx hb (hml.trans hl.1.symm) hown (hts (.methodLink RX0 26 Lib.MathLoose.max_long.x) (by decide +kernel)) (hts (.static Lib.MathLoose.max_long.x) (by decide +kernel)) (hts (.initialized "java/lang/Math") (by decide +kernel)) (hts (.code Lib.MathLoose.max_long.x Lib.MathLoose.max_long.code 4 (some .long)) (by decide +kernel)) (Nat.le_of_ble_eq_true rfl) (Nat.le_of_ble_eq_true rfl) (Nat.le_of_ble_eq_true rfl) (Nat.le_of_ble_eq_true rfl) dX0_take_18 ?_
  refine W.eq (g2 := F0 m 21 ls [.long (rr_mx b x), .ref h0]) rfl ?_
  refine va_put (D := D) (ci := 0) (v := .long (rr_mx b x)) (ty := .long) (C := RX0) (T := TX0) (N := 2) hx hb hts hiX0 tyX0 tyX0_ok nmX0 hown hK hP hD hS 0 rfl rfl 1 (by decide) (hts (.fieldLink RX0 17 "RangeRules$Span" "greatest" "J") (by decide +kernel)) (fun _ h9 => h9) rfl (by decide +kernel) rfl rfl (Nat.le_of_ble_eq_true rfl) dX0_take_21 (fun H locs hP hD hS => ?_)
  have hP : va_P D vwCl [(h0, .inr (0, [.long (rr_mn a x), .long (rr_mx b x)]))] H := hP
  have hD : va_D A [(h0, .inr (0, [.long (rr_mn a x), .long (rr_mx b x)]))] := hD
  exact W.vret hx hb hr (fun tt ht hW => ⟨⟨(), rfl, trivial, by dsimp only; rw [ht]; exact hP⟩, hS.F ht⟩) hS.2.2 dX0_take_24
set_option maxHeartbeats 1000000 in
set_option maxRecDepth 100000 in
/-- size -/
theorem c_X1_size (l : Launch) (D : va_G) (h0 qT qS sz : Nat) (cA : ClassId) (f : Nat → Int32) (n t : Nat) (lo hi : Int32) (a b : Int64)   : Met l yX1_size wsX1_size ({ frames := 0, cells := 0, slots := 0, locals := 0 }) (rr_pR D (rr_wx h0 qT qS cA f n t lo hi a b) [(cA, .int)] [.ref h0] sz) (va_Qi (fun r (_ : Unit) => r = nI n) (fun _ _ => True) (va_A [] sz)) 0 0 (va_A [] sz) := by
  refine Met.ofW (cc := cX1_size) (maxL := 1) (ret := (some .int)) (by decide) rfl ?_
  intro p e s m args below meth c s₁ B hml hv
  obtain ⟨rfl, hsz, hP, hK⟩ := hv
  have hx := B.exec
  have hb := B.bytes
  have hr := B.returns
  have hts := atoms_spec (ws := wsX1_size) B.pre
  have hown : s.vm.findClass RX1 = some m.cls := findClass_of_methodNamed B.named
  have hlocks := B.notSynchronized
  subst hsz
  generalize hAe : va_A [] s.heap.size = A
  have hA : ∀ q : Nat, s.heap.size ≤ q → A q := fun q h => by rw [← hAe]; exact Or.inr h
  have hS : va_S A s.heap s.heap [] := va_S.rf
  have hP : va_P D vwCl [(h0, .inr (1, [.ref qT, .int (nI n), .int (nI t), .int lo, .int hi, .ref qS])), (qT, .inl (cA, 187, .inl f)), (qS, .inr (0, [.long a, .long b]))] s.heap := hP
  have hiX1 : ∀ w ∈ wsX10, w ∈ wsX1_size := by decide +kernel
  have hl := lv_entry ([.ref h0]) (n := 1) (Nat.le_of_ble_eq_true rfl)
  rw [lg_entry_eq]
  generalize (lg_sl ([.ref h0]) ++ List.replicate (1 - (lg_sl ([.ref h0])).length) Slot.unset).toArray = ls at hl ⊢
  have hl : lv_has ls 1 [(0, .ref h0)] := hl
  refine lv_aload_n hx hb dX1_size_0 rfl (lv_at hl 0 rfl) ?_
  refine va_get (D := D) (ci := 1) (v := .int (nI n)) (C := RX1) (T := TX1) (N := 6) hx hb hts hiX1 hown hK hP 0 rfl rfl 1 (by decide) (hts (.fieldLink RX1 22 "RangeRules" "thresholdCount" "I") (by decide +kernel)) (fun _ h9 => h9) rfl dX1_size_1 ?_
  exact W.iret (v := nI n) hx hb hr (fun tt ht hW => ⟨⟨_, (), rfl, rfl, trivial⟩, hS.F ht⟩) hS.2.2 dX1_size_4
set_option maxHeartbeats 1000000 in
set_option maxRecDepth 100000 in
/-- low -/
theorem c_X1_low (l : Launch) (D : va_G) (h0 qT qS sz : Nat) (cA : ClassId) (f : Nat → Int32) (n t : Nat) (lo hi : Int32) (a b : Int64)   : Met l yX1_low wsX1_low ({ frames := 0, cells := 0, slots := 0, locals := 0 }) (rr_pR D (rr_wx h0 qT qS cA f n t lo hi a b) [(cA, .int)] [.ref h0] sz) (va_Qi (fun r (_ : Unit) => r = lo) (fun _ _ => True) (va_A [] sz)) 0 0 (va_A [] sz) := by
  refine Met.ofW (cc := cX1_low) (maxL := 1) (ret := (some .int)) (by decide) rfl ?_
  intro p e s m args below meth c s₁ B hml hv
  obtain ⟨rfl, hsz, hP, hK⟩ := hv
  have hx := B.exec
  have hb := B.bytes
  have hr := B.returns
  have hts := atoms_spec (ws := wsX1_low) B.pre
  have hown : s.vm.findClass RX1 = some m.cls := findClass_of_methodNamed B.named
  have hlocks := B.notSynchronized
  subst hsz
  generalize hAe : va_A [] s.heap.size = A
  have hA : ∀ q : Nat, s.heap.size ≤ q → A q := fun q h => by rw [← hAe]; exact Or.inr h
  have hS : va_S A s.heap s.heap [] := va_S.rf
  have hP : va_P D vwCl [(h0, .inr (1, [.ref qT, .int (nI n), .int (nI t), .int lo, .int hi, .ref qS])), (qT, .inl (cA, 187, .inl f)), (qS, .inr (0, [.long a, .long b]))] s.heap := hP
  have hiX1 : ∀ w ∈ wsX10, w ∈ wsX1_low := by decide +kernel
  have hl := lv_entry ([.ref h0]) (n := 1) (Nat.le_of_ble_eq_true rfl)
  rw [lg_entry_eq]
  generalize (lg_sl ([.ref h0]) ++ List.replicate (1 - (lg_sl ([.ref h0])).length) Slot.unset).toArray = ls at hl ⊢
  have hl : lv_has ls 1 [(0, .ref h0)] := hl
  refine lv_aload_n hx hb dX1_low_0 rfl (lv_at hl 0 rfl) ?_
  refine va_get (D := D) (ci := 1) (v := .int lo) (C := RX1) (T := TX1) (N := 6) hx hb hts hiX1 hown hK hP 0 rfl rfl 3 (by decide) (hts (.fieldLink RX1 29 "RangeRules" "resultLow" "I") (by decide +kernel)) (fun _ h9 => h9) rfl dX1_low_1 ?_
  exact W.iret (v := lo) hx hb hr (fun tt ht hW => ⟨⟨_, (), rfl, rfl, trivial⟩, hS.F ht⟩) hS.2.2 dX1_low_4
set_option maxHeartbeats 1000000 in
set_option maxRecDepth 100000 in
/-- high -/
theorem c_X1_high (l : Launch) (D : va_G) (h0 qT qS sz : Nat) (cA : ClassId) (f : Nat → Int32) (n t : Nat) (lo hi : Int32) (a b : Int64)   : Met l yX1_high wsX1_high ({ frames := 0, cells := 0, slots := 0, locals := 0 }) (rr_pR D (rr_wx h0 qT qS cA f n t lo hi a b) [(cA, .int)] [.ref h0] sz) (va_Qi (fun r (_ : Unit) => r = hi) (fun _ _ => True) (va_A [] sz)) 0 0 (va_A [] sz) := by
  refine Met.ofW (cc := cX1_high) (maxL := 1) (ret := (some .int)) (by decide) rfl ?_
  intro p e s m args below meth c s₁ B hml hv
  obtain ⟨rfl, hsz, hP, hK⟩ := hv
  have hx := B.exec
  have hb := B.bytes
  have hr := B.returns
  have hts := atoms_spec (ws := wsX1_high) B.pre
  have hown : s.vm.findClass RX1 = some m.cls := findClass_of_methodNamed B.named
  have hlocks := B.notSynchronized
  subst hsz
  generalize hAe : va_A [] s.heap.size = A
  have hA : ∀ q : Nat, s.heap.size ≤ q → A q := fun q h => by rw [← hAe]; exact Or.inr h
  have hS : va_S A s.heap s.heap [] := va_S.rf
  have hP : va_P D vwCl [(h0, .inr (1, [.ref qT, .int (nI n), .int (nI t), .int lo, .int hi, .ref qS])), (qT, .inl (cA, 187, .inl f)), (qS, .inr (0, [.long a, .long b]))] s.heap := hP
  have hiX1 : ∀ w ∈ wsX10, w ∈ wsX1_high := by decide +kernel
  have hl := lv_entry ([.ref h0]) (n := 1) (Nat.le_of_ble_eq_true rfl)
  rw [lg_entry_eq]
  generalize (lg_sl ([.ref h0]) ++ List.replicate (1 - (lg_sl ([.ref h0])).length) Slot.unset).toArray = ls at hl ⊢
  have hl : lv_has ls 1 [(0, .ref h0)] := hl
  refine lv_aload_n hx hb dX1_high_0 rfl (lv_at hl 0 rfl) ?_
  refine va_get (D := D) (ci := 1) (v := .int hi) (C := RX1) (T := TX1) (N := 6) hx hb hts hiX1 hown hK hP 0 rfl rfl 4 (by decide) (hts (.fieldLink RX1 32 "RangeRules" "resultHigh" "I") (by decide +kernel)) (fun _ h9 => h9) rfl dX1_high_1 ?_
  exact W.iret (v := hi) hx hb hr (fun tt ht hW => ⟨⟨_, (), rfl, rfl, trivial⟩, hS.F ht⟩) hS.2.2 dX1_high_4
set_option maxHeartbeats 1000000 in
set_option maxRecDepth 100000 in
/-- down(v) -/
theorem c_X1_down (l : Launch) (D : va_G) (h0 qT qS sz : Nat) (cA : ClassId) (f : Nat → Int32) (n t : Nat) (lo hi : Int32) (a b : Int64) (v : Int32) (hn : n ≤ 187) : Met l yX1_down wsX1_down ({ frames := 0, cells := 0, slots := 0, locals := 0 }) (rr_pR D (rr_wx h0 qT qS cA f n t lo hi a b) [(cA, .int)] [.ref h0, .int v] sz) (va_Qi (fun r (_ : Unit) => r = rr_dn f v n) (fun _ _ => True) (va_A [] sz)) 0 0 (va_A [] sz) := by
  refine Met.ofW (cc := cX1_down) (maxL := 5) (ret := (some .int)) (by decide) rfl ?_
  intro p e s m args below meth c s₁ B hml hv
  obtain ⟨rfl, hsz, hP, hK⟩ := hv
  have hx := B.exec
  have hb := B.bytes
  have hr := B.returns
  have hts := atoms_spec (ws := wsX1_down) B.pre
  have hown : s.vm.findClass RX1 = some m.cls := findClass_of_methodNamed B.named
  have hlocks := B.notSynchronized
  subst hsz
  generalize hAe : va_A [] s.heap.size = A
  have hA : ∀ q : Nat, s.heap.size ≤ q → A q := fun q h => by rw [← hAe]; exact Or.inr h
  have hS : va_S A s.heap s.heap [] := va_S.rf
  have hP : va_P D vwCl [(h0, .inr (1, [.ref qT, .int (nI n), .int (nI t), .int lo, .int hi, .ref qS])), (qT, .inl (cA, 187, .inl f)), (qS, .inr (0, [.long a, .long b]))] s.heap := hP
  have hiX1 : ∀ w ∈ wsX10, w ∈ wsX1_down := by decide +kernel
  have hl := lv_entry ([.ref h0, .int v]) (n := 5) (Nat.le_of_ble_eq_true rfl)
  rw [lg_entry_eq]
  generalize (lg_sl ([.ref h0, .int v]) ++ List.replicate (5 - (lg_sl ([.ref h0, .int v])).length) Slot.unset).toArray = ls at hl ⊢
  have hl : lv_has ls 5 [(0, .ref h0), (1, .int v)] := hl
  refine lv_ldc (v := (-2147483648)) hx hb hown (hts (.constant RX1 42 (-2147483648)) (by decide +kernel)) dX1_down_0 ?_
  refine lv_istore_n (lv' := [(2, .int ((-2147483648))), (0, .ref h0), (1, .int v)]) hx hb dX1_down_2 rfl hl (by decide) rfl (fun ls hl => ?_)
  refine lv_iconst (v := 0) hx hb dX1_down_3 (by decide) ?_
  refine lv_istore_n (lv' := [(3, .int 0), (2, .int ((-2147483648))), (0, .ref h0), (1, .int v)]) hx hb dX1_down_4 rfl hl (by decide) rfl (fun ls hl => ?_)
  obtain ⟨i, hi0⟩ : ∃ i : Nat, i = 0 := ⟨_, rfl⟩
  replace hl : lv_has ls 5 [(3, .int (nI i)), (2, .int (rr_dn f v i)), (0, .ref h0), (1, .int v)] := by rw [hi0]; exact hl
  obtain ⟨k, hk⟩ : ∃ k : Nat, i + k = n := ⟨n, by omega⟩
  clear hi0
  induction k generalizing i ls with
  | zero =>
    refine lv_iload_n hx hb dX1_down_5 rfl (lv_at hl 0 rfl) ?_
    refine lv_aload_n hx hb dX1_down_6 rfl (lv_at hl 2 rfl) ?_
    refine va_get (D := D) (ci := 1) (v := .int (nI n)) (C := RX1) (T := TX1) (N := 6) hx hb hts hiX1 hown hK hP 0 rfl rfl 1 (by decide) (hts (.fieldLink RX1 22 "RangeRules" "thresholdCount" "I") (by decide +kernel)) (fun _ h9 => h9) rfl dX1_down_7 ?_
    refine lv_icmp_ge (tgt := 42) hx hb dX1_down_10 (by decide) (fun c10 => ?_) (fun c10 => ?_)
    · skip
      refine lv_iload_n hx hb dX1_down_42 rfl (lv_at hl 1 rfl) ?_
      exact W.iret (v := rr_dn f v i) hx hb hr (fun tt ht hW => ⟨⟨_, (), rfl, by rw [← hk]; rfl, trivial⟩, hS.F ht⟩) hS.2.2 dX1_down_43
    · skip
      exact absurd (nI_le (by omega) (by omega)) c10
  | succ k ih =>
    refine lv_iload_n hx hb dX1_down_5 rfl (lv_at hl 0 rfl) ?_
    refine lv_aload_n hx hb dX1_down_6 rfl (lv_at hl 2 rfl) ?_
    refine va_get (D := D) (ci := 1) (v := .int (nI n)) (C := RX1) (T := TX1) (N := 6) hx hb hts hiX1 hown hK hP 0 rfl rfl 1 (by decide) (hts (.fieldLink RX1 22 "RangeRules" "thresholdCount" "I") (by decide +kernel)) (fun _ h9 => h9) rfl dX1_down_7 ?_
    refine lv_icmp_ge (tgt := 42) hx hb dX1_down_10 (by decide) (fun c10 => ?_) (fun c10 => ?_)
    · skip
      exact absurd c10 (nI_ge (by omega) (by omega))
    · skip
      refine lv_aload_n hx hb dX1_down_13 rfl (lv_at hl 2 rfl) ?_
      refine va_get (D := D) (ci := 1) (v := .ref qT) (C := RX1) (T := TX1) (N := 6) hx hb hts hiX1 hown hK hP 0 rfl rfl 0 (by decide) (hts (.fieldLink RX1 13 "RangeRules" "thresholds" "[I") (by decide +kernel)) (fun _ h9 => h9) rfl dX1_down_14 ?_
      refine lv_iload_n hx hb dX1_down_17 rfl (lv_at hl 0 rfl) ?_
      refine va_iald hx hb hK hP 1 0 rfl rfl (vp_in_nI (by omega) (by omega)) dX1_down_18 ?_
      refine W.eq (congrArg (fun z => F0 m 19 ls (.int z :: [])) (congrArg f (nI_clamp (by omega)))) ?_
      refine lv_istore (lv' := [(4, .int (f i)), (3, .int (nI i)), (2, .int (rr_dn f v i)), (0, .ref h0), (1, .int v)]) hx hb dX1_down_19 hl (by decide) rfl (fun ls hl => ?_)
      refine lv_iload hx hb dX1_down_21 (lv_at hl 0 rfl) ?_
      refine lv_iload_n hx hb dX1_down_23 rfl (lv_at hl 4 rfl) ?_
      refine lv_icmp_gt (tgt := 36) hx hb dX1_down_24 (by decide) (fun c24 => ?_) (fun c24 => ?_)
      · skip
        refine lv_iinc (v := nI (i + 1)) (lv' := [(3, .int (nI (i + 1))), (4, .int (f i)), (2, .int (rr_dn f v i)), (0, .ref h0), (1, .int v)]) hx hb dX1_down_36 hl (k := 1) rfl (nI_1 i) (by decide) rfl (fun ls hl => ?_)
        refine lv_goto (tgt := 5) hx hb dX1_down_39 (by decide) ?_
        have ee : rr_dn f v (i + 1) = rr_dn f v i := if_neg (c := f i ≤ v ∧ rr_dn f v i < f i) (fun z => by first | exact c24 z.1 | exact absurd z.1 (Int32.not_le.mpr c24) | exact absurd z.2 (Int32.not_lt.mpr c30))
        refine ih ls (i + 1) ?_ (by omega)
        rw [ee]
        exact lv_sub hl [0, 2, 3, 4] rfl
      · skip
        refine lv_iload hx hb dX1_down_27 (lv_at hl 0 rfl) ?_
        refine lv_iload_n hx hb dX1_down_29 rfl (lv_at hl 2 rfl) ?_
        refine lv_icmp_le (tgt := 36) hx hb dX1_down_30 (by decide) (fun c30 => ?_) (fun c30 => ?_)
        · skip
          refine lv_iinc (v := nI (i + 1)) (lv' := [(3, .int (nI (i + 1))), (4, .int (f i)), (2, .int (rr_dn f v i)), (0, .ref h0), (1, .int v)]) hx hb dX1_down_36 hl (k := 1) rfl (nI_1 i) (by decide) rfl (fun ls hl => ?_)
          refine lv_goto (tgt := 5) hx hb dX1_down_39 (by decide) ?_
          have ee : rr_dn f v (i + 1) = rr_dn f v i := if_neg (c := f i ≤ v ∧ rr_dn f v i < f i) (fun z => by first | exact c24 z.1 | exact absurd z.1 (Int32.not_le.mpr c24) | exact absurd z.2 (Int32.not_lt.mpr c30))
          refine ih ls (i + 1) ?_ (by omega)
          rw [ee]
          exact lv_sub hl [0, 2, 3, 4] rfl
        · skip
          refine lv_iload hx hb dX1_down_33 (lv_at hl 0 rfl) ?_
          refine lv_istore_n (lv' := [(2, .int (f i)), (4, .int (f i)), (3, .int (nI i)), (0, .ref h0), (1, .int v)]) hx hb dX1_down_35 rfl hl (by decide) rfl (fun ls hl => ?_)
          refine lv_iinc (v := nI (i + 1)) (lv' := [(3, .int (nI (i + 1))), (2, .int (f i)), (4, .int (f i)), (0, .ref h0), (1, .int v)]) hx hb dX1_down_36 hl (k := 2) rfl (nI_1 i) (by decide) rfl (fun ls hl => ?_)
          refine lv_goto (tgt := 5) hx hb dX1_down_39 (by decide) ?_
          have ee : rr_dn f v (i + 1) = f i := if_pos (c := f i ≤ v ∧ rr_dn f v i < f i) ⟨Int32.not_lt.mp c24, Int32.not_le.mp c30⟩
          refine ih ls (i + 1) ?_ (by omega)
          rw [ee]
          exact lv_sub hl [0, 1, 3, 4] rfl
set_option maxHeartbeats 1000000 in
set_option maxRecDepth 100000 in
/-- up(v) -/
theorem c_X1_up (l : Launch) (D : va_G) (h0 qT qS sz : Nat) (cA : ClassId) (f : Nat → Int32) (n t : Nat) (lo hi : Int32) (a b : Int64) (v : Int32) (hn : n ≤ 187) : Met l yX1_up wsX1_up ({ frames := 0, cells := 0, slots := 0, locals := 0 }) (rr_pR D (rr_wx h0 qT qS cA f n t lo hi a b) [(cA, .int)] [.ref h0, .int v] sz) (va_Qi (fun r (_ : Unit) => r = rr_up f v n) (fun _ _ => True) (va_A [] sz)) 0 0 (va_A [] sz) := by
  refine Met.ofW (cc := cX1_up) (maxL := 5) (ret := (some .int)) (by decide) rfl ?_
  intro p e s m args below meth c s₁ B hml hv
  obtain ⟨rfl, hsz, hP, hK⟩ := hv
  have hx := B.exec
  have hb := B.bytes
  have hr := B.returns
  have hts := atoms_spec (ws := wsX1_up) B.pre
  have hown : s.vm.findClass RX1 = some m.cls := findClass_of_methodNamed B.named
  have hlocks := B.notSynchronized
  subst hsz
  generalize hAe : va_A [] s.heap.size = A
  have hA : ∀ q : Nat, s.heap.size ≤ q → A q := fun q h => by rw [← hAe]; exact Or.inr h
  have hS : va_S A s.heap s.heap [] := va_S.rf
  have hP : va_P D vwCl [(h0, .inr (1, [.ref qT, .int (nI n), .int (nI t), .int lo, .int hi, .ref qS])), (qT, .inl (cA, 187, .inl f)), (qS, .inr (0, [.long a, .long b]))] s.heap := hP
  have hiX1 : ∀ w ∈ wsX10, w ∈ wsX1_up := by decide +kernel
  have hl := lv_entry ([.ref h0, .int v]) (n := 5) (Nat.le_of_ble_eq_true rfl)
  rw [lg_entry_eq]
  generalize (lg_sl ([.ref h0, .int v]) ++ List.replicate (5 - (lg_sl ([.ref h0, .int v])).length) Slot.unset).toArray = ls at hl ⊢
  have hl : lv_has ls 5 [(0, .ref h0), (1, .int v)] := hl
  refine lv_ldc (v := 2147483647) hx hb hown (hts (.constant RX1 47 2147483647) (by decide +kernel)) dX1_up_0 ?_
  refine lv_istore_n (lv' := [(2, .int 2147483647), (0, .ref h0), (1, .int v)]) hx hb dX1_up_2 rfl hl (by decide) rfl (fun ls hl => ?_)
  refine lv_iconst (v := 0) hx hb dX1_up_3 (by decide) ?_
  refine lv_istore_n (lv' := [(3, .int 0), (2, .int 2147483647), (0, .ref h0), (1, .int v)]) hx hb dX1_up_4 rfl hl (by decide) rfl (fun ls hl => ?_)
  obtain ⟨i, hi0⟩ : ∃ i : Nat, i = 0 := ⟨_, rfl⟩
  replace hl : lv_has ls 5 [(3, .int (nI i)), (2, .int (rr_up f v i)), (0, .ref h0), (1, .int v)] := by rw [hi0]; exact hl
  obtain ⟨k, hk⟩ : ∃ k : Nat, i + k = n := ⟨n, by omega⟩
  clear hi0
  induction k generalizing i ls with
  | zero =>
    refine lv_iload_n hx hb dX1_up_5 rfl (lv_at hl 0 rfl) ?_
    refine lv_aload_n hx hb dX1_up_6 rfl (lv_at hl 2 rfl) ?_
    refine va_get (D := D) (ci := 1) (v := .int (nI n)) (C := RX1) (T := TX1) (N := 6) hx hb hts hiX1 hown hK hP 0 rfl rfl 1 (by decide) (hts (.fieldLink RX1 22 "RangeRules" "thresholdCount" "I") (by decide +kernel)) (fun _ h9 => h9) rfl dX1_up_7 ?_
    refine lv_icmp_ge (tgt := 42) hx hb dX1_up_10 (by decide) (fun c10 => ?_) (fun c10 => ?_)
    · skip
      refine lv_iload_n hx hb dX1_up_42 rfl (lv_at hl 1 rfl) ?_
      exact W.iret (v := rr_up f v i) hx hb hr (fun tt ht hW => ⟨⟨_, (), rfl, by rw [← hk]; rfl, trivial⟩, hS.F ht⟩) hS.2.2 dX1_up_43
    · skip
      exact absurd (nI_le (by omega) (by omega)) c10
  | succ k ih =>
    refine lv_iload_n hx hb dX1_up_5 rfl (lv_at hl 0 rfl) ?_
    refine lv_aload_n hx hb dX1_up_6 rfl (lv_at hl 2 rfl) ?_
    refine va_get (D := D) (ci := 1) (v := .int (nI n)) (C := RX1) (T := TX1) (N := 6) hx hb hts hiX1 hown hK hP 0 rfl rfl 1 (by decide) (hts (.fieldLink RX1 22 "RangeRules" "thresholdCount" "I") (by decide +kernel)) (fun _ h9 => h9) rfl dX1_up_7 ?_
    refine lv_icmp_ge (tgt := 42) hx hb dX1_up_10 (by decide) (fun c10 => ?_) (fun c10 => ?_)
    · skip
      exact absurd c10 (nI_ge (by omega) (by omega))
    · skip
      refine lv_aload_n hx hb dX1_up_13 rfl (lv_at hl 2 rfl) ?_
      refine va_get (D := D) (ci := 1) (v := .ref qT) (C := RX1) (T := TX1) (N := 6) hx hb hts hiX1 hown hK hP 0 rfl rfl 0 (by decide) (hts (.fieldLink RX1 13 "RangeRules" "thresholds" "[I") (by decide +kernel)) (fun _ h9 => h9) rfl dX1_up_14 ?_
      refine lv_iload_n hx hb dX1_up_17 rfl (lv_at hl 0 rfl) ?_
      refine va_iald hx hb hK hP 1 0 rfl rfl (vp_in_nI (by omega) (by omega)) dX1_up_18 ?_
      refine W.eq (congrArg (fun z => F0 m 19 ls (.int z :: [])) (congrArg f (nI_clamp (by omega)))) ?_
      refine lv_istore (lv' := [(4, .int (f i)), (3, .int (nI i)), (2, .int (rr_up f v i)), (0, .ref h0), (1, .int v)]) hx hb dX1_up_19 hl (by decide) rfl (fun ls hl => ?_)
      refine lv_iload hx hb dX1_up_21 (lv_at hl 0 rfl) ?_
      refine lv_iload_n hx hb dX1_up_23 rfl (lv_at hl 4 rfl) ?_
      refine lv_icmp_lt (tgt := 36) hx hb dX1_up_24 (by decide) (fun c24 => ?_) (fun c24 => ?_)
      · skip
        refine lv_iinc (v := nI (i + 1)) (lv' := [(3, .int (nI (i + 1))), (4, .int (f i)), (2, .int (rr_up f v i)), (0, .ref h0), (1, .int v)]) hx hb dX1_up_36 hl (k := 1) rfl (nI_1 i) (by decide) rfl (fun ls hl => ?_)
        refine lv_goto (tgt := 5) hx hb dX1_up_39 (by decide) ?_
        have ee : rr_up f v (i + 1) = rr_up f v i := if_neg (c := v ≤ f i ∧ f i < rr_up f v i) (fun z => by first | exact absurd z.1 (Int32.not_le.mpr c24) | exact absurd z.2 (Int32.not_lt.mpr c30))
        refine ih ls (i + 1) ?_ (by omega)
        rw [ee]
        exact lv_sub hl [0, 2, 3, 4] rfl
      · skip
        refine lv_iload hx hb dX1_up_27 (lv_at hl 0 rfl) ?_
        refine lv_iload_n hx hb dX1_up_29 rfl (lv_at hl 2 rfl) ?_
        refine lv_icmp_ge (tgt := 36) hx hb dX1_up_30 (by decide) (fun c30 => ?_) (fun c30 => ?_)
        · skip
          refine lv_iinc (v := nI (i + 1)) (lv' := [(3, .int (nI (i + 1))), (4, .int (f i)), (2, .int (rr_up f v i)), (0, .ref h0), (1, .int v)]) hx hb dX1_up_36 hl (k := 1) rfl (nI_1 i) (by decide) rfl (fun ls hl => ?_)
          refine lv_goto (tgt := 5) hx hb dX1_up_39 (by decide) ?_
          have ee : rr_up f v (i + 1) = rr_up f v i := if_neg (c := v ≤ f i ∧ f i < rr_up f v i) (fun z => by first | exact absurd z.1 (Int32.not_le.mpr c24) | exact absurd z.2 (Int32.not_lt.mpr c30))
          refine ih ls (i + 1) ?_ (by omega)
          rw [ee]
          exact lv_sub hl [0, 2, 3, 4] rfl
        · skip
          refine lv_iload hx hb dX1_up_33 (lv_at hl 0 rfl) ?_
          refine lv_istore_n (lv' := [(2, .int (f i)), (4, .int (f i)), (3, .int (nI i)), (0, .ref h0), (1, .int v)]) hx hb dX1_up_35 rfl hl (by decide) rfl (fun ls hl => ?_)
          refine lv_iinc (v := nI (i + 1)) (lv' := [(3, .int (nI (i + 1))), (2, .int (f i)), (4, .int (f i)), (0, .ref h0), (1, .int v)]) hx hb dX1_up_36 hl (k := 2) rfl (nI_1 i) (by decide) rfl (fun ls hl => ?_)
          refine lv_goto (tgt := 5) hx hb dX1_up_39 (by decide) ?_
          have ee : rr_up f v (i + 1) = f i := if_pos (c := v ≤ f i ∧ f i < rr_up f v i) ⟨Int32.not_lt.mp c24, Int32.not_le.mp c30⟩
          refine ih ls (i + 1) ?_ (by omega)
          rw [ee]
          exact lv_sub hl [0, 1, 3, 4] rfl
set_option maxHeartbeats 1000000 in
set_option maxRecDepth 100000 in
/-- isThreshold(v) -/
theorem c_X1_isThreshold (l : Launch) (D : va_G) (h0 qT qS sz : Nat) (cA : ClassId) (f : Nat → Int32) (n t : Nat) (lo hi : Int32) (a b : Int64) (v : Int32) (hn : n ≤ 187) (hk : rr_ok f n) : Met l yX1_isThreshold wsX1_isThreshold ({ frames := 1, cells := 0, slots := 0, locals := 30 }) (rr_pR D (rr_wx h0 qT qS cA f n t lo hi a b) [(cA, .int)] [.ref h0, .int v] sz) (va_Qi (fun r (_ : Unit) => r = if rr_fd f v n = true then 1 else 0) (fun _ _ => True) (va_A [] sz)) 0 0 (va_A [] sz) := by
  refine Met.ofW (cc := cX1_isThreshold) (maxL := 2) (ret := (some .boolean)) (by decide) rfl ?_
  intro p e s m args below meth c s₁ B hml hv
  obtain ⟨rfl, hsz, hP, hK⟩ := hv
  have hx := B.exec
  have hb := B.bytes
  have hr := B.returns
  have hts := atoms_spec (ws := wsX1_isThreshold) B.pre
  have hown : s.vm.findClass RX1 = some m.cls := findClass_of_methodNamed B.named
  have hlocks := B.notSynchronized
  subst hsz
  generalize hAe : va_A [] s.heap.size = A
  have hA : ∀ q : Nat, s.heap.size ≤ q → A q := fun q h => by rw [← hAe]; exact Or.inr h
  have hS : va_S A s.heap s.heap [] := va_S.rf
  have hP : va_P D vwCl [(h0, .inr (1, [.ref qT, .int (nI n), .int (nI t), .int lo, .int hi, .ref qS])), (qT, .inl (cA, 187, .inl f)), (qS, .inr (0, [.long a, .long b]))] s.heap := hP
  have hiX1 : ∀ w ∈ wsX10, w ∈ wsX1_isThreshold := by decide +kernel
  have hl := lv_entry ([.ref h0, .int v]) (n := 2) (Nat.le_of_ble_eq_true rfl)
  rw [lg_entry_eq]
  generalize (lg_sl ([.ref h0, .int v]) ++ List.replicate (2 - (lg_sl ([.ref h0, .int v])).length) Slot.unset).toArray = ls at hl ⊢
  have hl : lv_has ls 2 [(0, .ref h0), (1, .int v)] := hl
  refine lv_aload_n hx hb dX1_isThreshold_0 rfl (lv_at hl 0 rfl) ?_
  refine lv_iload_n hx hb dX1_isThreshold_1 rfl (lv_at hl 1 rfl) ?_
  refine rr_ri (va_runV (As := [.int v]) (rest := []) ⟨hx, hb, hml, hown, hts⟩ (c_X1_down l D h0 qT qS s.heap.size cA f n t lo hi a b v hn) (cwV 1 hts gX1_isThreshold_X1_down rfl rfl rfl (by decide +kernel) ⟨Nat.le_of_ble_eq_true rfl, Nat.le_of_ble_eq_true rfl⟩) (rr_vR hK hP (va_recv hK hP (ci := 1) (q0 := 0) rfl rfl)) rfl rfl hl.1 rfl (lv_room (Nat.le_of_ble_eq_true rfl)) dX1_isThreshold_2 ⟨Nat.le_of_ble_eq_true rfl, Nat.le_of_ble_eq_true rfl⟩) hS hA hP (fun r2 H locs e2 hP hS => ?_)
  subst e2
  refine lv_iload_n hx hb dX1_isThreshold_5 rfl (lv_at hl 1 rfl) ?_
  refine lv_icmp_ne (tgt := 13) hx hb dX1_isThreshold_6 (by decide) (fun c6 => ?_) (fun c6 => ?_)
  · skip
    refine lv_iconst (v := 0) hx hb dX1_isThreshold_13 (by decide) ?_
    exact W.zret (v := 0) hx hb hr rfl (fun tt ht hW => ⟨⟨_, (), rfl, by rw [if_neg (fun z => c6 ((rr_dn_iff hk v).mpr z))], trivial⟩, hS.F ht⟩) hS.2.2 dX1_isThreshold_14
  · skip
    refine lv_iconst (v := 1) hx hb dX1_isThreshold_9 (by decide) ?_
    refine lv_goto (tgt := 14) hx hb dX1_isThreshold_10 (by decide) ?_
    exact W.zret (v := 1) hx hb hr rfl (fun tt ht hW => ⟨⟨_, (), rfl, by rw [if_pos ((rr_dn_iff hk v).mp c6)], trivial⟩, hS.F ht⟩) hS.2.2 dX1_isThreshold_14
set_option maxHeartbeats 1000000 in
set_option maxRecDepth 100000 in
/-- isRange(x, y) -/
theorem c_X1_isRange (l : Launch) (D : va_G) (h0 qT qS sz : Nat) (cA : ClassId) (f : Nat → Int32) (n t : Nat) (lo hi : Int32) (a b : Int64) (x y : Int32) (hn : n ≤ 187) (hk : rr_ok f n) : Met l yX1_isRange wsX1_isRange ({ frames := 2, cells := 0, slots := 0, locals := 51 }) (rr_pR D (rr_wx h0 qT qS cA f n t lo hi a b) [(cA, .int)] [.ref h0, .int x, .int y] sz) (va_Qi (fun r (_ : Unit) => r = if rr_rg f n x y = true then 1 else 0) (fun _ _ => True) (va_A [] sz)) 0 0 (va_A [] sz) := by
  refine Met.ofW (cc := cX1_isRange) (maxL := 3) (ret := (some .boolean)) (by decide) rfl ?_
  intro p e s m args below meth c s₁ B hml hv
  obtain ⟨rfl, hsz, hP, hK⟩ := hv
  have hx := B.exec
  have hb := B.bytes
  have hr := B.returns
  have hts := atoms_spec (ws := wsX1_isRange) B.pre
  have hown : s.vm.findClass RX1 = some m.cls := findClass_of_methodNamed B.named
  have hlocks := B.notSynchronized
  subst hsz
  generalize hAe : va_A [] s.heap.size = A
  have hA : ∀ q : Nat, s.heap.size ≤ q → A q := fun q h => by rw [← hAe]; exact Or.inr h
  have hS : va_S A s.heap s.heap [] := va_S.rf
  have hP : va_P D vwCl [(h0, .inr (1, [.ref qT, .int (nI n), .int (nI t), .int lo, .int hi, .ref qS])), (qT, .inl (cA, 187, .inl f)), (qS, .inr (0, [.long a, .long b]))] s.heap := hP
  have hiX1 : ∀ w ∈ wsX10, w ∈ wsX1_isRange := by decide +kernel
  have hl := lv_entry ([.ref h0, .int x, .int y]) (n := 3) (Nat.le_of_ble_eq_true rfl)
  rw [lg_entry_eq]
  generalize (lg_sl ([.ref h0, .int x, .int y]) ++ List.replicate (3 - (lg_sl ([.ref h0, .int x, .int y])).length) Slot.unset).toArray = ls at hl ⊢
  have hl : lv_has ls 3 [(0, .ref h0), (1, .int x), (2, .int y)] := hl
  refine lv_iload_n hx hb dX1_isRange_0 rfl (lv_at hl 1 rfl) ?_
  refine lv_iload_n hx hb dX1_isRange_1 rfl (lv_at hl 2 rfl) ?_
  refine lv_icmp_gt (tgt := 25) hx hb dX1_isRange_2 (by decide) (fun c2 => ?_) (fun c2 => ?_)
  · skip
    refine lv_iconst (v := 0) hx hb dX1_isRange_25 (by decide) ?_
    exact W.zret (v := 0) hx hb hr rfl (fun tt ht hW => ⟨⟨_, (), rfl, by rw [if_neg (fun z => by have z := rr_rg_iff.mp z; first | exact absurd z.1 (Int32.not_le.mpr c2) | exact b7 z.2.1 | exact b15 z.2.2)], trivial⟩, hS.F ht⟩) hS.2.2 dX1_isRange_26
  · skip
    refine lv_aload_n hx hb dX1_isRange_5 rfl (lv_at hl 0 rfl) ?_
    refine lv_iload_n hx hb dX1_isRange_6 rfl (lv_at hl 1 rfl) ?_
    refine rr_ri (va_runV (As := [.int x]) (rest := []) ⟨hx, hb, hml, hown, hts⟩ (c_X1_isThreshold l D h0 qT qS s.heap.size cA f n t lo hi a b x hn hk) (cwV 1 hts gX1_isRange_X1_isThreshold rfl rfl rfl (by decide +kernel) ⟨Nat.le_of_ble_eq_true rfl, Nat.le_of_ble_eq_true rfl⟩) (rr_vR hK hP (va_recv hK hP (ci := 1) (q0 := 0) rfl rfl)) rfl rfl hl.1 rfl (lv_room (Nat.le_of_ble_eq_true rfl)) dX1_isRange_7 ⟨Nat.le_of_ble_eq_true rfl, Nat.le_of_ble_eq_true rfl⟩) hS hA hP (fun r7 H locs e7 hP hS => ?_)
    by_cases b7 : rr_fd f x n = true
    · rw [if_pos b7] at e7
      subst e7
      refine lv_if_eq (tgt := 25) hx hb dX1_isRange_10 (by decide) (fun c10 => ?_) (fun c10 => ?_)
      · skip
        exact absurd c10 (by decide)
      · skip
        refine lv_aload_n hx hb dX1_isRange_13 rfl (lv_at hl 0 rfl) ?_
        refine lv_iload_n hx hb dX1_isRange_14 rfl (lv_at hl 2 rfl) ?_
        refine rr_ri (va_runV (As := [.int y]) (rest := []) ⟨hx, hb, hml, hown, hts⟩ (c_X1_isThreshold l D h0 qT qS H.size cA f n t lo hi a b y hn hk) (cwV 1 hts gX1_isRange_X1_isThreshold rfl rfl rfl (by decide +kernel) ⟨Nat.le_of_ble_eq_true rfl, Nat.le_of_ble_eq_true rfl⟩) (rr_vR hK hP (va_recv hK hP (ci := 1) (q0 := 0) rfl rfl)) rfl rfl hl.1 rfl (lv_room (Nat.le_of_ble_eq_true rfl)) dX1_isRange_15 ⟨Nat.le_of_ble_eq_true rfl, Nat.le_of_ble_eq_true rfl⟩) hS hA hP (fun r15 H locs e15 hP hS => ?_)
        by_cases b15 : rr_fd f y n = true
        · rw [if_pos b15] at e15
          subst e15
          refine lv_if_eq (tgt := 25) hx hb dX1_isRange_18 (by decide) (fun c18 => ?_) (fun c18 => ?_)
          · skip
            exact absurd c18 (by decide)
          · skip
            refine lv_iconst (v := 1) hx hb dX1_isRange_21 (by decide) ?_
            refine lv_goto (tgt := 26) hx hb dX1_isRange_22 (by decide) ?_
            exact W.zret (v := 1) hx hb hr rfl (fun tt ht hW => ⟨⟨_, (), rfl, by rw [if_pos (rr_rg_iff.mpr ⟨Int32.not_lt.mp c2, b7, b15⟩)], trivial⟩, hS.F ht⟩) hS.2.2 dX1_isRange_26
        · rw [if_neg b15] at e15
          subst e15
          refine lv_if_eq (tgt := 25) hx hb dX1_isRange_18 (by decide) (fun c18 => ?_) (fun c18 => ?_)
          · skip
            refine lv_iconst (v := 0) hx hb dX1_isRange_25 (by decide) ?_
            exact W.zret (v := 0) hx hb hr rfl (fun tt ht hW => ⟨⟨_, (), rfl, by rw [if_neg (fun z => by have z := rr_rg_iff.mp z; first | exact absurd z.1 (Int32.not_le.mpr c2) | exact b7 z.2.1 | exact b15 z.2.2)], trivial⟩, hS.F ht⟩) hS.2.2 dX1_isRange_26
          · skip
            exact absurd c18 (by decide)
    · rw [if_neg b7] at e7
      subst e7
      refine lv_if_eq (tgt := 25) hx hb dX1_isRange_10 (by decide) (fun c10 => ?_) (fun c10 => ?_)
      · skip
        refine lv_iconst (v := 0) hx hb dX1_isRange_25 (by decide) ?_
        exact W.zret (v := 0) hx hb hr rfl (fun tt ht hW => ⟨⟨_, (), rfl, by rw [if_neg (fun z => by have z := rr_rg_iff.mp z; first | exact absurd z.1 (Int32.not_le.mpr c2) | exact b7 z.2.1 | exact b15 z.2.2)], trivial⟩, hS.F ht⟩) hS.2.2 dX1_isRange_26
      · skip
        exact absurd c10 (by decide)
set_option maxHeartbeats 1000000 in
set_option maxRecDepth 100000 in
/-- isInt(x) -/
theorem c_X1_isInt (l : Launch) (sz : Nat) (x : Int64)  : Met l yX1_isInt wsX1_isInt ({ frames := 0, cells := 0, slots := 0, locals := 0 }) (rr_p0 [.long x] sz) (va_Qi (fun r (_ : Unit) => r = if (-2147483648 ≤ x ∧ x ≤ 2147483647) then 1 else 0) (fun _ _ => True) (va_A [] sz)) 0 0 (va_A [] sz) := by
  refine Met.ofW (cc := cX1_isInt) (maxL := 2) (ret := (some .boolean)) (by decide) rfl ?_
  intro p e s m args below meth c s₁ B hml hv
  obtain ⟨rfl, hsz⟩ := hv
  have hx := B.exec
  have hb := B.bytes
  have hr := B.returns
  have hts := atoms_spec (ws := wsX1_isInt) B.pre
  have hown : s.vm.findClass RX1 = some m.cls := findClass_of_methodNamed B.named
  have hlocks := B.notSynchronized
  subst hsz
  generalize hAe : va_A [] s.heap.size = A
  have hA : ∀ q : Nat, s.heap.size ≤ q → A q := fun q h => by rw [← hAe]; exact Or.inr h
  have hS : va_S A s.heap s.heap [] := va_S.rf
  have hP : va_P (fun _ => 0, fun _ _ => 0) vwCl [] s.heap := fun k q h => by simp at h
  have hl := lv_entry ([.long x]) (n := 2) (Nat.le_of_ble_eq_true rfl)
  rw [lg_entry_eq]
  generalize (lg_sl ([.long x]) ++ List.replicate (2 - (lg_sl ([.long x])).length) Slot.unset).toArray = ls at hl ⊢
  have hl : lv_has ls 2 [(0, .long x)] := hl
  refine lv_lload_n hx hb dX1_isInt_0 rfl (lv_at hl 0 rfl) ?_
  refine lv_ldc2 (v := (-2147483648)) hx hb hown (hts (.constantLong RX1 97 (-2147483648)) (by decide +kernel)) dX1_isInt_1 ?_
  refine W.lcmp hx hb dX1_isInt_4 ?_
  refine lv_if_lt (tgt := 20) hx hb dX1_isInt_5 (by decide) (fun c5 => ?_) (fun c5 => ?_)
  · skip
    refine lv_iconst (v := 0) hx hb dX1_isInt_20 (by decide) ?_
    exact W.zret (v := 0) hx hb hr rfl (fun tt ht hW => ⟨⟨_, (), rfl, by simp only [lg_cmp_lt, lg_cmp_gt, Int64.not_lt] at *; rw [if_neg (fun z => by first | exact absurd z.1 (Int64.not_le.mpr c5) | exact absurd z.2 (Int64.not_le.mpr c13))], trivial⟩, hS.F ht⟩) hS.2.2 dX1_isInt_21
  · skip
    refine lv_lload_n hx hb dX1_isInt_8 rfl (lv_at hl 0 rfl) ?_
    refine lv_ldc2 (v := 2147483647) hx hb hown (hts (.constantLong RX1 99 2147483647) (by decide +kernel)) dX1_isInt_9 ?_
    refine W.lcmp hx hb dX1_isInt_12 ?_
    refine lv_if_gt (tgt := 20) hx hb dX1_isInt_13 (by decide) (fun c13 => ?_) (fun c13 => ?_)
    · skip
      refine lv_iconst (v := 0) hx hb dX1_isInt_20 (by decide) ?_
      exact W.zret (v := 0) hx hb hr rfl (fun tt ht hW => ⟨⟨_, (), rfl, by simp only [lg_cmp_lt, lg_cmp_gt, Int64.not_lt] at *; rw [if_neg (fun z => by first | exact absurd z.1 (Int64.not_le.mpr c5) | exact absurd z.2 (Int64.not_le.mpr c13))], trivial⟩, hS.F ht⟩) hS.2.2 dX1_isInt_21
    · skip
      refine lv_iconst (v := 1) hx hb dX1_isInt_16 (by decide) ?_
      refine lv_goto (tgt := 21) hx hb dX1_isInt_17 (by decide) ?_
      exact W.zret (v := 1) hx hb hr rfl (fun tt ht hW => ⟨⟨_, (), rfl, by simp only [lg_cmp_lt, lg_cmp_gt, Int64.not_lt] at *; rw [if_pos ⟨c5, c13⟩], trivial⟩, hS.F ht⟩) hS.2.2 dX1_isInt_21
set_option maxHeartbeats 1000000 in
set_option maxRecDepth 100000 in
/-- tellAllInts() -/
theorem c_X1_tellAllInts (l : Launch) (D : va_G) (h0 qT qS sz : Nat) (cA : ClassId) (f : Nat → Int32) (n t : Nat) (lo hi : Int32) (a b : Int64)   : Met l yX1_tellAllInts wsX1_tellAllInts ({ frames := 0, cells := 0, slots := 0, locals := 0 }) (rr_pW D (rr_wx h0 qT qS cA f n t lo hi a b) [(cA, .int)] [.ref h0] sz) (va_Qv (fun (_ : Unit) => True) (fun _ tt => va_P D vwCl (rr_wx h0 qT qS cA f n t (-2147483648) 2147483647 a b) tt.heap) (va_A (rr_wx h0 qT qS cA f n t lo hi a b) sz)) 0 0 (va_A (rr_wx h0 qT qS cA f n t lo hi a b) sz) := by
  refine Met.ofW (cc := cX1_tellAllInts) (maxL := 1) (ret := none) (by decide) rfl ?_
  intro p e s m args below meth c s₁ B hml hv
  obtain ⟨rfl, hsz, hP, hK, hD0⟩ := hv
  have hx := B.exec
  have hb := B.bytes
  have hr := B.returns
  have hts := atoms_spec (ws := wsX1_tellAllInts) B.pre
  have hown : s.vm.findClass RX1 = some m.cls := findClass_of_methodNamed B.named
  have hlocks := B.notSynchronized
  subst hsz
  have hD := hD0.self (sz := s.heap.size)
  generalize hAe : va_A [(h0, .inr (1, [.ref qT, .int (nI n), .int (nI t), .int lo, .int hi, .ref qS])), (qT, .inl (cA, 187, .inl f)), (qS, .inr (0, [.long a, .long b]))] s.heap.size = A at hD ⊢
  have hA : ∀ q : Nat, s.heap.size ≤ q → A q := fun q h => by rw [← hAe]; exact Or.inr h
  have hS : va_S A s.heap s.heap [] := va_S.rf
  have hP : va_P D vwCl [(h0, .inr (1, [.ref qT, .int (nI n), .int (nI t), .int lo, .int hi, .ref qS])), (qT, .inl (cA, 187, .inl f)), (qS, .inr (0, [.long a, .long b]))] s.heap := hP
  have hiX1 : ∀ w ∈ wsX10, w ∈ wsX1_tellAllInts := by decide +kernel
  have hl := lv_entry ([.ref h0]) (n := 1) (Nat.le_of_ble_eq_true rfl)
  rw [lg_entry_eq]
  generalize (lg_sl ([.ref h0]) ++ List.replicate (1 - (lg_sl ([.ref h0])).length) Slot.unset).toArray = ls at hl ⊢
  have hl : lv_has ls 1 [(0, .ref h0)] := hl
  refine lv_aload_n hx hb dX1_tellAllInts_0 rfl (lv_at hl 0 rfl) ?_
  refine lv_ldc (v := (-2147483648)) hx hb hown (hts (.constant RX1 42 (-2147483648)) (by decide +kernel)) dX1_tellAllInts_1 ?_
  refine va_put (D := D) (ci := 1) (v := .int ((-2147483648))) (ty := .int) (C := RX1) (T := TX1) (N := 6) hx hb hts hiX1 tyX1 tyX1_ok nmX1 hown hK hP hD hS 0 rfl rfl 3 (by decide) (hts (.fieldLink RX1 29 "RangeRules" "resultLow" "I") (by decide +kernel)) (fun _ h9 => h9) rfl (by decide +kernel) rfl rfl (Nat.le_of_ble_eq_true rfl) dX1_tellAllInts_3 (fun H locs hP hD hS => ?_)
  have hP : va_P D vwCl [(h0, .inr (1, [.ref qT, .int (nI n), .int (nI t), .int ((-2147483648)), .int hi, .ref qS])), (qT, .inl (cA, 187, .inl f)), (qS, .inr (0, [.long a, .long b]))] H := hP
  have hD : va_D A [(h0, .inr (1, [.ref qT, .int (nI n), .int (nI t), .int ((-2147483648)), .int hi, .ref qS])), (qT, .inl (cA, 187, .inl f)), (qS, .inr (0, [.long a, .long b]))] := hD
  refine lv_aload_n hx hb dX1_tellAllInts_6 rfl (lv_at hl 0 rfl) ?_
  refine lv_ldc (v := 2147483647) hx hb hown (hts (.constant RX1 47 2147483647) (by decide +kernel)) dX1_tellAllInts_7 ?_
  refine va_put (D := D) (ci := 1) (v := .int 2147483647) (ty := .int) (C := RX1) (T := TX1) (N := 6) hx hb hts hiX1 tyX1 tyX1_ok nmX1 hown hK hP hD hS 0 rfl rfl 4 (by decide) (hts (.fieldLink RX1 32 "RangeRules" "resultHigh" "I") (by decide +kernel)) (fun _ h9 => h9) rfl (by decide +kernel) rfl rfl (Nat.le_of_ble_eq_true rfl) dX1_tellAllInts_9 (fun H locs hP hD hS => ?_)
  have hP : va_P D vwCl [(h0, .inr (1, [.ref qT, .int (nI n), .int (nI t), .int ((-2147483648)), .int 2147483647, .ref qS])), (qT, .inl (cA, 187, .inl f)), (qS, .inr (0, [.long a, .long b]))] H := hP
  have hD : va_D A [(h0, .inr (1, [.ref qT, .int (nI n), .int (nI t), .int ((-2147483648)), .int 2147483647, .ref qS])), (qT, .inl (cA, 187, .inl f)), (qS, .inr (0, [.long a, .long b]))] := hD
  exact W.vret hx hb hr (fun tt ht hW => ⟨⟨(), rfl, trivial, by dsimp only; rw [ht]; exact hP⟩, hS.F ht⟩) hS.2.2 dX1_tellAllInts_12
end
section
set_option maxHeartbeats 1000000 in
set_option maxRecDepth 100000 in
/-- onesNotBelow(v) -/
theorem c_X1_onesNotBelow (l : Launch) (sz : Nat) (v : Int32)  : Met l yX1_onesNotBelow wsX1_onesNotBelow ({ frames := 0, cells := 0, slots := 0, locals := 0 }) (rr_p0 [.int v] sz) (va_Qi (fun r (_ : Unit) => r = nI (rr_on v 31 0)) (fun _ _ => True) (va_A [] sz)) 0 0 (va_A [] sz) := by
  refine Met.ofW (cc := cX1_onesNotBelow) (maxL := 3) (ret := (some .int)) (by decide) rfl ?_
  intro p e s m args below meth c s₁ B hml hv
  obtain ⟨rfl, hsz⟩ := hv
  have hx := B.exec
  have hb := B.bytes
  have hr := B.returns
  have hts := atoms_spec (ws := wsX1_onesNotBelow) B.pre
  have hown : s.vm.findClass RX1 = some m.cls := findClass_of_methodNamed B.named
  have hlocks := B.notSynchronized
  subst hsz
  generalize hAe : va_A [] s.heap.size = A
  have hA : ∀ q : Nat, s.heap.size ≤ q → A q := fun q h => by rw [← hAe]; exact Or.inr h
  have hS : va_S A s.heap s.heap [] := va_S.rf
  have hP : va_P (fun _ => 0, fun _ _ => 0) vwCl [] s.heap := fun k q h => by simp at h
  have hl := lv_entry ([.int v]) (n := 3) (Nat.le_of_ble_eq_true rfl)
  rw [lg_entry_eq]
  generalize (lg_sl ([.int v]) ++ List.replicate (3 - (lg_sl ([.int v])).length) Slot.unset).toArray = ls at hl ⊢
  have hl : lv_has ls 3 [(0, .int v)] := hl
  refine lv_iconst (v := 0) hx hb dX1_onesNotBelow_0 (by decide) ?_
  refine lv_istore_n (lv' := [(1, .int 0), (0, .int v)]) hx hb dX1_onesNotBelow_1 rfl hl (by decide) rfl (fun ls hl => ?_)
  refine lv_iconst (v := 0) hx hb dX1_onesNotBelow_2 (by decide) ?_
  refine lv_istore_n (lv' := [(2, .int 0), (1, .int 0), (0, .int v)]) hx hb dX1_onesNotBelow_3 rfl hl (by decide) rfl (fun ls hl => ?_)
  obtain ⟨j, hj0⟩ : ∃ j : Nat, j = 0 := ⟨_, rfl⟩
  obtain ⟨x, hx0⟩ : ∃ x : Nat, x = 0 := ⟨_, rfl⟩
  obtain ⟨k, hk0⟩ : ∃ k : Nat, k = 31 := ⟨_, rfl⟩
  replace hl : lv_has ls 3 [(2, .int (nI j)), (1, .int (nI x)), (0, .int v)] := by rw [hj0, hx0]; exact hl
  have hjk : j + k = 31 := by omega
  have hon : rr_on v 31 0 = rr_on v k x := by rw [hk0, hx0]
  clear hj0 hx0 hk0
  induction k generalizing j x ls with
  | zero =>
    refine lv_iload_n hx hb dX1_onesNotBelow_4 rfl (lv_at hl 0 rfl) ?_
    refine lv_bipush (v := 31) hx hb dX1_onesNotBelow_5 (by decide) ?_
    refine lv_icmp_ge (tgt := 27) hx hb dX1_onesNotBelow_7 (by decide) (fun c7 => ?_) (fun c7 => ?_)
    · skip
      refine lv_iload_n hx hb dX1_onesNotBelow_27 rfl (lv_at hl 1 rfl) ?_
      exact W.iret (v := nI x) hx hb hr (fun tt ht hW => ⟨⟨_, (), rfl, by rw [hon]; rfl, trivial⟩, hS.F ht⟩) hS.2.2 dX1_onesNotBelow_28
    · skip
      exact absurd (nI_le (a := 31) (b := j) (by omega) (by omega)) c7
  | succ k ih =>
    refine lv_iload_n hx hb dX1_onesNotBelow_4 rfl (lv_at hl 0 rfl) ?_
    refine lv_bipush (v := 31) hx hb dX1_onesNotBelow_5 (by decide) ?_
    refine lv_icmp_ge (tgt := 27) hx hb dX1_onesNotBelow_7 (by decide) (fun c7 => ?_) (fun c7 => ?_)
    · skip
      exact absurd c7 (nI_ge (a := j) (b := 31) (by omega) (by decide))
    · skip
      refine lv_iload_n hx hb dX1_onesNotBelow_10 rfl (lv_at hl 1 rfl) ?_
      refine lv_iload_n hx hb dX1_onesNotBelow_11 rfl (lv_at hl 2 rfl) ?_
      refine lv_icmp_ge (tgt := 27) hx hb dX1_onesNotBelow_12 (by decide) (fun c12 => ?_) (fun c12 => ?_)
      · skip
        refine lv_iload_n hx hb dX1_onesNotBelow_27 rfl (lv_at hl 1 rfl) ?_
        exact W.iret (v := nI x) hx hb hr (fun tt ht hW => ⟨⟨_, (), rfl, by rw [hon]; exact congrArg nI (if_neg (c := nI x < v) (Int32.not_lt.mpr c12)).symm, trivial⟩, hS.F ht⟩) hS.2.2 dX1_onesNotBelow_28
      · skip
        refine lv_iconst (v := 2) hx hb dX1_onesNotBelow_15 (by decide) ?_
        refine lv_iload_n hx hb dX1_onesNotBelow_16 rfl (lv_at hl 1 rfl) ?_
        refine lv_imul hx hb dX1_onesNotBelow_17 ?_
        refine lv_iconst (v := 1) hx hb dX1_onesNotBelow_18 (by decide) ?_
        refine lv_iadd hx hb dX1_onesNotBelow_19 ?_
        refine W.eq (congrArg (fun z => F0 m 20 ls (.int z :: [])) (show (2 : Int32) * nI x + 1 = nI (2 * x + 1) by rw [show (2 : Int32) = nI 2 from rfl, pk_mul, nI_1])) ?_
        refine lv_istore_n (lv' := [(1, .int (nI (2 * x + 1))), (2, .int (nI j)), (0, .int v)]) hx hb dX1_onesNotBelow_20 rfl hl (by decide) rfl (fun ls hl => ?_)
        refine lv_iinc (v := nI (j + 1)) (lv' := [(2, .int (nI (j + 1))), (1, .int (nI (2 * x + 1))), (0, .int v)]) hx hb dX1_onesNotBelow_21 hl (k := 1) rfl (nI_1 j) (by decide) rfl (fun ls hl => ?_)
        refine lv_goto (tgt := 4) hx hb dX1_onesNotBelow_24 (by decide) ?_
        exact ih ls (j + 1) (2 * x + 1) (lv_sub hl [0, 1, 2] rfl) (by omega) (by rw [hon]; exact if_pos (c := nI x < v) (Int32.not_le.mp c12))
set_option maxHeartbeats 1000000 in
set_option maxRecDepth 100000 in
/-- tell(x, y) -/
theorem c_X1_tell (l : Launch) (D : va_G) (h0 qT qS sz : Nat) (cA : ClassId) (f : Nat → Int32) (n t : Nat) (lo hi : Int32) (a b : Int64) (x y : Int64) (hn : n ≤ 187) : Met l yX1_tell wsX1_tell ({ frames := 1, cells := 0, slots := 0, locals := 30 }) (rr_pW D (rr_wx h0 qT qS cA f n t lo hi a b) [(cA, .int)] [.ref h0, .long x, .long y] sz) (va_Qv (fun (_ : Unit) => True) (fun _ tt => va_P D vwCl (rr_wx h0 qT qS cA f n t (rr_tl f n x y).1 (rr_tl f n x y).2 a b) tt.heap) (va_A (rr_wx h0 qT qS cA f n t lo hi a b) sz)) 0 0 (va_A (rr_wx h0 qT qS cA f n t lo hi a b) sz) := by
  refine Met.ofW (cc := cX1_tell) (maxL := 5) (ret := none) (by decide) rfl ?_
  intro p e s m args below meth c s₁ B hml hv
  obtain ⟨rfl, hsz, hP, hK, hD0⟩ := hv
  have hx := B.exec
  have hb := B.bytes
  have hr := B.returns
  have hts := atoms_spec (ws := wsX1_tell) B.pre
  have hown : s.vm.findClass RX1 = some m.cls := findClass_of_methodNamed B.named
  have hlocks := B.notSynchronized
  subst hsz
  have hD := hD0.self (sz := s.heap.size)
  generalize hAe : va_A [(h0, .inr (1, [.ref qT, .int (nI n), .int (nI t), .int lo, .int hi, .ref qS])), (qT, .inl (cA, 187, .inl f)), (qS, .inr (0, [.long a, .long b]))] s.heap.size = A at hD ⊢
  have hA : ∀ q : Nat, s.heap.size ≤ q → A q := fun q h => by rw [← hAe]; exact Or.inr h
  have hS : va_S A s.heap s.heap [] := va_S.rf
  have hP : va_P D vwCl [(h0, .inr (1, [.ref qT, .int (nI n), .int (nI t), .int lo, .int hi, .ref qS])), (qT, .inl (cA, 187, .inl f)), (qS, .inr (0, [.long a, .long b]))] s.heap := hP
  have hiX1 : ∀ w ∈ wsX10, w ∈ wsX1_tell := by decide +kernel
  have hl := lv_entry ([.ref h0, .long x, .long y]) (n := 5) (Nat.le_of_ble_eq_true rfl)
  rw [lg_entry_eq]
  generalize (lg_sl ([.ref h0, .long x, .long y]) ++ List.replicate (5 - (lg_sl ([.ref h0, .long x, .long y])).length) Slot.unset).toArray = ls at hl ⊢
  have hl : lv_has ls 5 [(0, .ref h0), (1, .long x), (3, .long y)] := hl
  refine lv_lload_n hx hb dX1_tell_0 rfl (lv_at hl 1 rfl) ?_
  refine rr_ri (va_runS (As := [.long x]) (rest := []) ⟨hx, hb, hml, hown, hts⟩ (c_X1_isInt l s.heap.size x) (va_cwS 1 hts gX1_tell_X1_isInt rfl rfl rfl (by decide +kernel) ⟨Nat.le_of_ble_eq_true rfl, Nat.le_of_ble_eq_true rfl⟩) rr_v0 rfl rfl hl.1 rfl (lv_room (Nat.le_of_ble_eq_true rfl)) dX1_tell_1 ⟨Nat.le_of_ble_eq_true rfl, Nat.le_of_ble_eq_true rfl⟩) hS hA hP (fun r1 H locs e1 hP hS => ?_)
  by_cases b1 : -2147483648 ≤ x ∧ x ≤ 2147483647
  · rw [if_pos b1] at e1
    subst e1
    refine lv_if_eq (tgt := 37) hx hb dX1_tell_4 (by decide) (fun c4 => ?_) (fun c4 => ?_)
    · skip
      exact absurd c4 (by decide)
    · skip
      refine lv_lload_n hx hb dX1_tell_7 rfl (lv_at hl 2 rfl) ?_
      refine rr_ri (va_runS (As := [.long y]) (rest := []) ⟨hx, hb, hml, hown, hts⟩ (c_X1_isInt l H.size y) (va_cwS 1 hts gX1_tell_X1_isInt rfl rfl rfl (by decide +kernel) ⟨Nat.le_of_ble_eq_true rfl, Nat.le_of_ble_eq_true rfl⟩) rr_v0 rfl rfl hl.1 rfl (lv_room (Nat.le_of_ble_eq_true rfl)) dX1_tell_8 ⟨Nat.le_of_ble_eq_true rfl, Nat.le_of_ble_eq_true rfl⟩) hS hA hP (fun r8 H locs e8 hP hS => ?_)
      by_cases b8 : -2147483648 ≤ y ∧ y ≤ 2147483647
      · rw [if_pos b8] at e8
        subst e8
        refine lv_if_eq (tgt := 37) hx hb dX1_tell_11 (by decide) (fun c11 => ?_) (fun c11 => ?_)
        · skip
          exact absurd c11 (by decide)
        · skip
          refine lv_aload_n hx hb dX1_tell_14 rfl (lv_at hl 0 rfl) ?_
          refine lv_aload_n hx hb dX1_tell_15 rfl (lv_at hl 0 rfl) ?_
          refine lv_lload_n hx hb dX1_tell_16 rfl (lv_at hl 1 rfl) ?_
          refine lv_l2i (v := x.toInt32) hx hb dX1_tell_17 rfl ?_
          refine rr_ri (va_runV (As := [.int x.toInt32]) (rest := [.ref h0]) ⟨hx, hb, hml, hown, hts⟩ (c_X1_down l D h0 qT qS H.size cA f n t lo hi a b x.toInt32 hn) (cwV 1 hts gX1_tell_X1_down rfl rfl rfl (by decide +kernel) ⟨Nat.le_of_ble_eq_true rfl, Nat.le_of_ble_eq_true rfl⟩) (rr_vR hK hP (va_recv hK hP (ci := 1) (q0 := 0) rfl rfl)) rfl rfl hl.1 rfl (lv_room (Nat.le_of_ble_eq_true rfl)) dX1_tell_18 ⟨Nat.le_of_ble_eq_true rfl, Nat.le_of_ble_eq_true rfl⟩) hS hA hP (fun r18 H locs e18 hP hS => ?_)
          subst e18
          refine va_put (D := D) (ci := 1) (v := .int (rr_dn f x.toInt32 n)) (ty := .int) (C := RX1) (T := TX1) (N := 6) hx hb hts hiX1 tyX1 tyX1_ok nmX1 hown hK hP hD hS 0 rfl rfl 3 (by decide) (hts (.fieldLink RX1 29 "RangeRules" "resultLow" "I") (by decide +kernel)) (fun _ h9 => h9) rfl (by decide +kernel) rfl rfl (Nat.le_of_ble_eq_true rfl) dX1_tell_21 (fun H locs hP hD hS => ?_)
          have hP : va_P D vwCl [(h0, .inr (1, [.ref qT, .int (nI n), .int (nI t), .int (rr_dn f x.toInt32 n), .int hi, .ref qS])), (qT, .inl (cA, 187, .inl f)), (qS, .inr (0, [.long a, .long b]))] H := hP
          have hD : va_D A [(h0, .inr (1, [.ref qT, .int (nI n), .int (nI t), .int (rr_dn f x.toInt32 n), .int hi, .ref qS])), (qT, .inl (cA, 187, .inl f)), (qS, .inr (0, [.long a, .long b]))] := hD
          refine lv_aload_n hx hb dX1_tell_24 rfl (lv_at hl 0 rfl) ?_
          refine lv_aload_n hx hb dX1_tell_25 rfl (lv_at hl 0 rfl) ?_
          refine lv_lload_n hx hb dX1_tell_26 rfl (lv_at hl 2 rfl) ?_
          refine lv_l2i (v := y.toInt32) hx hb dX1_tell_27 rfl ?_
          refine rr_ri (va_runV (As := [.int y.toInt32]) (rest := [.ref h0]) ⟨hx, hb, hml, hown, hts⟩ (c_X1_up l D h0 qT qS H.size cA f n t (rr_dn f x.toInt32 n) hi a b y.toInt32 hn) (cwV 1 hts gX1_tell_X1_up rfl rfl rfl (by decide +kernel) ⟨Nat.le_of_ble_eq_true rfl, Nat.le_of_ble_eq_true rfl⟩) (rr_vR hK hP (va_recv hK hP (ci := 1) (q0 := 0) rfl rfl)) rfl rfl hl.1 rfl (lv_room (Nat.le_of_ble_eq_true rfl)) dX1_tell_28 ⟨Nat.le_of_ble_eq_true rfl, Nat.le_of_ble_eq_true rfl⟩) hS hA hP (fun r28 H locs e28 hP hS => ?_)
          subst e28
          refine va_put (D := D) (ci := 1) (v := .int (rr_up f y.toInt32 n)) (ty := .int) (C := RX1) (T := TX1) (N := 6) hx hb hts hiX1 tyX1 tyX1_ok nmX1 hown hK hP hD hS 0 rfl rfl 4 (by decide) (hts (.fieldLink RX1 32 "RangeRules" "resultHigh" "I") (by decide +kernel)) (fun _ h9 => h9) rfl (by decide +kernel) rfl rfl (Nat.le_of_ble_eq_true rfl) dX1_tell_31 (fun H locs hP hD hS => ?_)
          have hP : va_P D vwCl [(h0, .inr (1, [.ref qT, .int (nI n), .int (nI t), .int (rr_dn f x.toInt32 n), .int (rr_up f y.toInt32 n), .ref qS])), (qT, .inl (cA, 187, .inl f)), (qS, .inr (0, [.long a, .long b]))] H := hP
          have hD : va_D A [(h0, .inr (1, [.ref qT, .int (nI n), .int (nI t), .int (rr_dn f x.toInt32 n), .int (rr_up f y.toInt32 n), .ref qS])), (qT, .inl (cA, 187, .inl f)), (qS, .inr (0, [.long a, .long b]))] := hD
          refine lv_goto (tgt := 41) hx hb dX1_tell_34 (by decide) ?_
          have ee : rr_tl f n x y = (rr_dn f x.toInt32 n, rr_up f y.toInt32 n) := if_pos ⟨b1, b8⟩
          exact W.vret hx hb hr (fun tt ht hW => ⟨⟨(), rfl, trivial, by dsimp only; rw [ht, ee]; exact hP⟩, hS.F ht⟩) hS.2.2 dX1_tell_41
      · rw [if_neg b8] at e8
        subst e8
        refine lv_if_eq (tgt := 37) hx hb dX1_tell_11 (by decide) (fun c11 => ?_) (fun c11 => ?_)
        · skip
          refine lv_aload_n hx hb dX1_tell_37 rfl (lv_at hl 0 rfl) ?_
          refine rr_wv (wr := []) [0, 1, 2] [] (va_runV (As := []) (rest := []) ⟨hx, hb, hml, hown, hts⟩ (c_X1_tellAllInts l D h0 qT qS H.size cA f n t lo hi a b) (cwV 0 hts gX1_tell_X1_tellAllInts rfl rfl rfl (by decide +kernel) ⟨Nat.le_of_ble_eq_true rfl, Nat.le_of_ble_eq_true rfl⟩) (rr_vW hK hP hD (va_recv hK hP (ci := 1) (q0 := 0) rfl rfl)) rfl rfl hl.1 rfl (lv_room (Nat.le_of_ble_eq_true rfl)) dX1_tell_38 ⟨Nat.le_of_ble_eq_true rfl, Nat.le_of_ble_eq_true rfl⟩) hS hA hP hD rfl rfl (by decide) (by decide) (by decide) (fun _ => by simp only [rr_wx, rr_wm, List.map_cons, List.map_nil]) (fun u38 H locs e38 hP hD hS => ?_)
          have hP : va_P D vwCl [(h0, .inr (1, [.ref qT, .int (nI n), .int (nI t), .int ((-2147483648)), .int 2147483647, .ref qS])), (qT, .inl (cA, 187, .inl f)), (qS, .inr (0, [.long a, .long b]))] H := hP
          have hD : va_D A [(h0, .inr (1, [.ref qT, .int (nI n), .int (nI t), .int ((-2147483648)), .int 2147483647, .ref qS])), (qT, .inl (cA, 187, .inl f)), (qS, .inr (0, [.long a, .long b]))] := hD
          have ee : rr_tl f n x y = (-2147483648, 2147483647) := if_neg (fun z => by first | exact b1 z.1 | exact b8 z.2)
          exact W.vret hx hb hr (fun tt ht hW => ⟨⟨(), rfl, trivial, by dsimp only; rw [ht, ee]; exact hP⟩, hS.F ht⟩) hS.2.2 dX1_tell_41
        · skip
          exact absurd c11 (by decide)
  · rw [if_neg b1] at e1
    subst e1
    refine lv_if_eq (tgt := 37) hx hb dX1_tell_4 (by decide) (fun c4 => ?_) (fun c4 => ?_)
    · skip
      refine lv_aload_n hx hb dX1_tell_37 rfl (lv_at hl 0 rfl) ?_
      refine rr_wv (wr := []) [0, 1, 2] [] (va_runV (As := []) (rest := []) ⟨hx, hb, hml, hown, hts⟩ (c_X1_tellAllInts l D h0 qT qS H.size cA f n t lo hi a b) (cwV 0 hts gX1_tell_X1_tellAllInts rfl rfl rfl (by decide +kernel) ⟨Nat.le_of_ble_eq_true rfl, Nat.le_of_ble_eq_true rfl⟩) (rr_vW hK hP hD (va_recv hK hP (ci := 1) (q0 := 0) rfl rfl)) rfl rfl hl.1 rfl (lv_room (Nat.le_of_ble_eq_true rfl)) dX1_tell_38 ⟨Nat.le_of_ble_eq_true rfl, Nat.le_of_ble_eq_true rfl⟩) hS hA hP hD rfl rfl (by decide) (by decide) (by decide) (fun _ => by simp only [rr_wx, rr_wm, List.map_cons, List.map_nil]) (fun u38 H locs e38 hP hD hS => ?_)
      have hP : va_P D vwCl [(h0, .inr (1, [.ref qT, .int (nI n), .int (nI t), .int ((-2147483648)), .int 2147483647, .ref qS])), (qT, .inl (cA, 187, .inl f)), (qS, .inr (0, [.long a, .long b]))] H := hP
      have hD : va_D A [(h0, .inr (1, [.ref qT, .int (nI n), .int (nI t), .int ((-2147483648)), .int 2147483647, .ref qS])), (qT, .inl (cA, 187, .inl f)), (qS, .inr (0, [.long a, .long b]))] := hD
      have ee : rr_tl f n x y = (-2147483648, 2147483647) := if_neg (fun z => by first | exact b1 z.1 | exact b8 z.2)
      exact W.vret hx hb hr (fun tt ht hW => ⟨⟨(), rfl, trivial, by dsimp only; rw [ht, ee]; exact hP⟩, hS.F ht⟩) hS.2.2 dX1_tell_41
    · skip
      exact absurd c4 (by decide)
set_option maxHeartbeats 1000000 in
set_option maxRecDepth 100000 in
/-- addThreshold(v) -/
theorem c_X1_addThreshold (l : Launch) (D : va_G) (h0 qT qS sz : Nat) (cA : ClassId) (f : Nat → Int32) (n t : Nat) (lo hi : Int32) (a b : Int64) (v : Int32) (hn : n < 187) (hk : rr_ok f n) : Met l yX1_addThreshold wsX1_addThreshold ({ frames := 2, cells := 0, slots := 0, locals := 51 }) (rr_pW D (rr_wx h0 qT qS cA f n t lo hi a b) [(cA, .int)] [.ref h0, .int v] sz) (va_Qv (fun (_ : Unit) => True) (fun _ tt => va_P D vwCl (rr_wx h0 qT qS cA (rr_ad f n v).1 (rr_ad f n v).2 t lo hi a b) tt.heap) (va_A (rr_wx h0 qT qS cA f n t lo hi a b) sz)) 0 0 (va_A (rr_wx h0 qT qS cA f n t lo hi a b) sz) := by
  refine Met.ofW (cc := cX1_addThreshold) (maxL := 2) (ret := none) (by decide) rfl ?_
  intro p e s m args below meth c s₁ B hml hv
  obtain ⟨rfl, hsz, hP, hK, hD0⟩ := hv
  have hx := B.exec
  have hb := B.bytes
  have hr := B.returns
  have hts := atoms_spec (ws := wsX1_addThreshold) B.pre
  have hown : s.vm.findClass RX1 = some m.cls := findClass_of_methodNamed B.named
  have hlocks := B.notSynchronized
  subst hsz
  have hD := hD0.self (sz := s.heap.size)
  generalize hAe : va_A [(h0, .inr (1, [.ref qT, .int (nI n), .int (nI t), .int lo, .int hi, .ref qS])), (qT, .inl (cA, 187, .inl f)), (qS, .inr (0, [.long a, .long b]))] s.heap.size = A at hD ⊢
  have hA : ∀ q : Nat, s.heap.size ≤ q → A q := fun q h => by rw [← hAe]; exact Or.inr h
  have hS : va_S A s.heap s.heap [] := va_S.rf
  have hP : va_P D vwCl [(h0, .inr (1, [.ref qT, .int (nI n), .int (nI t), .int lo, .int hi, .ref qS])), (qT, .inl (cA, 187, .inl f)), (qS, .inr (0, [.long a, .long b]))] s.heap := hP
  have hiX1 : ∀ w ∈ wsX10, w ∈ wsX1_addThreshold := by decide +kernel
  have hl := lv_entry ([.ref h0, .int v]) (n := 2) (Nat.le_of_ble_eq_true rfl)
  rw [lg_entry_eq]
  generalize (lg_sl ([.ref h0, .int v]) ++ List.replicate (2 - (lg_sl ([.ref h0, .int v])).length) Slot.unset).toArray = ls at hl ⊢
  have hl : lv_has ls 2 [(0, .ref h0), (1, .int v)] := hl
  refine lv_aload_n hx hb dX1_addThreshold_0 rfl (lv_at hl 0 rfl) ?_
  refine lv_iload_n hx hb dX1_addThreshold_1 rfl (lv_at hl 1 rfl) ?_
  refine rr_ri (va_runV (As := [.int v]) (rest := []) ⟨hx, hb, hml, hown, hts⟩ (c_X1_isThreshold l D h0 qT qS s.heap.size cA f n t lo hi a b v (Nat.le_of_lt hn) hk) (cwV 1 hts gX1_addThreshold_X1_isThreshold rfl rfl rfl (by decide +kernel) ⟨Nat.le_of_ble_eq_true rfl, Nat.le_of_ble_eq_true rfl⟩) (rr_vR hK hP (va_recv hK hP (ci := 1) (q0 := 0) rfl rfl)) rfl rfl hl.1 rfl (lv_room (Nat.le_of_ble_eq_true rfl)) dX1_addThreshold_2 ⟨Nat.le_of_ble_eq_true rfl, Nat.le_of_ble_eq_true rfl⟩) hS hA hP (fun r2 H locs e2 hP hS => ?_)
  by_cases b2 : rr_fd f v n = true
  · rw [if_pos b2] at e2
    subst e2
    refine lv_if_ne (tgt := 40) hx hb dX1_addThreshold_5 (by decide) (fun c5 => ?_) (fun c5 => ?_)
    · skip
      have ee : rr_ad f n v = (f, n) := if_pos b2
      exact W.vret hx hb hr (fun tt ht hW => ⟨⟨(), rfl, trivial, by dsimp only; rw [ht, ee]; exact hP⟩, hS.F ht⟩) hS.2.2 dX1_addThreshold_40
    · skip
      exact absurd c5 (by decide)
  · rw [if_neg b2] at e2
    subst e2
    refine lv_if_ne (tgt := 40) hx hb dX1_addThreshold_5 (by decide) (fun c5 => ?_) (fun c5 => ?_)
    · skip
      exact absurd c5 (by decide)
    · skip
      refine lv_aload_n hx hb dX1_addThreshold_8 rfl (lv_at hl 0 rfl) ?_
      refine va_get (D := D) (ci := 1) (v := .int (nI n)) (C := RX1) (T := TX1) (N := 6) hx hb hts hiX1 hown hK hP 0 rfl rfl 1 (by decide) (hts (.fieldLink RX1 22 "RangeRules" "thresholdCount" "I") (by decide +kernel)) (fun _ h9 => h9) rfl dX1_addThreshold_9 ?_
      refine lv_aload_n hx hb dX1_addThreshold_12 rfl (lv_at hl 0 rfl) ?_
      refine va_get (D := D) (ci := 1) (v := .ref qT) (C := RX1) (T := TX1) (N := 6) hx hb hts hiX1 hown hK hP 0 rfl rfl 0 (by decide) (hts (.fieldLink RX1 13 "RangeRules" "thresholds" "[I") (by decide +kernel)) (fun _ h9 => h9) rfl dX1_addThreshold_13 ?_
      refine va_alen (v := 187) hx hb hK hP 1 0 rfl rfl rfl dX1_addThreshold_16 ?_
      refine lv_icmp_ge (tgt := 40) hx hb dX1_addThreshold_17 (by decide) (fun c17 => ?_) (fun c17 => ?_)
      · skip
        exact absurd c17 (nI_ge (a := n) (b := 187) hn (by decide))
      · skip
        refine lv_aload_n hx hb dX1_addThreshold_20 rfl (lv_at hl 0 rfl) ?_
        refine va_get (D := D) (ci := 1) (v := .ref qT) (C := RX1) (T := TX1) (N := 6) hx hb hts hiX1 hown hK hP 0 rfl rfl 0 (by decide) (hts (.fieldLink RX1 13 "RangeRules" "thresholds" "[I") (by decide +kernel)) (fun _ h9 => h9) rfl dX1_addThreshold_21 ?_
        refine lv_aload_n hx hb dX1_addThreshold_24 rfl (lv_at hl 0 rfl) ?_
        refine va_get (D := D) (ci := 1) (v := .int (nI n)) (C := RX1) (T := TX1) (N := 6) hx hb hts hiX1 hown hK hP 0 rfl rfl 1 (by decide) (hts (.fieldLink RX1 22 "RangeRules" "thresholdCount" "I") (by decide +kernel)) (fun _ h9 => h9) rfl dX1_addThreshold_25 ?_
        refine lv_iload_n hx hb dX1_addThreshold_28 rfl (lv_at hl 1 rfl) ?_
        refine va_iast hx hb hK hP hD hS 1 0 rfl rfl (vp_in_nI hn (by decide)) dX1_addThreshold_29 (fun H locs hP hD hS => ?_)
        rw [nI_clamp (by omega)] at hP hD
        have hP : va_P D vwCl [(h0, .inr (1, [.ref qT, .int (nI n), .int (nI t), .int lo, .int hi, .ref qS])), (qT, .inl (cA, 187, .inl (upd f n v))), (qS, .inr (0, [.long a, .long b]))] H := hP
        have hD : va_D A [(h0, .inr (1, [.ref qT, .int (nI n), .int (nI t), .int lo, .int hi, .ref qS])), (qT, .inl (cA, 187, .inl (upd f n v))), (qS, .inr (0, [.long a, .long b]))] := hD
        refine lv_aload_n hx hb dX1_addThreshold_30 rfl (lv_at hl 0 rfl) ?_
        refine lv_dup hx hb dX1_addThreshold_31 rfl ?_
        refine va_get (D := D) (ci := 1) (v := .int (nI n)) (C := RX1) (T := TX1) (N := 6) hx hb hts hiX1 hown hK hP 0 rfl rfl 1 (by decide) (hts (.fieldLink RX1 22 "RangeRules" "thresholdCount" "I") (by decide +kernel)) (fun _ h9 => h9) rfl dX1_addThreshold_32 ?_
        refine lv_iconst (v := 1) hx hb dX1_addThreshold_35 (by decide) ?_
        refine lv_iadd hx hb dX1_addThreshold_36 ?_
        refine W.eq (congrArg (fun z => F0 m 37 ls (.int z :: [.ref h0])) (nI_1 n)) ?_
        refine va_put (D := D) (ci := 1) (v := .int (nI (n + 1))) (ty := .int) (C := RX1) (T := TX1) (N := 6) hx hb hts hiX1 tyX1 tyX1_ok nmX1 hown hK hP hD hS 0 rfl rfl 1 (by decide) (hts (.fieldLink RX1 22 "RangeRules" "thresholdCount" "I") (by decide +kernel)) (fun _ h9 => h9) rfl (by decide +kernel) rfl rfl (Nat.le_of_ble_eq_true rfl) dX1_addThreshold_37 (fun H locs hP hD hS => ?_)
        have hP : va_P D vwCl [(h0, .inr (1, [.ref qT, .int (nI (n + 1)), .int (nI t), .int lo, .int hi, .ref qS])), (qT, .inl (cA, 187, .inl (upd f n v))), (qS, .inr (0, [.long a, .long b]))] H := hP
        have hD : va_D A [(h0, .inr (1, [.ref qT, .int (nI (n + 1)), .int (nI t), .int lo, .int hi, .ref qS])), (qT, .inl (cA, 187, .inl (upd f n v))), (qS, .inr (0, [.long a, .long b]))] := hD
        have ee : rr_ad f n v = (upd f n v, n + 1) := if_neg b2
        exact W.vret hx hb hr (fun tt ht hW => ⟨⟨(), rfl, trivial, by dsimp only; rw [ht, ee]; exact hP⟩, hS.F ht⟩) hS.2.2 dX1_addThreshold_40
set_option maxHeartbeats 1000000 in
set_option maxRecDepth 100000 in
/-- around(v) -/
theorem c_X1_around (l : Launch) (D : va_G) (h0 qT qS sz : Nat) (cA : ClassId) (f : Nat → Int32) (n t : Nat) (lo hi : Int32) (a b : Int64) (v : Int32) (hk : rr_ok f n) (ht6 : t ≤ 60) (hnt : n ≤ 7 + 3 * t) : Met l yX1_around wsX1_around ({ frames := 3, cells := 0, slots := 0, locals := 72 }) (rr_pW D (rr_wx h0 qT qS cA f n t lo hi a b) [(cA, .int)] [.ref h0, .int v] sz) (va_Qi (fun r (_ : Unit) => r = if t = 60 then -1 else nI (rr_ar f n v).2) (fun _ tt => va_P D vwCl (rr_wx h0 qT qS cA (if t = 60 then f else (rr_ar f n v).1) (if t = 60 then n else (rr_ar f n v).2) (if t = 60 then t else t + 1) lo hi a b) tt.heap) (va_A (rr_wx h0 qT qS cA f n t lo hi a b) sz)) 0 0 (va_A (rr_wx h0 qT qS cA f n t lo hi a b) sz) := by
  refine Met.ofW (cc := cX1_around) (maxL := 2) (ret := (some .int)) (by decide) rfl ?_
  intro p e s m args below meth c s₁ B hml hv
  obtain ⟨rfl, hsz, hP, hK, hD0⟩ := hv
  have hx := B.exec
  have hb := B.bytes
  have hr := B.returns
  have hts := atoms_spec (ws := wsX1_around) B.pre
  have hown : s.vm.findClass RX1 = some m.cls := findClass_of_methodNamed B.named
  have hlocks := B.notSynchronized
  subst hsz
  have hD := hD0.self (sz := s.heap.size)
  generalize hAe : va_A [(h0, .inr (1, [.ref qT, .int (nI n), .int (nI t), .int lo, .int hi, .ref qS])), (qT, .inl (cA, 187, .inl f)), (qS, .inr (0, [.long a, .long b]))] s.heap.size = A at hD ⊢
  have hA : ∀ q : Nat, s.heap.size ≤ q → A q := fun q h => by rw [← hAe]; exact Or.inr h
  have hS : va_S A s.heap s.heap [] := va_S.rf
  have hP : va_P D vwCl [(h0, .inr (1, [.ref qT, .int (nI n), .int (nI t), .int lo, .int hi, .ref qS])), (qT, .inl (cA, 187, .inl f)), (qS, .inr (0, [.long a, .long b]))] s.heap := hP
  have hiX1 : ∀ w ∈ wsX10, w ∈ wsX1_around := by decide +kernel
  have hl := lv_entry ([.ref h0, .int v]) (n := 2) (Nat.le_of_ble_eq_true rfl)
  rw [lg_entry_eq]
  generalize (lg_sl ([.ref h0, .int v]) ++ List.replicate (2 - (lg_sl ([.ref h0, .int v])).length) Slot.unset).toArray = ls at hl ⊢
  have hl : lv_has ls 2 [(0, .ref h0), (1, .int v)] := hl
  refine lv_aload_n hx hb dX1_around_0 rfl (lv_at hl 0 rfl) ?_
  refine va_get (D := D) (ci := 1) (v := .int (nI t)) (C := RX1) (T := TX1) (N := 6) hx hb hts hiX1 hown hK hP 0 rfl rfl 2 (by decide) (hts (.fieldLink RX1 26 "RangeRules" "aroundCount" "I") (by decide +kernel)) (fun _ h9 => h9) rfl dX1_around_1 ?_
  refine lv_bipush (v := 60) hx hb dX1_around_4 (by decide) ?_
  refine lv_icmp_lt (tgt := 11) hx hb dX1_around_6 (by decide) (fun c6 => ?_) (fun c6 => ?_)
  · skip
    have h6 : t < 60 := by rcases Nat.lt_or_ge t 60 with q | q; exact q; exact absurd c6 (nI_nlt (a := t) (b := 60) q (by omega))
    have h7 : ¬ t = 60 := by omega
    refine lv_aload_n hx hb dX1_around_11 rfl (lv_at hl 0 rfl) ?_
    refine lv_dup hx hb dX1_around_12 rfl ?_
    refine va_get (D := D) (ci := 1) (v := .int (nI t)) (C := RX1) (T := TX1) (N := 6) hx hb hts hiX1 hown hK hP 0 rfl rfl 2 (by decide) (hts (.fieldLink RX1 26 "RangeRules" "aroundCount" "I") (by decide +kernel)) (fun _ h9 => h9) rfl dX1_around_13 ?_
    refine lv_iconst (v := 1) hx hb dX1_around_16 (by decide) ?_
    refine lv_iadd hx hb dX1_around_17 ?_
    refine W.eq (congrArg (fun z => F0 m 18 ls (.int z :: [.ref h0])) (nI_1 t)) ?_
    refine va_put (D := D) (ci := 1) (v := .int (nI (t + 1))) (ty := .int) (C := RX1) (T := TX1) (N := 6) hx hb hts hiX1 tyX1 tyX1_ok nmX1 hown hK hP hD hS 0 rfl rfl 2 (by decide) (hts (.fieldLink RX1 26 "RangeRules" "aroundCount" "I") (by decide +kernel)) (fun _ h9 => h9) rfl (by decide +kernel) rfl rfl (Nat.le_of_ble_eq_true rfl) dX1_around_18 (fun H locs hP hD hS => ?_)
    have hP : va_P D vwCl [(h0, .inr (1, [.ref qT, .int (nI n), .int (nI (t + 1)), .int lo, .int hi, .ref qS])), (qT, .inl (cA, 187, .inl f)), (qS, .inr (0, [.long a, .long b]))] H := hP
    have hD : va_D A [(h0, .inr (1, [.ref qT, .int (nI n), .int (nI (t + 1)), .int lo, .int hi, .ref qS])), (qT, .inl (cA, 187, .inl f)), (qS, .inr (0, [.long a, .long b]))] := hD
    refine lv_iload_n hx hb dX1_around_21 rfl (lv_at hl 1 rfl) ?_
    refine lv_ldc (v := (-2147483648)) hx hb hown (hts (.constant RX1 42 (-2147483648)) (by decide +kernel)) dX1_around_22 ?_
    refine lv_icmp_le (tgt := 34) hx hb dX1_around_24 (by decide) (fun c24 => ?_) (fun c24 => ?_)
    · skip
      refine lv_aload_n hx hb dX1_around_34 rfl (lv_at hl 0 rfl) ?_
      refine lv_iload_n hx hb dX1_around_35 rfl (lv_at hl 1 rfl) ?_
      refine rr_wv (wr := []) [0, 1, 2] [] (va_runV (As := [.int v]) (rest := []) ⟨hx, hb, hml, hown, hts⟩ (c_X1_addThreshold l D h0 qT qS H.size cA f n (t + 1) lo hi a b v (by omega) hk) (cwV 1 hts gX1_around_X1_addThreshold rfl rfl rfl (by decide +kernel) ⟨Nat.le_of_ble_eq_true rfl, Nat.le_of_ble_eq_true rfl⟩) (rr_vW hK hP hD (va_recv hK hP (ci := 1) (q0 := 0) rfl rfl)) rfl rfl hl.1 rfl (lv_room (Nat.le_of_ble_eq_true rfl)) dX1_around_36 ⟨Nat.le_of_ble_eq_true rfl, Nat.le_of_ble_eq_true rfl⟩) hS hA hP hD rfl rfl (by decide) (by decide) (by decide) (fun _ => by simp only [rr_wx, rr_wm, List.map_cons, List.map_nil]) (fun u36 H locs e36 hP hD hS => ?_)
      have hP : va_P D vwCl [(h0, .inr (1, [.ref qT, .int (nI (rr_ad f n v).2), .int (nI (t + 1)), .int lo, .int hi, .ref qS])), (qT, .inl (cA, 187, .inl ((rr_ad f n v).1))), (qS, .inr (0, [.long a, .long b]))] H := hP
      have hD : va_D A [(h0, .inr (1, [.ref qT, .int (nI (rr_ad f n v).2), .int (nI (t + 1)), .int lo, .int hi, .ref qS])), (qT, .inl (cA, 187, .inl ((rr_ad f n v).1))), (qS, .inr (0, [.long a, .long b]))] := hD
      obtain ⟨f1, n1, g1⟩ : ∃ (fz : Nat → Int32) (nz : Nat), rr_ad f n v = (fz, nz) := ⟨_, _, rfl⟩
      rw [g1] at hP hD
      obtain ⟨hk1, hq1, hr1⟩ := rr_ad_of hk g1
      have hP : va_P D vwCl [(h0, .inr (1, [.ref qT, .int (nI n1), .int (nI (t + 1)), .int lo, .int hi, .ref qS])), (qT, .inl (cA, 187, .inl f1)), (qS, .inr (0, [.long a, .long b]))] H := hP
      have hD : va_D A [(h0, .inr (1, [.ref qT, .int (nI n1), .int (nI (t + 1)), .int lo, .int hi, .ref qS])), (qT, .inl (cA, 187, .inl f1)), (qS, .inr (0, [.long a, .long b]))] := hD
      refine lv_iload_n hx hb dX1_around_39 rfl (lv_at hl 1 rfl) ?_
      refine lv_ldc (v := 2147483647) hx hb hown (hts (.constant RX1 47 2147483647) (by decide +kernel)) dX1_around_40 ?_
      refine lv_icmp_ge (tgt := 52) hx hb dX1_around_42 (by decide) (fun c42 => ?_) (fun c42 => ?_)
      · skip
        refine lv_aload_n hx hb dX1_around_52 rfl (lv_at hl 0 rfl) ?_
        refine va_get (D := D) (ci := 1) (v := .int (nI n1)) (C := RX1) (T := TX1) (N := 6) hx hb hts hiX1 hown hK hP 0 rfl rfl 1 (by decide) (hts (.fieldLink RX1 22 "RangeRules" "thresholdCount" "I") (by decide +kernel)) (fun _ h9 => h9) rfl dX1_around_53 ?_
        have ee : rr_ar f n v = (f1, n1) := by
          unfold rr_ar
          rw [rr_e1 c24]
          dsimp only
          rw [rr_e3, g1]
          dsimp only
          rw [rr_e4 c42]
        exact W.iret (v := nI n1) hx hb hr (fun tt ht hW => ⟨⟨_, (), rfl, by rw [if_neg h7, ee], by dsimp only; rw [ht, if_neg h7, if_neg h7, if_neg h7, ee]; exact hP⟩, hS.F ht⟩) hS.2.2 dX1_around_56
      · skip
        refine lv_aload_n hx hb dX1_around_45 rfl (lv_at hl 0 rfl) ?_
        refine lv_iload_n hx hb dX1_around_46 rfl (lv_at hl 1 rfl) ?_
        refine lv_iconst (v := 1) hx hb dX1_around_47 (by decide) ?_
        refine lv_iadd hx hb dX1_around_48 ?_
        refine rr_wv (wr := []) [0, 1, 2] [] (va_runV (As := [.int (v + 1)]) (rest := []) ⟨hx, hb, hml, hown, hts⟩ (c_X1_addThreshold l D h0 qT qS H.size cA f1 n1 (t + 1) lo hi a b (v + 1) (by omega) hk1) (cwV 1 hts gX1_around_X1_addThreshold rfl rfl rfl (by decide +kernel) ⟨Nat.le_of_ble_eq_true rfl, Nat.le_of_ble_eq_true rfl⟩) (rr_vW hK hP hD (va_recv hK hP (ci := 1) (q0 := 0) rfl rfl)) rfl rfl hl.1 rfl (lv_room (Nat.le_of_ble_eq_true rfl)) dX1_around_49 ⟨Nat.le_of_ble_eq_true rfl, Nat.le_of_ble_eq_true rfl⟩) hS hA hP hD rfl rfl (by decide) (by decide) (by decide) (fun _ => by simp only [rr_wx, rr_wm, List.map_cons, List.map_nil]) (fun u49 H locs e49 hP hD hS => ?_)
        have hP : va_P D vwCl [(h0, .inr (1, [.ref qT, .int (nI (rr_ad f1 n1 (v + 1)).2), .int (nI (t + 1)), .int lo, .int hi, .ref qS])), (qT, .inl (cA, 187, .inl ((rr_ad f1 n1 (v + 1)).1))), (qS, .inr (0, [.long a, .long b]))] H := hP
        have hD : va_D A [(h0, .inr (1, [.ref qT, .int (nI (rr_ad f1 n1 (v + 1)).2), .int (nI (t + 1)), .int lo, .int hi, .ref qS])), (qT, .inl (cA, 187, .inl ((rr_ad f1 n1 (v + 1)).1))), (qS, .inr (0, [.long a, .long b]))] := hD
        obtain ⟨f2, n2, g2⟩ : ∃ (fz : Nat → Int32) (nz : Nat), rr_ad f1 n1 (v + 1) = (fz, nz) := ⟨_, _, rfl⟩
        rw [g2] at hP hD
        obtain ⟨hk2, hq2, hr2⟩ := rr_ad_of hk1 g2
        have hP : va_P D vwCl [(h0, .inr (1, [.ref qT, .int (nI n2), .int (nI (t + 1)), .int lo, .int hi, .ref qS])), (qT, .inl (cA, 187, .inl f2)), (qS, .inr (0, [.long a, .long b]))] H := hP
        have hD : va_D A [(h0, .inr (1, [.ref qT, .int (nI n2), .int (nI (t + 1)), .int lo, .int hi, .ref qS])), (qT, .inl (cA, 187, .inl f2)), (qS, .inr (0, [.long a, .long b]))] := hD
        refine lv_aload_n hx hb dX1_around_52 rfl (lv_at hl 0 rfl) ?_
        refine va_get (D := D) (ci := 1) (v := .int (nI n2)) (C := RX1) (T := TX1) (N := 6) hx hb hts hiX1 hown hK hP 0 rfl rfl 1 (by decide) (hts (.fieldLink RX1 22 "RangeRules" "thresholdCount" "I") (by decide +kernel)) (fun _ h9 => h9) rfl dX1_around_53 ?_
        have ee : rr_ar f n v = (f2, n2) := by
          unfold rr_ar
          rw [rr_e1 c24]
          dsimp only
          rw [rr_e3, g1]
          dsimp only
          rw [rr_e5 c42, g2]
        exact W.iret (v := nI n2) hx hb hr (fun tt ht hW => ⟨⟨_, (), rfl, by rw [if_neg h7, ee], by dsimp only; rw [ht, if_neg h7, if_neg h7, if_neg h7, ee]; exact hP⟩, hS.F ht⟩) hS.2.2 dX1_around_56
    · skip
      refine lv_aload_n hx hb dX1_around_27 rfl (lv_at hl 0 rfl) ?_
      refine lv_iload_n hx hb dX1_around_28 rfl (lv_at hl 1 rfl) ?_
      refine lv_iconst (v := 1) hx hb dX1_around_29 (by decide) ?_
      refine lv_isub hx hb dX1_around_30 ?_
      refine rr_wv (wr := []) [0, 1, 2] [] (va_runV (As := [.int (v - 1)]) (rest := []) ⟨hx, hb, hml, hown, hts⟩ (c_X1_addThreshold l D h0 qT qS H.size cA f n (t + 1) lo hi a b (v - 1) (by omega) hk) (cwV 1 hts gX1_around_X1_addThreshold rfl rfl rfl (by decide +kernel) ⟨Nat.le_of_ble_eq_true rfl, Nat.le_of_ble_eq_true rfl⟩) (rr_vW hK hP hD (va_recv hK hP (ci := 1) (q0 := 0) rfl rfl)) rfl rfl hl.1 rfl (lv_room (Nat.le_of_ble_eq_true rfl)) dX1_around_31 ⟨Nat.le_of_ble_eq_true rfl, Nat.le_of_ble_eq_true rfl⟩) hS hA hP hD rfl rfl (by decide) (by decide) (by decide) (fun _ => by simp only [rr_wx, rr_wm, List.map_cons, List.map_nil]) (fun u31 H locs e31 hP hD hS => ?_)
      have hP : va_P D vwCl [(h0, .inr (1, [.ref qT, .int (nI (rr_ad f n (v - 1)).2), .int (nI (t + 1)), .int lo, .int hi, .ref qS])), (qT, .inl (cA, 187, .inl ((rr_ad f n (v - 1)).1))), (qS, .inr (0, [.long a, .long b]))] H := hP
      have hD : va_D A [(h0, .inr (1, [.ref qT, .int (nI (rr_ad f n (v - 1)).2), .int (nI (t + 1)), .int lo, .int hi, .ref qS])), (qT, .inl (cA, 187, .inl ((rr_ad f n (v - 1)).1))), (qS, .inr (0, [.long a, .long b]))] := hD
      obtain ⟨f1, n1, g1⟩ : ∃ (fz : Nat → Int32) (nz : Nat), rr_ad f n (v - 1) = (fz, nz) := ⟨_, _, rfl⟩
      rw [g1] at hP hD
      obtain ⟨hk1, hq1, hr1⟩ := rr_ad_of hk g1
      have hP : va_P D vwCl [(h0, .inr (1, [.ref qT, .int (nI n1), .int (nI (t + 1)), .int lo, .int hi, .ref qS])), (qT, .inl (cA, 187, .inl f1)), (qS, .inr (0, [.long a, .long b]))] H := hP
      have hD : va_D A [(h0, .inr (1, [.ref qT, .int (nI n1), .int (nI (t + 1)), .int lo, .int hi, .ref qS])), (qT, .inl (cA, 187, .inl f1)), (qS, .inr (0, [.long a, .long b]))] := hD
      refine lv_aload_n hx hb dX1_around_34 rfl (lv_at hl 0 rfl) ?_
      refine lv_iload_n hx hb dX1_around_35 rfl (lv_at hl 1 rfl) ?_
      refine rr_wv (wr := []) [0, 1, 2] [] (va_runV (As := [.int v]) (rest := []) ⟨hx, hb, hml, hown, hts⟩ (c_X1_addThreshold l D h0 qT qS H.size cA f1 n1 (t + 1) lo hi a b v (by omega) hk1) (cwV 1 hts gX1_around_X1_addThreshold rfl rfl rfl (by decide +kernel) ⟨Nat.le_of_ble_eq_true rfl, Nat.le_of_ble_eq_true rfl⟩) (rr_vW hK hP hD (va_recv hK hP (ci := 1) (q0 := 0) rfl rfl)) rfl rfl hl.1 rfl (lv_room (Nat.le_of_ble_eq_true rfl)) dX1_around_36 ⟨Nat.le_of_ble_eq_true rfl, Nat.le_of_ble_eq_true rfl⟩) hS hA hP hD rfl rfl (by decide) (by decide) (by decide) (fun _ => by simp only [rr_wx, rr_wm, List.map_cons, List.map_nil]) (fun u36 H locs e36 hP hD hS => ?_)
      have hP : va_P D vwCl [(h0, .inr (1, [.ref qT, .int (nI (rr_ad f1 n1 v).2), .int (nI (t + 1)), .int lo, .int hi, .ref qS])), (qT, .inl (cA, 187, .inl ((rr_ad f1 n1 v).1))), (qS, .inr (0, [.long a, .long b]))] H := hP
      have hD : va_D A [(h0, .inr (1, [.ref qT, .int (nI (rr_ad f1 n1 v).2), .int (nI (t + 1)), .int lo, .int hi, .ref qS])), (qT, .inl (cA, 187, .inl ((rr_ad f1 n1 v).1))), (qS, .inr (0, [.long a, .long b]))] := hD
      obtain ⟨f2, n2, g2⟩ : ∃ (fz : Nat → Int32) (nz : Nat), rr_ad f1 n1 v = (fz, nz) := ⟨_, _, rfl⟩
      rw [g2] at hP hD
      obtain ⟨hk2, hq2, hr2⟩ := rr_ad_of hk1 g2
      have hP : va_P D vwCl [(h0, .inr (1, [.ref qT, .int (nI n2), .int (nI (t + 1)), .int lo, .int hi, .ref qS])), (qT, .inl (cA, 187, .inl f2)), (qS, .inr (0, [.long a, .long b]))] H := hP
      have hD : va_D A [(h0, .inr (1, [.ref qT, .int (nI n2), .int (nI (t + 1)), .int lo, .int hi, .ref qS])), (qT, .inl (cA, 187, .inl f2)), (qS, .inr (0, [.long a, .long b]))] := hD
      refine lv_iload_n hx hb dX1_around_39 rfl (lv_at hl 1 rfl) ?_
      refine lv_ldc (v := 2147483647) hx hb hown (hts (.constant RX1 47 2147483647) (by decide +kernel)) dX1_around_40 ?_
      refine lv_icmp_ge (tgt := 52) hx hb dX1_around_42 (by decide) (fun c42 => ?_) (fun c42 => ?_)
      · skip
        refine lv_aload_n hx hb dX1_around_52 rfl (lv_at hl 0 rfl) ?_
        refine va_get (D := D) (ci := 1) (v := .int (nI n2)) (C := RX1) (T := TX1) (N := 6) hx hb hts hiX1 hown hK hP 0 rfl rfl 1 (by decide) (hts (.fieldLink RX1 22 "RangeRules" "thresholdCount" "I") (by decide +kernel)) (fun _ h9 => h9) rfl dX1_around_53 ?_
        have ee : rr_ar f n v = (f2, n2) := by
          unfold rr_ar
          rw [rr_e2 c24, g1]
          dsimp only
          rw [rr_e3, g2]
          dsimp only
          rw [rr_e4 c42]
        exact W.iret (v := nI n2) hx hb hr (fun tt ht hW => ⟨⟨_, (), rfl, by rw [if_neg h7, ee], by dsimp only; rw [ht, if_neg h7, if_neg h7, if_neg h7, ee]; exact hP⟩, hS.F ht⟩) hS.2.2 dX1_around_56
      · skip
        refine lv_aload_n hx hb dX1_around_45 rfl (lv_at hl 0 rfl) ?_
        refine lv_iload_n hx hb dX1_around_46 rfl (lv_at hl 1 rfl) ?_
        refine lv_iconst (v := 1) hx hb dX1_around_47 (by decide) ?_
        refine lv_iadd hx hb dX1_around_48 ?_
        refine rr_wv (wr := []) [0, 1, 2] [] (va_runV (As := [.int (v + 1)]) (rest := []) ⟨hx, hb, hml, hown, hts⟩ (c_X1_addThreshold l D h0 qT qS H.size cA f2 n2 (t + 1) lo hi a b (v + 1) (by omega) hk2) (cwV 1 hts gX1_around_X1_addThreshold rfl rfl rfl (by decide +kernel) ⟨Nat.le_of_ble_eq_true rfl, Nat.le_of_ble_eq_true rfl⟩) (rr_vW hK hP hD (va_recv hK hP (ci := 1) (q0 := 0) rfl rfl)) rfl rfl hl.1 rfl (lv_room (Nat.le_of_ble_eq_true rfl)) dX1_around_49 ⟨Nat.le_of_ble_eq_true rfl, Nat.le_of_ble_eq_true rfl⟩) hS hA hP hD rfl rfl (by decide) (by decide) (by decide) (fun _ => by simp only [rr_wx, rr_wm, List.map_cons, List.map_nil]) (fun u49 H locs e49 hP hD hS => ?_)
        have hP : va_P D vwCl [(h0, .inr (1, [.ref qT, .int (nI (rr_ad f2 n2 (v + 1)).2), .int (nI (t + 1)), .int lo, .int hi, .ref qS])), (qT, .inl (cA, 187, .inl ((rr_ad f2 n2 (v + 1)).1))), (qS, .inr (0, [.long a, .long b]))] H := hP
        have hD : va_D A [(h0, .inr (1, [.ref qT, .int (nI (rr_ad f2 n2 (v + 1)).2), .int (nI (t + 1)), .int lo, .int hi, .ref qS])), (qT, .inl (cA, 187, .inl ((rr_ad f2 n2 (v + 1)).1))), (qS, .inr (0, [.long a, .long b]))] := hD
        obtain ⟨f3, n3, g3⟩ : ∃ (fz : Nat → Int32) (nz : Nat), rr_ad f2 n2 (v + 1) = (fz, nz) := ⟨_, _, rfl⟩
        rw [g3] at hP hD
        obtain ⟨hk3, hq3, hr3⟩ := rr_ad_of hk2 g3
        have hP : va_P D vwCl [(h0, .inr (1, [.ref qT, .int (nI n3), .int (nI (t + 1)), .int lo, .int hi, .ref qS])), (qT, .inl (cA, 187, .inl f3)), (qS, .inr (0, [.long a, .long b]))] H := hP
        have hD : va_D A [(h0, .inr (1, [.ref qT, .int (nI n3), .int (nI (t + 1)), .int lo, .int hi, .ref qS])), (qT, .inl (cA, 187, .inl f3)), (qS, .inr (0, [.long a, .long b]))] := hD
        refine lv_aload_n hx hb dX1_around_52 rfl (lv_at hl 0 rfl) ?_
        refine va_get (D := D) (ci := 1) (v := .int (nI n3)) (C := RX1) (T := TX1) (N := 6) hx hb hts hiX1 hown hK hP 0 rfl rfl 1 (by decide) (hts (.fieldLink RX1 22 "RangeRules" "thresholdCount" "I") (by decide +kernel)) (fun _ h9 => h9) rfl dX1_around_53 ?_
        have ee : rr_ar f n v = (f3, n3) := by
          unfold rr_ar
          rw [rr_e2 c24, g1]
          dsimp only
          rw [rr_e3, g2]
          dsimp only
          rw [rr_e5 c42, g3]
        exact W.iret (v := nI n3) hx hb hr (fun tt ht hW => ⟨⟨_, (), rfl, by rw [if_neg h7, ee], by dsimp only; rw [ht, if_neg h7, if_neg h7, if_neg h7, ee]; exact hP⟩, hS.F ht⟩) hS.2.2 dX1_around_56
  · skip
    have h7 : t = 60 := by rcases Nat.lt_or_ge t 60 with q | q; exact absurd (nI_lt (a := t) (b := 60) q (by decide)) c6; omega
    refine lv_iconst (v := (-1)) hx hb dX1_around_9 (by decide) ?_
    exact W.iret (v := -1) hx hb hr (fun tt ht hW => ⟨⟨_, (), rfl, by rw [if_pos h7], by dsimp only; rw [ht, if_pos h7, if_pos h7, if_pos h7]; exact hP⟩, hS.F ht⟩) hS.2.2 dX1_around_10
end
section
set_option maxHeartbeats 1000000 in
set_option maxRecDepth 100000 in
/-- takeQuotients(x, y, d) -/
theorem c_X1_takeQuotients (l : Launch) (D : va_G) (h0 qT qS sz : Nat) (cA : ClassId) (f : Nat → Int32) (n t : Nat) (lo hi : Int32) (a b : Int64) (x y d : Int64)  : Met l yX1_takeQuotients wsX1_takeQuotients ({ frames := 2, cells := 0, slots := 0, locals := 42 }) (rr_pN D (rr_wx h0 qT qS cA f n t lo hi a b) [(cA, .int)] [.ref h0, .long x, .long y, .long d] sz) (va_Qv (fun (_ : Unit) => True) (fun _ tt => va_P D vwCl (rr_wx h0 qT qS cA f n t lo hi (rr_qm (decide (¬ d = 0)) x y d (a, b)).1 (rr_qm (decide (¬ d = 0)) x y d (a, b)).2) tt.heap) (va_A (rr_wx h0 qT qS cA f n t lo hi a b) sz)) 0 0 (va_A (rr_wx h0 qT qS cA f n t lo hi a b) sz) := by
  refine Met.ofW (cc := cX1_takeQuotients) (maxL := 7) (ret := none) (by decide) rfl ?_
  intro p e s m args below meth c s₁ B hml hv
  obtain ⟨rfl, hsz, hP, hK, hD0, hN⟩ := hv
  have hx := B.exec
  have hb := B.bytes
  have hr := B.returns
  have hts := atoms_spec (ws := wsX1_takeQuotients) B.pre
  have hown : s.vm.findClass RX1 = some m.cls := findClass_of_methodNamed B.named
  have hlocks := B.notSynchronized
  subst hsz
  have hD := hD0.self (sz := s.heap.size)
  generalize hAe : va_A [(h0, .inr (1, [.ref qT, .int (nI n), .int (nI t), .int lo, .int hi, .ref qS])), (qT, .inl (cA, 187, .inl f)), (qS, .inr (0, [.long a, .long b]))] s.heap.size = A at hD ⊢
  have hA : ∀ q : Nat, s.heap.size ≤ q → A q := fun q h => by rw [← hAe]; exact Or.inr h
  have hS : va_S A s.heap s.heap [] := va_S.rf
  have hP : va_P D vwCl [(h0, .inr (1, [.ref qT, .int (nI n), .int (nI t), .int lo, .int hi, .ref qS])), (qT, .inl (cA, 187, .inl f)), (qS, .inr (0, [.long a, .long b]))] s.heap := hP
  have hiX1 : ∀ w ∈ wsX10, w ∈ wsX1_takeQuotients := by decide +kernel
  have hl := lv_entry ([.ref h0, .long x, .long y, .long d]) (n := 7) (Nat.le_of_ble_eq_true rfl)
  rw [lg_entry_eq]
  generalize (lg_sl ([.ref h0, .long x, .long y, .long d]) ++ List.replicate (7 - (lg_sl ([.ref h0, .long x, .long y, .long d])).length) Slot.unset).toArray = ls at hl ⊢
  have hl : lv_has ls 7 [(0, .ref h0), (1, .long x), (3, .long y), (5, .long d)] := hl
  have hiX0 : ∀ w ∈ wsX00, w ∈ wsX1_takeQuotients := by decide +kernel
  refine lv_lload hx hb dX1_takeQuotients_0 (lv_at hl 3 rfl) ?_
  refine lv_lconst (v := 0) hx hb dX1_takeQuotients_2 (by decide) ?_
  refine W.lcmp hx hb dX1_takeQuotients_3 ?_
  refine lv_if_eq (tgt := 29) hx hb dX1_takeQuotients_4 (by decide) (fun c4 => ?_) (fun c4 => ?_)
  · skip
    have ee : (rr_qm (decide (¬ d = 0)) x y d (a, b)) = (a, b) := rr_qm_f ((lg_cmp_eq _ _).mp c4)
    exact W.vret hx hb hr (fun tt ht hW => ⟨⟨(), rfl, trivial, by dsimp only; rw [ht, ee]; exact hP⟩, hS.F ht⟩) hS.2.2 dX1_takeQuotients_29
  · skip
    refine lv_aload_n hx hb dX1_takeQuotients_7 rfl (lv_at hl 0 rfl) ?_
    refine va_get (D := D) (ci := 1) (v := .ref qS) (C := RX1) (T := TX1) (N := 6) hx hb hts hiX1 hown hK hP 0 rfl rfl 5 (by decide) (hts (.fieldLink RX1 38 "RangeRules" "span" "LRangeRules$Span;") (by decide +kernel)) (fun _ h9 => h9) rfl dX1_takeQuotients_8 ?_
    refine lv_lload_n hx hb dX1_takeQuotients_11 rfl (lv_at hl 1 rfl) ?_
    refine lv_lload hx hb dX1_takeQuotients_12 (lv_at hl 3 rfl) ?_
    refine lv_ldiv hx hb dX1_takeQuotients_14 (fun z => c4 ((lg_cmp_eq _ _).mpr z)) ?_
    have hPc := hP.sub (ws' := [(qS, .inr (0, [.long a, .long b]))]) [2] rfl
    have hDc := hD.sub (ws' := [(qS, .inr (0, [.long a, .long b]))]) [2] (by decide) rfl
    have hKc := hK.sub (tys' := []) [] rfl
    refine rr_wv (wr := [(h0, .inr (1, [.ref qT, .int (nI n), .int (nI t), .int lo, .int hi, .ref qS])), (qT, .inl (cA, 187, .inl f))]) [2] [0, 1] (va_runVN (As := [.long (x / d)]) (rest := []) ⟨hx, hb, hml, hown, hts⟩ (c_X0_take l D qS s.heap.size a b (x / d)) ⟨va_cnB 1 hts gX1_takeQuotients_X0_take_n104 rfl rfl rfl hN.2.1 (hts (.initialized RX0) (by decide +kernel)) (by decide +kernel) ⟨Nat.le_of_ble_eq_true rfl, Nat.le_of_ble_eq_true rfl⟩, hts (.instanceMethod yX0_take) (by decide +kernel), hts (.selects RX0 yX0_take yX0_take) (by decide +kernel)⟩ (rr_vW hKc hPc hDc (va_recv hKc hPc (ci := 0) (q0 := 0) rfl rfl)) rfl rfl hl.1 rfl (lv_room (Nat.le_of_ble_eq_true rfl)) dX1_takeQuotients_15 ⟨Nat.le_of_ble_eq_true rfl, Nat.le_of_ble_eq_true rfl⟩) hS hA hP hD rfl rfl (by decide) (by decide) (by decide) (fun _ => by simp only [rr_wx, rr_wm, List.map_cons, List.map_nil]) (fun _ H locs _ hP hD hS => ?_)
    have hP : va_P D vwCl [(h0, .inr (1, [.ref qT, .int (nI n), .int (nI t), .int lo, .int hi, .ref qS])), (qT, .inl (cA, 187, .inl f)), (qS, .inr (0, [.long (rr_mn a (x / d)), .long (rr_mx b (x / d))]))] H := hP
    have hD : va_D A [(h0, .inr (1, [.ref qT, .int (nI n), .int (nI t), .int lo, .int hi, .ref qS])), (qT, .inl (cA, 187, .inl f)), (qS, .inr (0, [.long (rr_mn a (x / d)), .long (rr_mx b (x / d))]))] := hD
    obtain ⟨a1, ha1⟩ : ∃ z, z = rr_mn a (x / d) := ⟨_, rfl⟩
    obtain ⟨b1, hb1⟩ : ∃ z, z = rr_mx b (x / d) := ⟨_, rfl⟩
    rw [← ha1, ← hb1] at hP hD
    have hP : va_P D vwCl [(h0, .inr (1, [.ref qT, .int (nI n), .int (nI t), .int lo, .int hi, .ref qS])), (qT, .inl (cA, 187, .inl f)), (qS, .inr (0, [.long a1, .long b1]))] H := hP
    have hD : va_D A [(h0, .inr (1, [.ref qT, .int (nI n), .int (nI t), .int lo, .int hi, .ref qS])), (qT, .inl (cA, 187, .inl f)), (qS, .inr (0, [.long a1, .long b1]))] := hD
    refine lv_aload_n hx hb dX1_takeQuotients_18 rfl (lv_at hl 0 rfl) ?_
    refine va_get (D := D) (ci := 1) (v := .ref qS) (C := RX1) (T := TX1) (N := 6) hx hb hts hiX1 hown hK hP 0 rfl rfl 5 (by decide) (hts (.fieldLink RX1 38 "RangeRules" "span" "LRangeRules$Span;") (by decide +kernel)) (fun _ h9 => h9) rfl dX1_takeQuotients_19 ?_
    refine lv_lload_n hx hb dX1_takeQuotients_22 rfl (lv_at hl 2 rfl) ?_
    refine lv_lload hx hb dX1_takeQuotients_23 (lv_at hl 3 rfl) ?_
    refine lv_ldiv hx hb dX1_takeQuotients_25 (fun z => c4 ((lg_cmp_eq _ _).mpr z)) ?_
    have hPc := hP.sub (ws' := [(qS, .inr (0, [.long a1, .long b1]))]) [2] rfl
    have hDc := hD.sub (ws' := [(qS, .inr (0, [.long a1, .long b1]))]) [2] (by decide) rfl
    have hKc := hK.sub (tys' := []) [] rfl
    refine rr_wv (wr := [(h0, .inr (1, [.ref qT, .int (nI n), .int (nI t), .int lo, .int hi, .ref qS])), (qT, .inl (cA, 187, .inl f))]) [2] [0, 1] (va_runVN (As := [.long (y / d)]) (rest := []) ⟨hx, hb, hml, hown, hts⟩ (c_X0_take l D qS H.size a1 b1 (y / d)) ⟨va_cnB 1 hts gX1_takeQuotients_X0_take_n104 rfl rfl rfl hN.2.1 (hts (.initialized RX0) (by decide +kernel)) (by decide +kernel) ⟨Nat.le_of_ble_eq_true rfl, Nat.le_of_ble_eq_true rfl⟩, hts (.instanceMethod yX0_take) (by decide +kernel), hts (.selects RX0 yX0_take yX0_take) (by decide +kernel)⟩ (rr_vW hKc hPc hDc (va_recv hKc hPc (ci := 0) (q0 := 0) rfl rfl)) rfl rfl hl.1 rfl (lv_room (Nat.le_of_ble_eq_true rfl)) dX1_takeQuotients_26 ⟨Nat.le_of_ble_eq_true rfl, Nat.le_of_ble_eq_true rfl⟩) hS hA hP hD rfl rfl (by decide) (by decide) (by decide) (fun _ => by simp only [rr_wx, rr_wm, List.map_cons, List.map_nil]) (fun _ H locs _ hP hD hS => ?_)
    have hP : va_P D vwCl [(h0, .inr (1, [.ref qT, .int (nI n), .int (nI t), .int lo, .int hi, .ref qS])), (qT, .inl (cA, 187, .inl f)), (qS, .inr (0, [.long (rr_mn a1 (y / d)), .long (rr_mx b1 (y / d))]))] H := hP
    have hD : va_D A [(h0, .inr (1, [.ref qT, .int (nI n), .int (nI t), .int lo, .int hi, .ref qS])), (qT, .inl (cA, 187, .inl f)), (qS, .inr (0, [.long (rr_mn a1 (y / d)), .long (rr_mx b1 (y / d))]))] := hD
    obtain ⟨a2, ha2⟩ : ∃ z, z = rr_mn a1 (y / d) := ⟨_, rfl⟩
    obtain ⟨b2, hb2⟩ : ∃ z, z = rr_mx b1 (y / d) := ⟨_, rfl⟩
    rw [← ha2, ← hb2] at hP hD
    have hP : va_P D vwCl [(h0, .inr (1, [.ref qT, .int (nI n), .int (nI t), .int lo, .int hi, .ref qS])), (qT, .inl (cA, 187, .inl f)), (qS, .inr (0, [.long a2, .long b2]))] H := hP
    have hD : va_D A [(h0, .inr (1, [.ref qT, .int (nI n), .int (nI t), .int lo, .int hi, .ref qS])), (qT, .inl (cA, 187, .inl f)), (qS, .inr (0, [.long a2, .long b2]))] := hD
    have ee : (rr_qm (decide (¬ d = 0)) x y d (a, b)) = (a2, b2) := by rw [ha2, hb2, ha1, hb1]; exact rr_qm_t (fun z => c4 ((lg_cmp_eq _ _).mpr z))
    exact W.vret hx hb hr (fun tt ht hW => ⟨⟨(), rfl, trivial, by dsimp only; rw [ht, ee]; exact hP⟩, hS.F ht⟩) hS.2.2 dX1_takeQuotients_29
set_option maxHeartbeats 1000000 in
set_option maxRecDepth 100000 in
/-- multiply(x, y, z, w) -/
theorem c_X1_multiply (l : Launch) (D : va_G) (h0 qT qS sz : Nat) (cA : ClassId) (f : Nat → Int32) (n t : Nat) (lo hi : Int32) (a b : Int64) (x1 x2 x3 x4 : Int64) (hn : n ≤ 187) : Met l yX1_multiply wsX1_multiply ({ frames := 2, cells := 0, slots := 0, locals := 54 }) (rr_pN D (rr_wx h0 qT qS cA f n t lo hi a b) [(cA, .int)] [.ref h0, .long x1, .long x2, .long x3, .long x4] sz) (va_Qv (fun (u : Int64 × Int64) => True) (fun u tt => va_P D vwCl (rr_wx h0 qT qS cA f n t (rr_tl f n (rr_o2 x1 x2 x3 x4).1 (rr_o2 x1 x2 x3 x4).2).1 (rr_tl f n (rr_o2 x1 x2 x3 x4).1 (rr_o2 x1 x2 x3 x4).2).2 u.1 u.2) tt.heap) (va_A (rr_wx h0 qT qS cA f n t lo hi a b) sz)) 0 0 (va_A (rr_wx h0 qT qS cA f n t lo hi a b) sz) := by
  refine Met.ofW (cc := cX1_multiply) (maxL := 9) (ret := none) (by decide) rfl ?_
  intro p e s m args below meth c s₁ B hml hv
  obtain ⟨rfl, hsz, hP, hK, hD0, hN⟩ := hv
  have hx := B.exec
  have hb := B.bytes
  have hr := B.returns
  have hts := atoms_spec (ws := wsX1_multiply) B.pre
  have hown : s.vm.findClass RX1 = some m.cls := findClass_of_methodNamed B.named
  have hlocks := B.notSynchronized
  subst hsz
  have hD := hD0.self (sz := s.heap.size)
  generalize hAe : va_A [(h0, .inr (1, [.ref qT, .int (nI n), .int (nI t), .int lo, .int hi, .ref qS])), (qT, .inl (cA, 187, .inl f)), (qS, .inr (0, [.long a, .long b]))] s.heap.size = A at hD ⊢
  have hA : ∀ q : Nat, s.heap.size ≤ q → A q := fun q h => by rw [← hAe]; exact Or.inr h
  have hS : va_S A s.heap s.heap [] := va_S.rf
  have hP : va_P D vwCl [(h0, .inr (1, [.ref qT, .int (nI n), .int (nI t), .int lo, .int hi, .ref qS])), (qT, .inl (cA, 187, .inl f)), (qS, .inr (0, [.long a, .long b]))] s.heap := hP
  have hiX1 : ∀ w ∈ wsX10, w ∈ wsX1_multiply := by decide +kernel
  have hl := lv_entry ([.ref h0, .long x1, .long x2, .long x3, .long x4]) (n := 9) (Nat.le_of_ble_eq_true rfl)
  rw [lg_entry_eq]
  generalize (lg_sl ([.ref h0, .long x1, .long x2, .long x3, .long x4]) ++ List.replicate (9 - (lg_sl ([.ref h0, .long x1, .long x2, .long x3, .long x4])).length) Slot.unset).toArray = ls at hl ⊢
  have hl : lv_has ls 9 [(0, .ref h0), (1, .long x1), (3, .long x2), (5, .long x3), (7, .long x4)] := hl
  have hiX0 : ∀ w ∈ wsX00, w ∈ wsX1_multiply := by decide +kernel
  refine lv_aload_n hx hb dX1_multiply_0 rfl (lv_at hl 0 rfl) ?_
  refine va_get (D := D) (ci := 1) (v := .ref qS) (C := RX1) (T := TX1) (N := 6) hx hb hts hiX1 hown hK hP 0 rfl rfl 5 (by decide) (hts (.fieldLink RX1 38 "RangeRules" "span" "LRangeRules$Span;") (by decide +kernel)) (fun _ h9 => h9) rfl dX1_multiply_1 ?_
  have hPc := hP.sub (ws' := [(qS, .inr (0, [.long a, .long b]))]) [2] rfl
  have hDc := hD.sub (ws' := [(qS, .inr (0, [.long a, .long b]))]) [2] (by decide) rfl
  have hKc := hK.sub (tys' := []) [] rfl
  refine rr_wv (wr := [(h0, .inr (1, [.ref qT, .int (nI n), .int (nI t), .int lo, .int hi, .ref qS])), (qT, .inl (cA, 187, .inl f))]) [2] [0, 1] (va_runVN (As := []) (rest := []) ⟨hx, hb, hml, hown, hts⟩ (c_X0_empty l D qS s.heap.size a b) ⟨va_cnB 0 hts gX1_multiply_X0_empty_n101 rfl rfl rfl hN.1 (hts (.initialized RX0) (by decide +kernel)) (by decide +kernel) ⟨Nat.le_of_ble_eq_true rfl, Nat.le_of_ble_eq_true rfl⟩, hts (.instanceMethod yX0_empty) (by decide +kernel), hts (.selects RX0 yX0_empty yX0_empty) (by decide +kernel)⟩ (rr_vW hKc hPc hDc (va_recv hKc hPc (ci := 0) (q0 := 0) rfl rfl)) rfl rfl hl.1 rfl (lv_room (Nat.le_of_ble_eq_true rfl)) dX1_multiply_4 ⟨Nat.le_of_ble_eq_true rfl, Nat.le_of_ble_eq_true rfl⟩) hS hA hP hD rfl rfl (by decide) (by decide) (by decide) (fun _ => by simp only [rr_wx, rr_wm, List.map_cons, List.map_nil]) (fun _ H locs _ hP hD hS => ?_)
  have hP : va_P D vwCl [(h0, .inr (1, [.ref qT, .int (nI n), .int (nI t), .int lo, .int hi, .ref qS])), (qT, .inl (cA, 187, .inl f)), (qS, .inr (0, [.long 9223372036854775807, .long ((-9223372036854775808))]))] H := hP
  have hD : va_D A [(h0, .inr (1, [.ref qT, .int (nI n), .int (nI t), .int lo, .int hi, .ref qS])), (qT, .inl (cA, 187, .inl f)), (qS, .inr (0, [.long 9223372036854775807, .long ((-9223372036854775808))]))] := hD
  refine lv_aload_n hx hb dX1_multiply_7 rfl (lv_at hl 0 rfl) ?_
  refine va_get (D := D) (ci := 1) (v := .ref qS) (C := RX1) (T := TX1) (N := 6) hx hb hts hiX1 hown hK hP 0 rfl rfl 5 (by decide) (hts (.fieldLink RX1 38 "RangeRules" "span" "LRangeRules$Span;") (by decide +kernel)) (fun _ h9 => h9) rfl dX1_multiply_8 ?_
  refine lv_lload_n hx hb dX1_multiply_11 rfl (lv_at hl 1 rfl) ?_
  refine lv_lload hx hb dX1_multiply_12 (lv_at hl 3 rfl) ?_
  refine lv_lmul hx hb dX1_multiply_14 ?_
  have hPc := hP.sub (ws' := [(qS, .inr (0, [.long 9223372036854775807, .long ((-9223372036854775808))]))]) [2] rfl
  have hDc := hD.sub (ws' := [(qS, .inr (0, [.long 9223372036854775807, .long ((-9223372036854775808))]))]) [2] (by decide) rfl
  have hKc := hK.sub (tys' := []) [] rfl
  refine rr_wv (wr := [(h0, .inr (1, [.ref qT, .int (nI n), .int (nI t), .int lo, .int hi, .ref qS])), (qT, .inl (cA, 187, .inl f))]) [2] [0, 1] (va_runVN (As := [.long (x1 * x3)]) (rest := []) ⟨hx, hb, hml, hown, hts⟩ (c_X0_take l D qS H.size 9223372036854775807 (-9223372036854775808) (x1 * x3)) ⟨va_cnB 1 hts gX1_multiply_X0_take_n104 rfl rfl rfl hN.2.1 (hts (.initialized RX0) (by decide +kernel)) (by decide +kernel) ⟨Nat.le_of_ble_eq_true rfl, Nat.le_of_ble_eq_true rfl⟩, hts (.instanceMethod yX0_take) (by decide +kernel), hts (.selects RX0 yX0_take yX0_take) (by decide +kernel)⟩ (rr_vW hKc hPc hDc (va_recv hKc hPc (ci := 0) (q0 := 0) rfl rfl)) rfl rfl hl.1 rfl (lv_room (Nat.le_of_ble_eq_true rfl)) dX1_multiply_15 ⟨Nat.le_of_ble_eq_true rfl, Nat.le_of_ble_eq_true rfl⟩) hS hA hP hD rfl rfl (by decide) (by decide) (by decide) (fun _ => by simp only [rr_wx, rr_wm, List.map_cons, List.map_nil]) (fun _ H locs _ hP hD hS => ?_)
  have hP : va_P D vwCl [(h0, .inr (1, [.ref qT, .int (nI n), .int (nI t), .int lo, .int hi, .ref qS])), (qT, .inl (cA, 187, .inl f)), (qS, .inr (0, [.long (rr_mn 9223372036854775807 (x1 * x3)), .long (rr_mx (-9223372036854775808) (x1 * x3))]))] H := hP
  have hD : va_D A [(h0, .inr (1, [.ref qT, .int (nI n), .int (nI t), .int lo, .int hi, .ref qS])), (qT, .inl (cA, 187, .inl f)), (qS, .inr (0, [.long (rr_mn 9223372036854775807 (x1 * x3)), .long (rr_mx (-9223372036854775808) (x1 * x3))]))] := hD
  obtain ⟨a1, ha1⟩ : ∃ z, z = rr_mn 9223372036854775807 (x1 * x3) := ⟨_, rfl⟩
  obtain ⟨b1, hb1⟩ : ∃ z, z = rr_mx (-9223372036854775808) (x1 * x3) := ⟨_, rfl⟩
  rw [← ha1, ← hb1] at hP hD
  have hP : va_P D vwCl [(h0, .inr (1, [.ref qT, .int (nI n), .int (nI t), .int lo, .int hi, .ref qS])), (qT, .inl (cA, 187, .inl f)), (qS, .inr (0, [.long a1, .long b1]))] H := hP
  have hD : va_D A [(h0, .inr (1, [.ref qT, .int (nI n), .int (nI t), .int lo, .int hi, .ref qS])), (qT, .inl (cA, 187, .inl f)), (qS, .inr (0, [.long a1, .long b1]))] := hD
  refine lv_aload_n hx hb dX1_multiply_18 rfl (lv_at hl 0 rfl) ?_
  refine va_get (D := D) (ci := 1) (v := .ref qS) (C := RX1) (T := TX1) (N := 6) hx hb hts hiX1 hown hK hP 0 rfl rfl 5 (by decide) (hts (.fieldLink RX1 38 "RangeRules" "span" "LRangeRules$Span;") (by decide +kernel)) (fun _ h9 => h9) rfl dX1_multiply_19 ?_
  refine lv_lload_n hx hb dX1_multiply_22 rfl (lv_at hl 1 rfl) ?_
  refine lv_lload hx hb dX1_multiply_23 (lv_at hl 4 rfl) ?_
  refine lv_lmul hx hb dX1_multiply_25 ?_
  have hPc := hP.sub (ws' := [(qS, .inr (0, [.long a1, .long b1]))]) [2] rfl
  have hDc := hD.sub (ws' := [(qS, .inr (0, [.long a1, .long b1]))]) [2] (by decide) rfl
  have hKc := hK.sub (tys' := []) [] rfl
  refine rr_wv (wr := [(h0, .inr (1, [.ref qT, .int (nI n), .int (nI t), .int lo, .int hi, .ref qS])), (qT, .inl (cA, 187, .inl f))]) [2] [0, 1] (va_runVN (As := [.long (x1 * x4)]) (rest := []) ⟨hx, hb, hml, hown, hts⟩ (c_X0_take l D qS H.size a1 b1 (x1 * x4)) ⟨va_cnB 1 hts gX1_multiply_X0_take_n104 rfl rfl rfl hN.2.1 (hts (.initialized RX0) (by decide +kernel)) (by decide +kernel) ⟨Nat.le_of_ble_eq_true rfl, Nat.le_of_ble_eq_true rfl⟩, hts (.instanceMethod yX0_take) (by decide +kernel), hts (.selects RX0 yX0_take yX0_take) (by decide +kernel)⟩ (rr_vW hKc hPc hDc (va_recv hKc hPc (ci := 0) (q0 := 0) rfl rfl)) rfl rfl hl.1 rfl (lv_room (Nat.le_of_ble_eq_true rfl)) dX1_multiply_26 ⟨Nat.le_of_ble_eq_true rfl, Nat.le_of_ble_eq_true rfl⟩) hS hA hP hD rfl rfl (by decide) (by decide) (by decide) (fun _ => by simp only [rr_wx, rr_wm, List.map_cons, List.map_nil]) (fun _ H locs _ hP hD hS => ?_)
  have hP : va_P D vwCl [(h0, .inr (1, [.ref qT, .int (nI n), .int (nI t), .int lo, .int hi, .ref qS])), (qT, .inl (cA, 187, .inl f)), (qS, .inr (0, [.long (rr_mn a1 (x1 * x4)), .long (rr_mx b1 (x1 * x4))]))] H := hP
  have hD : va_D A [(h0, .inr (1, [.ref qT, .int (nI n), .int (nI t), .int lo, .int hi, .ref qS])), (qT, .inl (cA, 187, .inl f)), (qS, .inr (0, [.long (rr_mn a1 (x1 * x4)), .long (rr_mx b1 (x1 * x4))]))] := hD
  obtain ⟨a2, ha2⟩ : ∃ z, z = rr_mn a1 (x1 * x4) := ⟨_, rfl⟩
  obtain ⟨b2, hb2⟩ : ∃ z, z = rr_mx b1 (x1 * x4) := ⟨_, rfl⟩
  rw [← ha2, ← hb2] at hP hD
  have hP : va_P D vwCl [(h0, .inr (1, [.ref qT, .int (nI n), .int (nI t), .int lo, .int hi, .ref qS])), (qT, .inl (cA, 187, .inl f)), (qS, .inr (0, [.long a2, .long b2]))] H := hP
  have hD : va_D A [(h0, .inr (1, [.ref qT, .int (nI n), .int (nI t), .int lo, .int hi, .ref qS])), (qT, .inl (cA, 187, .inl f)), (qS, .inr (0, [.long a2, .long b2]))] := hD
  refine lv_aload_n hx hb dX1_multiply_29 rfl (lv_at hl 0 rfl) ?_
  refine va_get (D := D) (ci := 1) (v := .ref qS) (C := RX1) (T := TX1) (N := 6) hx hb hts hiX1 hown hK hP 0 rfl rfl 5 (by decide) (hts (.fieldLink RX1 38 "RangeRules" "span" "LRangeRules$Span;") (by decide +kernel)) (fun _ h9 => h9) rfl dX1_multiply_30 ?_
  refine lv_lload_n hx hb dX1_multiply_33 rfl (lv_at hl 2 rfl) ?_
  refine lv_lload hx hb dX1_multiply_34 (lv_at hl 3 rfl) ?_
  refine lv_lmul hx hb dX1_multiply_36 ?_
  have hPc := hP.sub (ws' := [(qS, .inr (0, [.long a2, .long b2]))]) [2] rfl
  have hDc := hD.sub (ws' := [(qS, .inr (0, [.long a2, .long b2]))]) [2] (by decide) rfl
  have hKc := hK.sub (tys' := []) [] rfl
  refine rr_wv (wr := [(h0, .inr (1, [.ref qT, .int (nI n), .int (nI t), .int lo, .int hi, .ref qS])), (qT, .inl (cA, 187, .inl f))]) [2] [0, 1] (va_runVN (As := [.long (x2 * x3)]) (rest := []) ⟨hx, hb, hml, hown, hts⟩ (c_X0_take l D qS H.size a2 b2 (x2 * x3)) ⟨va_cnB 1 hts gX1_multiply_X0_take_n104 rfl rfl rfl hN.2.1 (hts (.initialized RX0) (by decide +kernel)) (by decide +kernel) ⟨Nat.le_of_ble_eq_true rfl, Nat.le_of_ble_eq_true rfl⟩, hts (.instanceMethod yX0_take) (by decide +kernel), hts (.selects RX0 yX0_take yX0_take) (by decide +kernel)⟩ (rr_vW hKc hPc hDc (va_recv hKc hPc (ci := 0) (q0 := 0) rfl rfl)) rfl rfl hl.1 rfl (lv_room (Nat.le_of_ble_eq_true rfl)) dX1_multiply_37 ⟨Nat.le_of_ble_eq_true rfl, Nat.le_of_ble_eq_true rfl⟩) hS hA hP hD rfl rfl (by decide) (by decide) (by decide) (fun _ => by simp only [rr_wx, rr_wm, List.map_cons, List.map_nil]) (fun _ H locs _ hP hD hS => ?_)
  have hP : va_P D vwCl [(h0, .inr (1, [.ref qT, .int (nI n), .int (nI t), .int lo, .int hi, .ref qS])), (qT, .inl (cA, 187, .inl f)), (qS, .inr (0, [.long (rr_mn a2 (x2 * x3)), .long (rr_mx b2 (x2 * x3))]))] H := hP
  have hD : va_D A [(h0, .inr (1, [.ref qT, .int (nI n), .int (nI t), .int lo, .int hi, .ref qS])), (qT, .inl (cA, 187, .inl f)), (qS, .inr (0, [.long (rr_mn a2 (x2 * x3)), .long (rr_mx b2 (x2 * x3))]))] := hD
  obtain ⟨a3, ha3⟩ : ∃ z, z = rr_mn a2 (x2 * x3) := ⟨_, rfl⟩
  obtain ⟨b3, hb3⟩ : ∃ z, z = rr_mx b2 (x2 * x3) := ⟨_, rfl⟩
  rw [← ha3, ← hb3] at hP hD
  have hP : va_P D vwCl [(h0, .inr (1, [.ref qT, .int (nI n), .int (nI t), .int lo, .int hi, .ref qS])), (qT, .inl (cA, 187, .inl f)), (qS, .inr (0, [.long a3, .long b3]))] H := hP
  have hD : va_D A [(h0, .inr (1, [.ref qT, .int (nI n), .int (nI t), .int lo, .int hi, .ref qS])), (qT, .inl (cA, 187, .inl f)), (qS, .inr (0, [.long a3, .long b3]))] := hD
  refine lv_aload_n hx hb dX1_multiply_40 rfl (lv_at hl 0 rfl) ?_
  refine va_get (D := D) (ci := 1) (v := .ref qS) (C := RX1) (T := TX1) (N := 6) hx hb hts hiX1 hown hK hP 0 rfl rfl 5 (by decide) (hts (.fieldLink RX1 38 "RangeRules" "span" "LRangeRules$Span;") (by decide +kernel)) (fun _ h9 => h9) rfl dX1_multiply_41 ?_
  refine lv_lload_n hx hb dX1_multiply_44 rfl (lv_at hl 2 rfl) ?_
  refine lv_lload hx hb dX1_multiply_45 (lv_at hl 4 rfl) ?_
  refine lv_lmul hx hb dX1_multiply_47 ?_
  have hPc := hP.sub (ws' := [(qS, .inr (0, [.long a3, .long b3]))]) [2] rfl
  have hDc := hD.sub (ws' := [(qS, .inr (0, [.long a3, .long b3]))]) [2] (by decide) rfl
  have hKc := hK.sub (tys' := []) [] rfl
  refine rr_wv (wr := [(h0, .inr (1, [.ref qT, .int (nI n), .int (nI t), .int lo, .int hi, .ref qS])), (qT, .inl (cA, 187, .inl f))]) [2] [0, 1] (va_runVN (As := [.long (x2 * x4)]) (rest := []) ⟨hx, hb, hml, hown, hts⟩ (c_X0_take l D qS H.size a3 b3 (x2 * x4)) ⟨va_cnB 1 hts gX1_multiply_X0_take_n104 rfl rfl rfl hN.2.1 (hts (.initialized RX0) (by decide +kernel)) (by decide +kernel) ⟨Nat.le_of_ble_eq_true rfl, Nat.le_of_ble_eq_true rfl⟩, hts (.instanceMethod yX0_take) (by decide +kernel), hts (.selects RX0 yX0_take yX0_take) (by decide +kernel)⟩ (rr_vW hKc hPc hDc (va_recv hKc hPc (ci := 0) (q0 := 0) rfl rfl)) rfl rfl hl.1 rfl (lv_room (Nat.le_of_ble_eq_true rfl)) dX1_multiply_48 ⟨Nat.le_of_ble_eq_true rfl, Nat.le_of_ble_eq_true rfl⟩) hS hA hP hD rfl rfl (by decide) (by decide) (by decide) (fun _ => by simp only [rr_wx, rr_wm, List.map_cons, List.map_nil]) (fun _ H locs _ hP hD hS => ?_)
  have hP : va_P D vwCl [(h0, .inr (1, [.ref qT, .int (nI n), .int (nI t), .int lo, .int hi, .ref qS])), (qT, .inl (cA, 187, .inl f)), (qS, .inr (0, [.long (rr_mn a3 (x2 * x4)), .long (rr_mx b3 (x2 * x4))]))] H := hP
  have hD : va_D A [(h0, .inr (1, [.ref qT, .int (nI n), .int (nI t), .int lo, .int hi, .ref qS])), (qT, .inl (cA, 187, .inl f)), (qS, .inr (0, [.long (rr_mn a3 (x2 * x4)), .long (rr_mx b3 (x2 * x4))]))] := hD
  obtain ⟨a4, ha4⟩ : ∃ z, z = rr_mn a3 (x2 * x4) := ⟨_, rfl⟩
  obtain ⟨b4, hb4⟩ : ∃ z, z = rr_mx b3 (x2 * x4) := ⟨_, rfl⟩
  rw [← ha4, ← hb4] at hP hD
  have hP : va_P D vwCl [(h0, .inr (1, [.ref qT, .int (nI n), .int (nI t), .int lo, .int hi, .ref qS])), (qT, .inl (cA, 187, .inl f)), (qS, .inr (0, [.long a4, .long b4]))] H := hP
  have hD : va_D A [(h0, .inr (1, [.ref qT, .int (nI n), .int (nI t), .int lo, .int hi, .ref qS])), (qT, .inl (cA, 187, .inl f)), (qS, .inr (0, [.long a4, .long b4]))] := hD
  refine lv_aload_n hx hb dX1_multiply_51 rfl (lv_at hl 0 rfl) ?_
  refine lv_aload_n hx hb dX1_multiply_52 rfl (lv_at hl 0 rfl) ?_
  refine va_get (D := D) (ci := 1) (v := .ref qS) (C := RX1) (T := TX1) (N := 6) hx hb hts hiX1 hown hK hP 0 rfl rfl 5 (by decide) (hts (.fieldLink RX1 38 "RangeRules" "span" "LRangeRules$Span;") (by decide +kernel)) (fun _ h9 => h9) rfl dX1_multiply_53 ?_
  refine va_getN (D := D) (ci := 0) (v := .long a4) (C := RX0) (T := TX0) (N := 2) hx hb hts hiX0 hown hK hP 2 rfl rfl 0 (by decide) (va_Nw.use rfl hN.2.2.1) (fun _ h9 => h9) rfl dX1_multiply_56 ?_
  refine lv_aload_n hx hb dX1_multiply_59 rfl (lv_at hl 0 rfl) ?_
  refine va_get (D := D) (ci := 1) (v := .ref qS) (C := RX1) (T := TX1) (N := 6) hx hb hts hiX1 hown hK hP 0 rfl rfl 5 (by decide) (hts (.fieldLink RX1 38 "RangeRules" "span" "LRangeRules$Span;") (by decide +kernel)) (fun _ h9 => h9) rfl dX1_multiply_60 ?_
  refine va_getN (D := D) (ci := 0) (v := .long b4) (C := RX0) (T := TX0) (N := 2) hx hb hts hiX0 hown hK hP 2 rfl rfl 1 (by decide) (va_Nw.use rfl hN.2.2.2) (fun _ h9 => h9) rfl dX1_multiply_63 ?_
  refine rr_wv (wr := []) [0, 1, 2] [] (va_runV (As := [.long a4, .long b4]) (rest := []) ⟨hx, hb, hml, hown, hts⟩ (c_X1_tell l D h0 qT qS H.size cA f n t lo hi a4 b4 a4 b4 hn) (cwV 2 hts gX1_multiply_X1_tell rfl rfl rfl (by decide +kernel) ⟨Nat.le_of_ble_eq_true rfl, Nat.le_of_ble_eq_true rfl⟩) (rr_vW hK hP hD (va_recv hK hP (ci := 1) (q0 := 0) rfl rfl)) rfl rfl hl.1 rfl (lv_room (Nat.le_of_ble_eq_true rfl)) dX1_multiply_66 ⟨Nat.le_of_ble_eq_true rfl, Nat.le_of_ble_eq_true rfl⟩) hS hA hP hD rfl rfl (by decide) (by decide) (by decide) (fun _ => by simp only [rr_wx, rr_wm, List.map_cons, List.map_nil]) (fun u66 H locs e66 hP hD hS => ?_)
  have hP : va_P D vwCl [(h0, .inr (1, [.ref qT, .int (nI n), .int (nI t), .int ((rr_tl f n a4 b4).1), .int ((rr_tl f n a4 b4).2), .ref qS])), (qT, .inl (cA, 187, .inl f)), (qS, .inr (0, [.long a4, .long b4]))] H := hP
  have hD : va_D A [(h0, .inr (1, [.ref qT, .int (nI n), .int (nI t), .int ((rr_tl f n a4 b4).1), .int ((rr_tl f n a4 b4).2), .ref qS])), (qT, .inl (cA, 187, .inl f)), (qS, .inr (0, [.long a4, .long b4]))] := hD
  have e1 : a4 = (rr_o2 x1 x2 x3 x4).1 := by rw [ha4, ha3, ha2, ha1]; exact rr_mn4 _ _ _ _
  have e2 : b4 = (rr_o2 x1 x2 x3 x4).2 := by rw [hb4, hb3, hb2, hb1]; exact rr_mx4 _ _ _ _
  rw [e1, e2] at hP
  exact W.vret hx hb hr (fun tt ht hW => ⟨⟨(_, _), rfl, trivial, by dsimp only; rw [ht]; exact hP⟩, hS.F ht⟩) hS.2.2 dX1_multiply_69
set_option maxHeartbeats 1000000 in
set_option maxRecDepth 100000 in
/-- divide(x, y, z, w) -/
theorem c_X1_divide (l : Launch) (D : va_G) (h0 qT qS sz : Nat) (cA : ClassId) (f : Nat → Int32) (n t : Nat) (lo hi : Int32) (a b : Int64) (x1 x2 x3 x4 : Int64) (hn : n ≤ 187) (hmn : x3 ≤ x4) : Met l yX1_divide wsX1_divide ({ frames := 3, cells := 0, slots := 0, locals := 68 }) (rr_pN D (rr_wx h0 qT qS cA f n t lo hi a b) [(cA, .int)] [.ref h0, .long x1, .long x2, .long x3, .long x4] sz) (va_Qv (fun (u : Int64 × Int64) => True) (fun u tt => va_P D vwCl (rr_wx h0 qT qS cA f n t (rr_tl f n (rr_qs x1 x2 x3 x4).1 (rr_qs x1 x2 x3 x4).2).1 (rr_tl f n (rr_qs x1 x2 x3 x4).1 (rr_qs x1 x2 x3 x4).2).2 u.1 u.2) tt.heap) (va_A (rr_wx h0 qT qS cA f n t lo hi a b) sz)) 0 0 (va_A (rr_wx h0 qT qS cA f n t lo hi a b) sz) := by
  refine Met.ofW (cc := cX1_divide) (maxL := 9) (ret := none) (by decide) rfl ?_
  intro p e s m args below meth c s₁ B hml hv
  obtain ⟨rfl, hsz, hP, hK, hD0, hN⟩ := hv
  have hx := B.exec
  have hb := B.bytes
  have hr := B.returns
  have hts := atoms_spec (ws := wsX1_divide) B.pre
  have hown : s.vm.findClass RX1 = some m.cls := findClass_of_methodNamed B.named
  have hlocks := B.notSynchronized
  subst hsz
  have hD := hD0.self (sz := s.heap.size)
  generalize hAe : va_A [(h0, .inr (1, [.ref qT, .int (nI n), .int (nI t), .int lo, .int hi, .ref qS])), (qT, .inl (cA, 187, .inl f)), (qS, .inr (0, [.long a, .long b]))] s.heap.size = A at hD ⊢
  have hA : ∀ q : Nat, s.heap.size ≤ q → A q := fun q h => by rw [← hAe]; exact Or.inr h
  have hS : va_S A s.heap s.heap [] := va_S.rf
  have hP : va_P D vwCl [(h0, .inr (1, [.ref qT, .int (nI n), .int (nI t), .int lo, .int hi, .ref qS])), (qT, .inl (cA, 187, .inl f)), (qS, .inr (0, [.long a, .long b]))] s.heap := hP
  have hiX1 : ∀ w ∈ wsX10, w ∈ wsX1_divide := by decide +kernel
  have hl := lv_entry ([.ref h0, .long x1, .long x2, .long x3, .long x4]) (n := 9) (Nat.le_of_ble_eq_true rfl)
  rw [lg_entry_eq]
  generalize (lg_sl ([.ref h0, .long x1, .long x2, .long x3, .long x4]) ++ List.replicate (9 - (lg_sl ([.ref h0, .long x1, .long x2, .long x3, .long x4])).length) Slot.unset).toArray = ls at hl ⊢
  have hl : lv_has ls 9 [(0, .ref h0), (1, .long x1), (3, .long x2), (5, .long x3), (7, .long x4)] := hl
  have hiX0 : ∀ w ∈ wsX00, w ∈ wsX1_divide := by decide +kernel
  refine lv_aload_n hx hb dX1_divide_0 rfl (lv_at hl 0 rfl) ?_
  refine va_get (D := D) (ci := 1) (v := .ref qS) (C := RX1) (T := TX1) (N := 6) hx hb hts hiX1 hown hK hP 0 rfl rfl 5 (by decide) (hts (.fieldLink RX1 38 "RangeRules" "span" "LRangeRules$Span;") (by decide +kernel)) (fun _ h9 => h9) rfl dX1_divide_1 ?_
  have hPc := hP.sub (ws' := [(qS, .inr (0, [.long a, .long b]))]) [2] rfl
  have hDc := hD.sub (ws' := [(qS, .inr (0, [.long a, .long b]))]) [2] (by decide) rfl
  have hKc := hK.sub (tys' := []) [] rfl
  refine rr_wv (wr := [(h0, .inr (1, [.ref qT, .int (nI n), .int (nI t), .int lo, .int hi, .ref qS])), (qT, .inl (cA, 187, .inl f))]) [2] [0, 1] (va_runVN (As := []) (rest := []) ⟨hx, hb, hml, hown, hts⟩ (c_X0_empty l D qS s.heap.size a b) ⟨va_cnB 0 hts gX1_divide_X0_empty_n101 rfl rfl rfl hN.1 (hts (.initialized RX0) (by decide +kernel)) (by decide +kernel) ⟨Nat.le_of_ble_eq_true rfl, Nat.le_of_ble_eq_true rfl⟩, hts (.instanceMethod yX0_empty) (by decide +kernel), hts (.selects RX0 yX0_empty yX0_empty) (by decide +kernel)⟩ (rr_vW hKc hPc hDc (va_recv hKc hPc (ci := 0) (q0 := 0) rfl rfl)) rfl rfl hl.1 rfl (lv_room (Nat.le_of_ble_eq_true rfl)) dX1_divide_4 ⟨Nat.le_of_ble_eq_true rfl, Nat.le_of_ble_eq_true rfl⟩) hS hA hP hD rfl rfl (by decide) (by decide) (by decide) (fun _ => by simp only [rr_wx, rr_wm, List.map_cons, List.map_nil]) (fun _ H locs _ hP hD hS => ?_)
  have hP : va_P D vwCl [(h0, .inr (1, [.ref qT, .int (nI n), .int (nI t), .int lo, .int hi, .ref qS])), (qT, .inl (cA, 187, .inl f)), (qS, .inr (0, [.long 9223372036854775807, .long ((-9223372036854775808))]))] H := hP
  have hD : va_D A [(h0, .inr (1, [.ref qT, .int (nI n), .int (nI t), .int lo, .int hi, .ref qS])), (qT, .inl (cA, 187, .inl f)), (qS, .inr (0, [.long 9223372036854775807, .long ((-9223372036854775808))]))] := hD
  refine lv_aload_n hx hb dX1_divide_7 rfl (lv_at hl 0 rfl) ?_
  refine lv_lload_n hx hb dX1_divide_8 rfl (lv_at hl 1 rfl) ?_
  refine lv_lload_n hx hb dX1_divide_9 rfl (lv_at hl 2 rfl) ?_
  refine lv_lload hx hb dX1_divide_10 (lv_at hl 3 rfl) ?_
  refine rr_wv (wr := []) [0, 1, 2] [] (va_runV (As := [.long x1, .long x2, .long x3]) (rest := []) ⟨hx, hb, hml, hown, hts⟩ (c_X1_takeQuotients l D h0 qT qS H.size cA f n t lo hi 9223372036854775807 (-9223372036854775808) x1 x2 x3) (cwV 3 hts gX1_divide_X1_takeQuotients rfl rfl rfl (by decide +kernel) ⟨Nat.le_of_ble_eq_true rfl, Nat.le_of_ble_eq_true rfl⟩) (rr_vN hN hK hP hD (va_recv hK hP (ci := 1) (q0 := 0) rfl rfl)) rfl rfl hl.1 rfl (lv_room (Nat.le_of_ble_eq_true rfl)) dX1_divide_12 ⟨Nat.le_of_ble_eq_true rfl, Nat.le_of_ble_eq_true rfl⟩) hS hA hP hD rfl rfl (by decide) (by decide) (by decide) (fun _ => by simp only [rr_wx, rr_wm, List.map_cons, List.map_nil]) (fun u12 H locs e12 hP hD hS => ?_)
  have hP : va_P D vwCl [(h0, .inr (1, [.ref qT, .int (nI n), .int (nI t), .int lo, .int hi, .ref qS])), (qT, .inl (cA, 187, .inl f)), (qS, .inr (0, [.long ((rr_qm (decide (¬ (x3 : Int64) = 0)) x1 x2 x3 (9223372036854775807, (-9223372036854775808))).1), .long ((rr_qm (decide (¬ (x3 : Int64) = 0)) x1 x2 x3 (9223372036854775807, (-9223372036854775808))).2)]))] H := hP
  have hD : va_D A [(h0, .inr (1, [.ref qT, .int (nI n), .int (nI t), .int lo, .int hi, .ref qS])), (qT, .inl (cA, 187, .inl f)), (qS, .inr (0, [.long ((rr_qm (decide (¬ (x3 : Int64) = 0)) x1 x2 x3 (9223372036854775807, (-9223372036854775808))).1), .long ((rr_qm (decide (¬ (x3 : Int64) = 0)) x1 x2 x3 (9223372036854775807, (-9223372036854775808))).2)]))] := hD
  obtain ⟨z1, g1⟩ : ∃ z, z = (rr_qm (decide (¬ (x3 : Int64) = 0)) x1 x2 x3 (9223372036854775807, (-9223372036854775808))) := ⟨_, rfl⟩
  rw [← g1] at hP hD
  have hP : va_P D vwCl [(h0, .inr (1, [.ref qT, .int (nI n), .int (nI t), .int lo, .int hi, .ref qS])), (qT, .inl (cA, 187, .inl f)), (qS, .inr (0, [.long z1.1, .long z1.2]))] H := hP
  have hD : va_D A [(h0, .inr (1, [.ref qT, .int (nI n), .int (nI t), .int lo, .int hi, .ref qS])), (qT, .inl (cA, 187, .inl f)), (qS, .inr (0, [.long z1.1, .long z1.2]))] := hD
  refine lv_aload_n hx hb dX1_divide_15 rfl (lv_at hl 0 rfl) ?_
  refine lv_lload_n hx hb dX1_divide_16 rfl (lv_at hl 1 rfl) ?_
  refine lv_lload_n hx hb dX1_divide_17 rfl (lv_at hl 2 rfl) ?_
  refine lv_lload hx hb dX1_divide_18 (lv_at hl 4 rfl) ?_
  refine rr_wv (wr := []) [0, 1, 2] [] (va_runV (As := [.long x1, .long x2, .long x4]) (rest := []) ⟨hx, hb, hml, hown, hts⟩ (c_X1_takeQuotients l D h0 qT qS H.size cA f n t lo hi z1.1 z1.2 x1 x2 x4) (cwV 3 hts gX1_divide_X1_takeQuotients rfl rfl rfl (by decide +kernel) ⟨Nat.le_of_ble_eq_true rfl, Nat.le_of_ble_eq_true rfl⟩) (rr_vN hN hK hP hD (va_recv hK hP (ci := 1) (q0 := 0) rfl rfl)) rfl rfl hl.1 rfl (lv_room (Nat.le_of_ble_eq_true rfl)) dX1_divide_20 ⟨Nat.le_of_ble_eq_true rfl, Nat.le_of_ble_eq_true rfl⟩) hS hA hP hD rfl rfl (by decide) (by decide) (by decide) (fun _ => by simp only [rr_wx, rr_wm, List.map_cons, List.map_nil]) (fun u20 H locs e20 hP hD hS => ?_)
  have hP : va_P D vwCl [(h0, .inr (1, [.ref qT, .int (nI n), .int (nI t), .int lo, .int hi, .ref qS])), (qT, .inl (cA, 187, .inl f)), (qS, .inr (0, [.long ((rr_qm (decide (¬ (x4 : Int64) = 0)) x1 x2 x4 (z1.1, z1.2)).1), .long ((rr_qm (decide (¬ (x4 : Int64) = 0)) x1 x2 x4 (z1.1, z1.2)).2)]))] H := hP
  have hD : va_D A [(h0, .inr (1, [.ref qT, .int (nI n), .int (nI t), .int lo, .int hi, .ref qS])), (qT, .inl (cA, 187, .inl f)), (qS, .inr (0, [.long ((rr_qm (decide (¬ (x4 : Int64) = 0)) x1 x2 x4 (z1.1, z1.2)).1), .long ((rr_qm (decide (¬ (x4 : Int64) = 0)) x1 x2 x4 (z1.1, z1.2)).2)]))] := hD
  obtain ⟨z2, g2⟩ : ∃ z, z = (rr_qm (decide (¬ (x4 : Int64) = 0)) x1 x2 x4 (z1.1, z1.2)) := ⟨_, rfl⟩
  rw [← g2] at hP hD
  have hP : va_P D vwCl [(h0, .inr (1, [.ref qT, .int (nI n), .int (nI t), .int lo, .int hi, .ref qS])), (qT, .inl (cA, 187, .inl f)), (qS, .inr (0, [.long z2.1, .long z2.2]))] H := hP
  have hD : va_D A [(h0, .inr (1, [.ref qT, .int (nI n), .int (nI t), .int lo, .int hi, .ref qS])), (qT, .inl (cA, 187, .inl f)), (qS, .inr (0, [.long z2.1, .long z2.2]))] := hD
  refine lv_lload hx hb dX1_divide_23 (lv_at hl 3 rfl) ?_
  refine lv_ldc2 (v := (-1)) hx hb hown (hts (.constantLong RX1 119 (-1)) (by decide +kernel)) dX1_divide_25 ?_
  refine W.lcmp hx hb dX1_divide_28 ?_
  refine lv_if_gt (tgt := 50) hx hb dX1_divide_29 (by decide) (fun c29 => ?_) (fun c29 => ?_)
  · skip
    refine lv_lload hx hb dX1_divide_50 (lv_at hl 3 rfl) ?_
    refine lv_lconst (v := 1) hx hb dX1_divide_52 (by decide) ?_
    refine W.lcmp hx hb dX1_divide_53 ?_
    refine lv_if_gt (tgt := 71) hx hb dX1_divide_54 (by decide) (fun c54 => ?_) (fun c54 => ?_)
    · skip
      refine lv_aload_n hx hb dX1_divide_71 rfl (lv_at hl 0 rfl) ?_
      refine lv_aload_n hx hb dX1_divide_72 rfl (lv_at hl 0 rfl) ?_
      refine va_get (D := D) (ci := 1) (v := .ref qS) (C := RX1) (T := TX1) (N := 6) hx hb hts hiX1 hown hK hP 0 rfl rfl 5 (by decide) (hts (.fieldLink RX1 38 "RangeRules" "span" "LRangeRules$Span;") (by decide +kernel)) (fun _ h9 => h9) rfl dX1_divide_73 ?_
      refine va_getN (D := D) (ci := 0) (v := .long z2.1) (C := RX0) (T := TX0) (N := 2) hx hb hts hiX0 hown hK hP 2 rfl rfl 0 (by decide) (va_Nw.use rfl hN.2.2.1) (fun _ h9 => h9) rfl dX1_divide_76 ?_
      refine lv_aload_n hx hb dX1_divide_79 rfl (lv_at hl 0 rfl) ?_
      refine va_get (D := D) (ci := 1) (v := .ref qS) (C := RX1) (T := TX1) (N := 6) hx hb hts hiX1 hown hK hP 0 rfl rfl 5 (by decide) (hts (.fieldLink RX1 38 "RangeRules" "span" "LRangeRules$Span;") (by decide +kernel)) (fun _ h9 => h9) rfl dX1_divide_80 ?_
      refine va_getN (D := D) (ci := 0) (v := .long z2.2) (C := RX0) (T := TX0) (N := 2) hx hb hts hiX0 hown hK hP 2 rfl rfl 1 (by decide) (va_Nw.use rfl hN.2.2.2) (fun _ h9 => h9) rfl dX1_divide_83 ?_
      refine rr_wv (wr := []) [0, 1, 2] [] (va_runV (As := [.long z2.1, .long z2.2]) (rest := []) ⟨hx, hb, hml, hown, hts⟩ (c_X1_tell l D h0 qT qS H.size cA f n t lo hi z2.1 z2.2 z2.1 z2.2 hn) (cwV 2 hts gX1_divide_X1_tell rfl rfl rfl (by decide +kernel) ⟨Nat.le_of_ble_eq_true rfl, Nat.le_of_ble_eq_true rfl⟩) (rr_vW hK hP hD (va_recv hK hP (ci := 1) (q0 := 0) rfl rfl)) rfl rfl hl.1 rfl (lv_room (Nat.le_of_ble_eq_true rfl)) dX1_divide_86 ⟨Nat.le_of_ble_eq_true rfl, Nat.le_of_ble_eq_true rfl⟩) hS hA hP hD rfl rfl (by decide) (by decide) (by decide) (fun _ => by simp only [rr_wx, rr_wm, List.map_cons, List.map_nil]) (fun u86 H locs e86 hP hD hS => ?_)
      have hP : va_P D vwCl [(h0, .inr (1, [.ref qT, .int (nI n), .int (nI t), .int ((rr_tl f n z2.1 z2.2).1), .int ((rr_tl f n z2.1 z2.2).2), .ref qS])), (qT, .inl (cA, 187, .inl f)), (qS, .inr (0, [.long z2.1, .long z2.2]))] H := hP
      have hD : va_D A [(h0, .inr (1, [.ref qT, .int (nI n), .int (nI t), .int ((rr_tl f n z2.1 z2.2).1), .int ((rr_tl f n z2.1 z2.2).2), .ref qS])), (qT, .inl (cA, 187, .inl f)), (qS, .inr (0, [.long z2.1, .long z2.2]))] := hD
      have ee : (rr_qs x1 x2 x3 x4) = z2 := by
        rw [rr_qs_x hmn]
        rw [show rr_qc x3 x4 (-1) = false from rr_qc_lo ((lg_cmp_gt _ _).mp c29)]
        rw [show rr_qc x3 x4 (1) = false from rr_qc_lo ((lg_cmp_gt _ _).mp c54)]
        simp only [rr_qm_no]
        rw [g2, g1]
        rfl
      rw [← ee] at hP
      exact W.vret hx hb hr (fun tt ht hW => ⟨⟨(_, _), rfl, trivial, by dsimp only; rw [ht]; exact hP⟩, hS.F ht⟩) hS.2.2 dX1_divide_89
    · skip
      refine lv_lload hx hb dX1_divide_57 (lv_at hl 4 rfl) ?_
      refine lv_lconst (v := 1) hx hb dX1_divide_59 (by decide) ?_
      refine W.lcmp hx hb dX1_divide_60 ?_
      refine lv_if_lt (tgt := 71) hx hb dX1_divide_61 (by decide) (fun c61 => ?_) (fun c61 => ?_)
      · skip
        refine lv_aload_n hx hb dX1_divide_71 rfl (lv_at hl 0 rfl) ?_
        refine lv_aload_n hx hb dX1_divide_72 rfl (lv_at hl 0 rfl) ?_
        refine va_get (D := D) (ci := 1) (v := .ref qS) (C := RX1) (T := TX1) (N := 6) hx hb hts hiX1 hown hK hP 0 rfl rfl 5 (by decide) (hts (.fieldLink RX1 38 "RangeRules" "span" "LRangeRules$Span;") (by decide +kernel)) (fun _ h9 => h9) rfl dX1_divide_73 ?_
        refine va_getN (D := D) (ci := 0) (v := .long z2.1) (C := RX0) (T := TX0) (N := 2) hx hb hts hiX0 hown hK hP 2 rfl rfl 0 (by decide) (va_Nw.use rfl hN.2.2.1) (fun _ h9 => h9) rfl dX1_divide_76 ?_
        refine lv_aload_n hx hb dX1_divide_79 rfl (lv_at hl 0 rfl) ?_
        refine va_get (D := D) (ci := 1) (v := .ref qS) (C := RX1) (T := TX1) (N := 6) hx hb hts hiX1 hown hK hP 0 rfl rfl 5 (by decide) (hts (.fieldLink RX1 38 "RangeRules" "span" "LRangeRules$Span;") (by decide +kernel)) (fun _ h9 => h9) rfl dX1_divide_80 ?_
        refine va_getN (D := D) (ci := 0) (v := .long z2.2) (C := RX0) (T := TX0) (N := 2) hx hb hts hiX0 hown hK hP 2 rfl rfl 1 (by decide) (va_Nw.use rfl hN.2.2.2) (fun _ h9 => h9) rfl dX1_divide_83 ?_
        refine rr_wv (wr := []) [0, 1, 2] [] (va_runV (As := [.long z2.1, .long z2.2]) (rest := []) ⟨hx, hb, hml, hown, hts⟩ (c_X1_tell l D h0 qT qS H.size cA f n t lo hi z2.1 z2.2 z2.1 z2.2 hn) (cwV 2 hts gX1_divide_X1_tell rfl rfl rfl (by decide +kernel) ⟨Nat.le_of_ble_eq_true rfl, Nat.le_of_ble_eq_true rfl⟩) (rr_vW hK hP hD (va_recv hK hP (ci := 1) (q0 := 0) rfl rfl)) rfl rfl hl.1 rfl (lv_room (Nat.le_of_ble_eq_true rfl)) dX1_divide_86 ⟨Nat.le_of_ble_eq_true rfl, Nat.le_of_ble_eq_true rfl⟩) hS hA hP hD rfl rfl (by decide) (by decide) (by decide) (fun _ => by simp only [rr_wx, rr_wm, List.map_cons, List.map_nil]) (fun u86 H locs e86 hP hD hS => ?_)
        have hP : va_P D vwCl [(h0, .inr (1, [.ref qT, .int (nI n), .int (nI t), .int ((rr_tl f n z2.1 z2.2).1), .int ((rr_tl f n z2.1 z2.2).2), .ref qS])), (qT, .inl (cA, 187, .inl f)), (qS, .inr (0, [.long z2.1, .long z2.2]))] H := hP
        have hD : va_D A [(h0, .inr (1, [.ref qT, .int (nI n), .int (nI t), .int ((rr_tl f n z2.1 z2.2).1), .int ((rr_tl f n z2.1 z2.2).2), .ref qS])), (qT, .inl (cA, 187, .inl f)), (qS, .inr (0, [.long z2.1, .long z2.2]))] := hD
        have ee : (rr_qs x1 x2 x3 x4) = z2 := by
          rw [rr_qs_x hmn]
          rw [show rr_qc x3 x4 (-1) = false from rr_qc_lo ((lg_cmp_gt _ _).mp c29)]
          rw [show rr_qc x3 x4 (1) = false from rr_qc_hi ((lg_cmp_lt _ _).mp c61)]
          simp only [rr_qm_no]
          rw [g2, g1]
          rfl
        rw [← ee] at hP
        exact W.vret hx hb hr (fun tt ht hW => ⟨⟨(_, _), rfl, trivial, by dsimp only; rw [ht]; exact hP⟩, hS.F ht⟩) hS.2.2 dX1_divide_89
      · skip
        refine lv_aload_n hx hb dX1_divide_64 rfl (lv_at hl 0 rfl) ?_
        refine lv_lload_n hx hb dX1_divide_65 rfl (lv_at hl 1 rfl) ?_
        refine lv_lload_n hx hb dX1_divide_66 rfl (lv_at hl 2 rfl) ?_
        refine lv_lconst (v := 1) hx hb dX1_divide_67 (by decide) ?_
        refine rr_wv (wr := []) [0, 1, 2] [] (va_runV (As := [.long x1, .long x2, .long 1]) (rest := []) ⟨hx, hb, hml, hown, hts⟩ (c_X1_takeQuotients l D h0 qT qS H.size cA f n t lo hi z2.1 z2.2 x1 x2 1) (cwV 3 hts gX1_divide_X1_takeQuotients rfl rfl rfl (by decide +kernel) ⟨Nat.le_of_ble_eq_true rfl, Nat.le_of_ble_eq_true rfl⟩) (rr_vN hN hK hP hD (va_recv hK hP (ci := 1) (q0 := 0) rfl rfl)) rfl rfl hl.1 rfl (lv_room (Nat.le_of_ble_eq_true rfl)) dX1_divide_68 ⟨Nat.le_of_ble_eq_true rfl, Nat.le_of_ble_eq_true rfl⟩) hS hA hP hD rfl rfl (by decide) (by decide) (by decide) (fun _ => by simp only [rr_wx, rr_wm, List.map_cons, List.map_nil]) (fun u68 H locs e68 hP hD hS => ?_)
        have hP : va_P D vwCl [(h0, .inr (1, [.ref qT, .int (nI n), .int (nI t), .int lo, .int hi, .ref qS])), (qT, .inl (cA, 187, .inl f)), (qS, .inr (0, [.long ((rr_qm (decide (¬ (1 : Int64) = 0)) x1 x2 1 (z2.1, z2.2)).1), .long ((rr_qm (decide (¬ (1 : Int64) = 0)) x1 x2 1 (z2.1, z2.2)).2)]))] H := hP
        have hD : va_D A [(h0, .inr (1, [.ref qT, .int (nI n), .int (nI t), .int lo, .int hi, .ref qS])), (qT, .inl (cA, 187, .inl f)), (qS, .inr (0, [.long ((rr_qm (decide (¬ (1 : Int64) = 0)) x1 x2 1 (z2.1, z2.2)).1), .long ((rr_qm (decide (¬ (1 : Int64) = 0)) x1 x2 1 (z2.1, z2.2)).2)]))] := hD
        obtain ⟨z3, g3⟩ : ∃ z, z = (rr_qm (decide (¬ (1 : Int64) = 0)) x1 x2 1 (z2.1, z2.2)) := ⟨_, rfl⟩
        rw [← g3] at hP hD
        have hP : va_P D vwCl [(h0, .inr (1, [.ref qT, .int (nI n), .int (nI t), .int lo, .int hi, .ref qS])), (qT, .inl (cA, 187, .inl f)), (qS, .inr (0, [.long z3.1, .long z3.2]))] H := hP
        have hD : va_D A [(h0, .inr (1, [.ref qT, .int (nI n), .int (nI t), .int lo, .int hi, .ref qS])), (qT, .inl (cA, 187, .inl f)), (qS, .inr (0, [.long z3.1, .long z3.2]))] := hD
        refine lv_aload_n hx hb dX1_divide_71 rfl (lv_at hl 0 rfl) ?_
        refine lv_aload_n hx hb dX1_divide_72 rfl (lv_at hl 0 rfl) ?_
        refine va_get (D := D) (ci := 1) (v := .ref qS) (C := RX1) (T := TX1) (N := 6) hx hb hts hiX1 hown hK hP 0 rfl rfl 5 (by decide) (hts (.fieldLink RX1 38 "RangeRules" "span" "LRangeRules$Span;") (by decide +kernel)) (fun _ h9 => h9) rfl dX1_divide_73 ?_
        refine va_getN (D := D) (ci := 0) (v := .long z3.1) (C := RX0) (T := TX0) (N := 2) hx hb hts hiX0 hown hK hP 2 rfl rfl 0 (by decide) (va_Nw.use rfl hN.2.2.1) (fun _ h9 => h9) rfl dX1_divide_76 ?_
        refine lv_aload_n hx hb dX1_divide_79 rfl (lv_at hl 0 rfl) ?_
        refine va_get (D := D) (ci := 1) (v := .ref qS) (C := RX1) (T := TX1) (N := 6) hx hb hts hiX1 hown hK hP 0 rfl rfl 5 (by decide) (hts (.fieldLink RX1 38 "RangeRules" "span" "LRangeRules$Span;") (by decide +kernel)) (fun _ h9 => h9) rfl dX1_divide_80 ?_
        refine va_getN (D := D) (ci := 0) (v := .long z3.2) (C := RX0) (T := TX0) (N := 2) hx hb hts hiX0 hown hK hP 2 rfl rfl 1 (by decide) (va_Nw.use rfl hN.2.2.2) (fun _ h9 => h9) rfl dX1_divide_83 ?_
        refine rr_wv (wr := []) [0, 1, 2] [] (va_runV (As := [.long z3.1, .long z3.2]) (rest := []) ⟨hx, hb, hml, hown, hts⟩ (c_X1_tell l D h0 qT qS H.size cA f n t lo hi z3.1 z3.2 z3.1 z3.2 hn) (cwV 2 hts gX1_divide_X1_tell rfl rfl rfl (by decide +kernel) ⟨Nat.le_of_ble_eq_true rfl, Nat.le_of_ble_eq_true rfl⟩) (rr_vW hK hP hD (va_recv hK hP (ci := 1) (q0 := 0) rfl rfl)) rfl rfl hl.1 rfl (lv_room (Nat.le_of_ble_eq_true rfl)) dX1_divide_86 ⟨Nat.le_of_ble_eq_true rfl, Nat.le_of_ble_eq_true rfl⟩) hS hA hP hD rfl rfl (by decide) (by decide) (by decide) (fun _ => by simp only [rr_wx, rr_wm, List.map_cons, List.map_nil]) (fun u86 H locs e86 hP hD hS => ?_)
        have hP : va_P D vwCl [(h0, .inr (1, [.ref qT, .int (nI n), .int (nI t), .int ((rr_tl f n z3.1 z3.2).1), .int ((rr_tl f n z3.1 z3.2).2), .ref qS])), (qT, .inl (cA, 187, .inl f)), (qS, .inr (0, [.long z3.1, .long z3.2]))] H := hP
        have hD : va_D A [(h0, .inr (1, [.ref qT, .int (nI n), .int (nI t), .int ((rr_tl f n z3.1 z3.2).1), .int ((rr_tl f n z3.1 z3.2).2), .ref qS])), (qT, .inl (cA, 187, .inl f)), (qS, .inr (0, [.long z3.1, .long z3.2]))] := hD
        have ee : (rr_qs x1 x2 x3 x4) = z3 := by
          rw [rr_qs_x hmn]
          rw [show rr_qc x3 x4 (-1) = false from rr_qc_lo ((lg_cmp_gt _ _).mp c29)]
          rw [show rr_qc x3 x4 (1) = decide (¬ (1 : Int64) = 0) from rr_qc_in (by decide) (Int64.not_lt.mp (fun z => c54 ((lg_cmp_gt _ _).mpr z))) (Int64.not_lt.mp (fun z => c61 ((lg_cmp_lt _ _).mpr z)))]
          simp only [rr_qm_no]
          rw [g3, g2, g1]
          rfl
        rw [← ee] at hP
        exact W.vret hx hb hr (fun tt ht hW => ⟨⟨(_, _), rfl, trivial, by dsimp only; rw [ht]; exact hP⟩, hS.F ht⟩) hS.2.2 dX1_divide_89
  · skip
    refine lv_lload hx hb dX1_divide_32 (lv_at hl 4 rfl) ?_
    refine lv_ldc2 (v := (-1)) hx hb hown (hts (.constantLong RX1 119 (-1)) (by decide +kernel)) dX1_divide_34 ?_
    refine W.lcmp hx hb dX1_divide_37 ?_
    refine lv_if_lt (tgt := 50) hx hb dX1_divide_38 (by decide) (fun c38 => ?_) (fun c38 => ?_)
    · skip
      refine lv_lload hx hb dX1_divide_50 (lv_at hl 3 rfl) ?_
      refine lv_lconst (v := 1) hx hb dX1_divide_52 (by decide) ?_
      refine W.lcmp hx hb dX1_divide_53 ?_
      refine lv_if_gt (tgt := 71) hx hb dX1_divide_54 (by decide) (fun c54 => ?_) (fun c54 => ?_)
      · skip
        refine lv_aload_n hx hb dX1_divide_71 rfl (lv_at hl 0 rfl) ?_
        refine lv_aload_n hx hb dX1_divide_72 rfl (lv_at hl 0 rfl) ?_
        refine va_get (D := D) (ci := 1) (v := .ref qS) (C := RX1) (T := TX1) (N := 6) hx hb hts hiX1 hown hK hP 0 rfl rfl 5 (by decide) (hts (.fieldLink RX1 38 "RangeRules" "span" "LRangeRules$Span;") (by decide +kernel)) (fun _ h9 => h9) rfl dX1_divide_73 ?_
        refine va_getN (D := D) (ci := 0) (v := .long z2.1) (C := RX0) (T := TX0) (N := 2) hx hb hts hiX0 hown hK hP 2 rfl rfl 0 (by decide) (va_Nw.use rfl hN.2.2.1) (fun _ h9 => h9) rfl dX1_divide_76 ?_
        refine lv_aload_n hx hb dX1_divide_79 rfl (lv_at hl 0 rfl) ?_
        refine va_get (D := D) (ci := 1) (v := .ref qS) (C := RX1) (T := TX1) (N := 6) hx hb hts hiX1 hown hK hP 0 rfl rfl 5 (by decide) (hts (.fieldLink RX1 38 "RangeRules" "span" "LRangeRules$Span;") (by decide +kernel)) (fun _ h9 => h9) rfl dX1_divide_80 ?_
        refine va_getN (D := D) (ci := 0) (v := .long z2.2) (C := RX0) (T := TX0) (N := 2) hx hb hts hiX0 hown hK hP 2 rfl rfl 1 (by decide) (va_Nw.use rfl hN.2.2.2) (fun _ h9 => h9) rfl dX1_divide_83 ?_
        refine rr_wv (wr := []) [0, 1, 2] [] (va_runV (As := [.long z2.1, .long z2.2]) (rest := []) ⟨hx, hb, hml, hown, hts⟩ (c_X1_tell l D h0 qT qS H.size cA f n t lo hi z2.1 z2.2 z2.1 z2.2 hn) (cwV 2 hts gX1_divide_X1_tell rfl rfl rfl (by decide +kernel) ⟨Nat.le_of_ble_eq_true rfl, Nat.le_of_ble_eq_true rfl⟩) (rr_vW hK hP hD (va_recv hK hP (ci := 1) (q0 := 0) rfl rfl)) rfl rfl hl.1 rfl (lv_room (Nat.le_of_ble_eq_true rfl)) dX1_divide_86 ⟨Nat.le_of_ble_eq_true rfl, Nat.le_of_ble_eq_true rfl⟩) hS hA hP hD rfl rfl (by decide) (by decide) (by decide) (fun _ => by simp only [rr_wx, rr_wm, List.map_cons, List.map_nil]) (fun u86 H locs e86 hP hD hS => ?_)
        have hP : va_P D vwCl [(h0, .inr (1, [.ref qT, .int (nI n), .int (nI t), .int ((rr_tl f n z2.1 z2.2).1), .int ((rr_tl f n z2.1 z2.2).2), .ref qS])), (qT, .inl (cA, 187, .inl f)), (qS, .inr (0, [.long z2.1, .long z2.2]))] H := hP
        have hD : va_D A [(h0, .inr (1, [.ref qT, .int (nI n), .int (nI t), .int ((rr_tl f n z2.1 z2.2).1), .int ((rr_tl f n z2.1 z2.2).2), .ref qS])), (qT, .inl (cA, 187, .inl f)), (qS, .inr (0, [.long z2.1, .long z2.2]))] := hD
        have ee : (rr_qs x1 x2 x3 x4) = z2 := by
          rw [rr_qs_x hmn]
          rw [show rr_qc x3 x4 (-1) = false from rr_qc_hi ((lg_cmp_lt _ _).mp c38)]
          rw [show rr_qc x3 x4 (1) = false from rr_qc_lo ((lg_cmp_gt _ _).mp c54)]
          simp only [rr_qm_no]
          rw [g2, g1]
          rfl
        rw [← ee] at hP
        exact W.vret hx hb hr (fun tt ht hW => ⟨⟨(_, _), rfl, trivial, by dsimp only; rw [ht]; exact hP⟩, hS.F ht⟩) hS.2.2 dX1_divide_89
      · skip
        refine lv_lload hx hb dX1_divide_57 (lv_at hl 4 rfl) ?_
        refine lv_lconst (v := 1) hx hb dX1_divide_59 (by decide) ?_
        refine W.lcmp hx hb dX1_divide_60 ?_
        refine lv_if_lt (tgt := 71) hx hb dX1_divide_61 (by decide) (fun c61 => ?_) (fun c61 => ?_)
        · skip
          refine lv_aload_n hx hb dX1_divide_71 rfl (lv_at hl 0 rfl) ?_
          refine lv_aload_n hx hb dX1_divide_72 rfl (lv_at hl 0 rfl) ?_
          refine va_get (D := D) (ci := 1) (v := .ref qS) (C := RX1) (T := TX1) (N := 6) hx hb hts hiX1 hown hK hP 0 rfl rfl 5 (by decide) (hts (.fieldLink RX1 38 "RangeRules" "span" "LRangeRules$Span;") (by decide +kernel)) (fun _ h9 => h9) rfl dX1_divide_73 ?_
          refine va_getN (D := D) (ci := 0) (v := .long z2.1) (C := RX0) (T := TX0) (N := 2) hx hb hts hiX0 hown hK hP 2 rfl rfl 0 (by decide) (va_Nw.use rfl hN.2.2.1) (fun _ h9 => h9) rfl dX1_divide_76 ?_
          refine lv_aload_n hx hb dX1_divide_79 rfl (lv_at hl 0 rfl) ?_
          refine va_get (D := D) (ci := 1) (v := .ref qS) (C := RX1) (T := TX1) (N := 6) hx hb hts hiX1 hown hK hP 0 rfl rfl 5 (by decide) (hts (.fieldLink RX1 38 "RangeRules" "span" "LRangeRules$Span;") (by decide +kernel)) (fun _ h9 => h9) rfl dX1_divide_80 ?_
          refine va_getN (D := D) (ci := 0) (v := .long z2.2) (C := RX0) (T := TX0) (N := 2) hx hb hts hiX0 hown hK hP 2 rfl rfl 1 (by decide) (va_Nw.use rfl hN.2.2.2) (fun _ h9 => h9) rfl dX1_divide_83 ?_
          refine rr_wv (wr := []) [0, 1, 2] [] (va_runV (As := [.long z2.1, .long z2.2]) (rest := []) ⟨hx, hb, hml, hown, hts⟩ (c_X1_tell l D h0 qT qS H.size cA f n t lo hi z2.1 z2.2 z2.1 z2.2 hn) (cwV 2 hts gX1_divide_X1_tell rfl rfl rfl (by decide +kernel) ⟨Nat.le_of_ble_eq_true rfl, Nat.le_of_ble_eq_true rfl⟩) (rr_vW hK hP hD (va_recv hK hP (ci := 1) (q0 := 0) rfl rfl)) rfl rfl hl.1 rfl (lv_room (Nat.le_of_ble_eq_true rfl)) dX1_divide_86 ⟨Nat.le_of_ble_eq_true rfl, Nat.le_of_ble_eq_true rfl⟩) hS hA hP hD rfl rfl (by decide) (by decide) (by decide) (fun _ => by simp only [rr_wx, rr_wm, List.map_cons, List.map_nil]) (fun u86 H locs e86 hP hD hS => ?_)
          have hP : va_P D vwCl [(h0, .inr (1, [.ref qT, .int (nI n), .int (nI t), .int ((rr_tl f n z2.1 z2.2).1), .int ((rr_tl f n z2.1 z2.2).2), .ref qS])), (qT, .inl (cA, 187, .inl f)), (qS, .inr (0, [.long z2.1, .long z2.2]))] H := hP
          have hD : va_D A [(h0, .inr (1, [.ref qT, .int (nI n), .int (nI t), .int ((rr_tl f n z2.1 z2.2).1), .int ((rr_tl f n z2.1 z2.2).2), .ref qS])), (qT, .inl (cA, 187, .inl f)), (qS, .inr (0, [.long z2.1, .long z2.2]))] := hD
          have ee : (rr_qs x1 x2 x3 x4) = z2 := by
            rw [rr_qs_x hmn]
            rw [show rr_qc x3 x4 (-1) = false from rr_qc_hi ((lg_cmp_lt _ _).mp c38)]
            rw [show rr_qc x3 x4 (1) = false from rr_qc_hi ((lg_cmp_lt _ _).mp c61)]
            simp only [rr_qm_no]
            rw [g2, g1]
            rfl
          rw [← ee] at hP
          exact W.vret hx hb hr (fun tt ht hW => ⟨⟨(_, _), rfl, trivial, by dsimp only; rw [ht]; exact hP⟩, hS.F ht⟩) hS.2.2 dX1_divide_89
        · skip
          refine lv_aload_n hx hb dX1_divide_64 rfl (lv_at hl 0 rfl) ?_
          refine lv_lload_n hx hb dX1_divide_65 rfl (lv_at hl 1 rfl) ?_
          refine lv_lload_n hx hb dX1_divide_66 rfl (lv_at hl 2 rfl) ?_
          refine lv_lconst (v := 1) hx hb dX1_divide_67 (by decide) ?_
          refine rr_wv (wr := []) [0, 1, 2] [] (va_runV (As := [.long x1, .long x2, .long 1]) (rest := []) ⟨hx, hb, hml, hown, hts⟩ (c_X1_takeQuotients l D h0 qT qS H.size cA f n t lo hi z2.1 z2.2 x1 x2 1) (cwV 3 hts gX1_divide_X1_takeQuotients rfl rfl rfl (by decide +kernel) ⟨Nat.le_of_ble_eq_true rfl, Nat.le_of_ble_eq_true rfl⟩) (rr_vN hN hK hP hD (va_recv hK hP (ci := 1) (q0 := 0) rfl rfl)) rfl rfl hl.1 rfl (lv_room (Nat.le_of_ble_eq_true rfl)) dX1_divide_68 ⟨Nat.le_of_ble_eq_true rfl, Nat.le_of_ble_eq_true rfl⟩) hS hA hP hD rfl rfl (by decide) (by decide) (by decide) (fun _ => by simp only [rr_wx, rr_wm, List.map_cons, List.map_nil]) (fun u68 H locs e68 hP hD hS => ?_)
          have hP : va_P D vwCl [(h0, .inr (1, [.ref qT, .int (nI n), .int (nI t), .int lo, .int hi, .ref qS])), (qT, .inl (cA, 187, .inl f)), (qS, .inr (0, [.long ((rr_qm (decide (¬ (1 : Int64) = 0)) x1 x2 1 (z2.1, z2.2)).1), .long ((rr_qm (decide (¬ (1 : Int64) = 0)) x1 x2 1 (z2.1, z2.2)).2)]))] H := hP
          have hD : va_D A [(h0, .inr (1, [.ref qT, .int (nI n), .int (nI t), .int lo, .int hi, .ref qS])), (qT, .inl (cA, 187, .inl f)), (qS, .inr (0, [.long ((rr_qm (decide (¬ (1 : Int64) = 0)) x1 x2 1 (z2.1, z2.2)).1), .long ((rr_qm (decide (¬ (1 : Int64) = 0)) x1 x2 1 (z2.1, z2.2)).2)]))] := hD
          obtain ⟨z3, g3⟩ : ∃ z, z = (rr_qm (decide (¬ (1 : Int64) = 0)) x1 x2 1 (z2.1, z2.2)) := ⟨_, rfl⟩
          rw [← g3] at hP hD
          have hP : va_P D vwCl [(h0, .inr (1, [.ref qT, .int (nI n), .int (nI t), .int lo, .int hi, .ref qS])), (qT, .inl (cA, 187, .inl f)), (qS, .inr (0, [.long z3.1, .long z3.2]))] H := hP
          have hD : va_D A [(h0, .inr (1, [.ref qT, .int (nI n), .int (nI t), .int lo, .int hi, .ref qS])), (qT, .inl (cA, 187, .inl f)), (qS, .inr (0, [.long z3.1, .long z3.2]))] := hD
          refine lv_aload_n hx hb dX1_divide_71 rfl (lv_at hl 0 rfl) ?_
          refine lv_aload_n hx hb dX1_divide_72 rfl (lv_at hl 0 rfl) ?_
          refine va_get (D := D) (ci := 1) (v := .ref qS) (C := RX1) (T := TX1) (N := 6) hx hb hts hiX1 hown hK hP 0 rfl rfl 5 (by decide) (hts (.fieldLink RX1 38 "RangeRules" "span" "LRangeRules$Span;") (by decide +kernel)) (fun _ h9 => h9) rfl dX1_divide_73 ?_
          refine va_getN (D := D) (ci := 0) (v := .long z3.1) (C := RX0) (T := TX0) (N := 2) hx hb hts hiX0 hown hK hP 2 rfl rfl 0 (by decide) (va_Nw.use rfl hN.2.2.1) (fun _ h9 => h9) rfl dX1_divide_76 ?_
          refine lv_aload_n hx hb dX1_divide_79 rfl (lv_at hl 0 rfl) ?_
          refine va_get (D := D) (ci := 1) (v := .ref qS) (C := RX1) (T := TX1) (N := 6) hx hb hts hiX1 hown hK hP 0 rfl rfl 5 (by decide) (hts (.fieldLink RX1 38 "RangeRules" "span" "LRangeRules$Span;") (by decide +kernel)) (fun _ h9 => h9) rfl dX1_divide_80 ?_
          refine va_getN (D := D) (ci := 0) (v := .long z3.2) (C := RX0) (T := TX0) (N := 2) hx hb hts hiX0 hown hK hP 2 rfl rfl 1 (by decide) (va_Nw.use rfl hN.2.2.2) (fun _ h9 => h9) rfl dX1_divide_83 ?_
          refine rr_wv (wr := []) [0, 1, 2] [] (va_runV (As := [.long z3.1, .long z3.2]) (rest := []) ⟨hx, hb, hml, hown, hts⟩ (c_X1_tell l D h0 qT qS H.size cA f n t lo hi z3.1 z3.2 z3.1 z3.2 hn) (cwV 2 hts gX1_divide_X1_tell rfl rfl rfl (by decide +kernel) ⟨Nat.le_of_ble_eq_true rfl, Nat.le_of_ble_eq_true rfl⟩) (rr_vW hK hP hD (va_recv hK hP (ci := 1) (q0 := 0) rfl rfl)) rfl rfl hl.1 rfl (lv_room (Nat.le_of_ble_eq_true rfl)) dX1_divide_86 ⟨Nat.le_of_ble_eq_true rfl, Nat.le_of_ble_eq_true rfl⟩) hS hA hP hD rfl rfl (by decide) (by decide) (by decide) (fun _ => by simp only [rr_wx, rr_wm, List.map_cons, List.map_nil]) (fun u86 H locs e86 hP hD hS => ?_)
          have hP : va_P D vwCl [(h0, .inr (1, [.ref qT, .int (nI n), .int (nI t), .int ((rr_tl f n z3.1 z3.2).1), .int ((rr_tl f n z3.1 z3.2).2), .ref qS])), (qT, .inl (cA, 187, .inl f)), (qS, .inr (0, [.long z3.1, .long z3.2]))] H := hP
          have hD : va_D A [(h0, .inr (1, [.ref qT, .int (nI n), .int (nI t), .int ((rr_tl f n z3.1 z3.2).1), .int ((rr_tl f n z3.1 z3.2).2), .ref qS])), (qT, .inl (cA, 187, .inl f)), (qS, .inr (0, [.long z3.1, .long z3.2]))] := hD
          have ee : (rr_qs x1 x2 x3 x4) = z3 := by
            rw [rr_qs_x hmn]
            rw [show rr_qc x3 x4 (-1) = false from rr_qc_hi ((lg_cmp_lt _ _).mp c38)]
            rw [show rr_qc x3 x4 (1) = decide (¬ (1 : Int64) = 0) from rr_qc_in (by decide) (Int64.not_lt.mp (fun z => c54 ((lg_cmp_gt _ _).mpr z))) (Int64.not_lt.mp (fun z => c61 ((lg_cmp_lt _ _).mpr z)))]
            simp only [rr_qm_no]
            rw [g3, g2, g1]
            rfl
          rw [← ee] at hP
          exact W.vret hx hb hr (fun tt ht hW => ⟨⟨(_, _), rfl, trivial, by dsimp only; rw [ht]; exact hP⟩, hS.F ht⟩) hS.2.2 dX1_divide_89
    · skip
      refine lv_aload_n hx hb dX1_divide_41 rfl (lv_at hl 0 rfl) ?_
      refine lv_lload_n hx hb dX1_divide_42 rfl (lv_at hl 1 rfl) ?_
      refine lv_lload_n hx hb dX1_divide_43 rfl (lv_at hl 2 rfl) ?_
      refine lv_ldc2 (v := (-1)) hx hb hown (hts (.constantLong RX1 119 (-1)) (by decide +kernel)) dX1_divide_44 ?_
      refine rr_wv (wr := []) [0, 1, 2] [] (va_runV (As := [.long x1, .long x2, .long ((-1))]) (rest := []) ⟨hx, hb, hml, hown, hts⟩ (c_X1_takeQuotients l D h0 qT qS H.size cA f n t lo hi z2.1 z2.2 x1 x2 (-1)) (cwV 3 hts gX1_divide_X1_takeQuotients rfl rfl rfl (by decide +kernel) ⟨Nat.le_of_ble_eq_true rfl, Nat.le_of_ble_eq_true rfl⟩) (rr_vN hN hK hP hD (va_recv hK hP (ci := 1) (q0 := 0) rfl rfl)) rfl rfl hl.1 rfl (lv_room (Nat.le_of_ble_eq_true rfl)) dX1_divide_47 ⟨Nat.le_of_ble_eq_true rfl, Nat.le_of_ble_eq_true rfl⟩) hS hA hP hD rfl rfl (by decide) (by decide) (by decide) (fun _ => by simp only [rr_wx, rr_wm, List.map_cons, List.map_nil]) (fun u47 H locs e47 hP hD hS => ?_)
      have hP : va_P D vwCl [(h0, .inr (1, [.ref qT, .int (nI n), .int (nI t), .int lo, .int hi, .ref qS])), (qT, .inl (cA, 187, .inl f)), (qS, .inr (0, [.long ((rr_qm (decide (¬ ((-1) : Int64) = 0)) x1 x2 (-1) (z2.1, z2.2)).1), .long ((rr_qm (decide (¬ ((-1) : Int64) = 0)) x1 x2 (-1) (z2.1, z2.2)).2)]))] H := hP
      have hD : va_D A [(h0, .inr (1, [.ref qT, .int (nI n), .int (nI t), .int lo, .int hi, .ref qS])), (qT, .inl (cA, 187, .inl f)), (qS, .inr (0, [.long ((rr_qm (decide (¬ ((-1) : Int64) = 0)) x1 x2 (-1) (z2.1, z2.2)).1), .long ((rr_qm (decide (¬ ((-1) : Int64) = 0)) x1 x2 (-1) (z2.1, z2.2)).2)]))] := hD
      obtain ⟨z3, g3⟩ : ∃ z, z = (rr_qm (decide (¬ ((-1) : Int64) = 0)) x1 x2 (-1) (z2.1, z2.2)) := ⟨_, rfl⟩
      rw [← g3] at hP hD
      have hP : va_P D vwCl [(h0, .inr (1, [.ref qT, .int (nI n), .int (nI t), .int lo, .int hi, .ref qS])), (qT, .inl (cA, 187, .inl f)), (qS, .inr (0, [.long z3.1, .long z3.2]))] H := hP
      have hD : va_D A [(h0, .inr (1, [.ref qT, .int (nI n), .int (nI t), .int lo, .int hi, .ref qS])), (qT, .inl (cA, 187, .inl f)), (qS, .inr (0, [.long z3.1, .long z3.2]))] := hD
      refine lv_lload hx hb dX1_divide_50 (lv_at hl 3 rfl) ?_
      refine lv_lconst (v := 1) hx hb dX1_divide_52 (by decide) ?_
      refine W.lcmp hx hb dX1_divide_53 ?_
      refine lv_if_gt (tgt := 71) hx hb dX1_divide_54 (by decide) (fun c54 => ?_) (fun c54 => ?_)
      · skip
        refine lv_aload_n hx hb dX1_divide_71 rfl (lv_at hl 0 rfl) ?_
        refine lv_aload_n hx hb dX1_divide_72 rfl (lv_at hl 0 rfl) ?_
        refine va_get (D := D) (ci := 1) (v := .ref qS) (C := RX1) (T := TX1) (N := 6) hx hb hts hiX1 hown hK hP 0 rfl rfl 5 (by decide) (hts (.fieldLink RX1 38 "RangeRules" "span" "LRangeRules$Span;") (by decide +kernel)) (fun _ h9 => h9) rfl dX1_divide_73 ?_
        refine va_getN (D := D) (ci := 0) (v := .long z3.1) (C := RX0) (T := TX0) (N := 2) hx hb hts hiX0 hown hK hP 2 rfl rfl 0 (by decide) (va_Nw.use rfl hN.2.2.1) (fun _ h9 => h9) rfl dX1_divide_76 ?_
        refine lv_aload_n hx hb dX1_divide_79 rfl (lv_at hl 0 rfl) ?_
        refine va_get (D := D) (ci := 1) (v := .ref qS) (C := RX1) (T := TX1) (N := 6) hx hb hts hiX1 hown hK hP 0 rfl rfl 5 (by decide) (hts (.fieldLink RX1 38 "RangeRules" "span" "LRangeRules$Span;") (by decide +kernel)) (fun _ h9 => h9) rfl dX1_divide_80 ?_
        refine va_getN (D := D) (ci := 0) (v := .long z3.2) (C := RX0) (T := TX0) (N := 2) hx hb hts hiX0 hown hK hP 2 rfl rfl 1 (by decide) (va_Nw.use rfl hN.2.2.2) (fun _ h9 => h9) rfl dX1_divide_83 ?_
        refine rr_wv (wr := []) [0, 1, 2] [] (va_runV (As := [.long z3.1, .long z3.2]) (rest := []) ⟨hx, hb, hml, hown, hts⟩ (c_X1_tell l D h0 qT qS H.size cA f n t lo hi z3.1 z3.2 z3.1 z3.2 hn) (cwV 2 hts gX1_divide_X1_tell rfl rfl rfl (by decide +kernel) ⟨Nat.le_of_ble_eq_true rfl, Nat.le_of_ble_eq_true rfl⟩) (rr_vW hK hP hD (va_recv hK hP (ci := 1) (q0 := 0) rfl rfl)) rfl rfl hl.1 rfl (lv_room (Nat.le_of_ble_eq_true rfl)) dX1_divide_86 ⟨Nat.le_of_ble_eq_true rfl, Nat.le_of_ble_eq_true rfl⟩) hS hA hP hD rfl rfl (by decide) (by decide) (by decide) (fun _ => by simp only [rr_wx, rr_wm, List.map_cons, List.map_nil]) (fun u86 H locs e86 hP hD hS => ?_)
        have hP : va_P D vwCl [(h0, .inr (1, [.ref qT, .int (nI n), .int (nI t), .int ((rr_tl f n z3.1 z3.2).1), .int ((rr_tl f n z3.1 z3.2).2), .ref qS])), (qT, .inl (cA, 187, .inl f)), (qS, .inr (0, [.long z3.1, .long z3.2]))] H := hP
        have hD : va_D A [(h0, .inr (1, [.ref qT, .int (nI n), .int (nI t), .int ((rr_tl f n z3.1 z3.2).1), .int ((rr_tl f n z3.1 z3.2).2), .ref qS])), (qT, .inl (cA, 187, .inl f)), (qS, .inr (0, [.long z3.1, .long z3.2]))] := hD
        have ee : (rr_qs x1 x2 x3 x4) = z3 := by
          rw [rr_qs_x hmn]
          rw [show rr_qc x3 x4 (-1) = decide (¬ (-1 : Int64) = 0) from rr_qc_in (by decide) (Int64.not_lt.mp (fun z => c29 ((lg_cmp_gt _ _).mpr z))) (Int64.not_lt.mp (fun z => c38 ((lg_cmp_lt _ _).mpr z)))]
          rw [show rr_qc x3 x4 (1) = false from rr_qc_lo ((lg_cmp_gt _ _).mp c54)]
          simp only [rr_qm_no]
          rw [g3, g2, g1]
          rfl
        rw [← ee] at hP
        exact W.vret hx hb hr (fun tt ht hW => ⟨⟨(_, _), rfl, trivial, by dsimp only; rw [ht]; exact hP⟩, hS.F ht⟩) hS.2.2 dX1_divide_89
      · skip
        refine lv_lload hx hb dX1_divide_57 (lv_at hl 4 rfl) ?_
        refine lv_lconst (v := 1) hx hb dX1_divide_59 (by decide) ?_
        refine W.lcmp hx hb dX1_divide_60 ?_
        refine lv_if_lt (tgt := 71) hx hb dX1_divide_61 (by decide) (fun c61 => ?_) (fun c61 => ?_)
        · skip
          refine lv_aload_n hx hb dX1_divide_71 rfl (lv_at hl 0 rfl) ?_
          refine lv_aload_n hx hb dX1_divide_72 rfl (lv_at hl 0 rfl) ?_
          refine va_get (D := D) (ci := 1) (v := .ref qS) (C := RX1) (T := TX1) (N := 6) hx hb hts hiX1 hown hK hP 0 rfl rfl 5 (by decide) (hts (.fieldLink RX1 38 "RangeRules" "span" "LRangeRules$Span;") (by decide +kernel)) (fun _ h9 => h9) rfl dX1_divide_73 ?_
          refine va_getN (D := D) (ci := 0) (v := .long z3.1) (C := RX0) (T := TX0) (N := 2) hx hb hts hiX0 hown hK hP 2 rfl rfl 0 (by decide) (va_Nw.use rfl hN.2.2.1) (fun _ h9 => h9) rfl dX1_divide_76 ?_
          refine lv_aload_n hx hb dX1_divide_79 rfl (lv_at hl 0 rfl) ?_
          refine va_get (D := D) (ci := 1) (v := .ref qS) (C := RX1) (T := TX1) (N := 6) hx hb hts hiX1 hown hK hP 0 rfl rfl 5 (by decide) (hts (.fieldLink RX1 38 "RangeRules" "span" "LRangeRules$Span;") (by decide +kernel)) (fun _ h9 => h9) rfl dX1_divide_80 ?_
          refine va_getN (D := D) (ci := 0) (v := .long z3.2) (C := RX0) (T := TX0) (N := 2) hx hb hts hiX0 hown hK hP 2 rfl rfl 1 (by decide) (va_Nw.use rfl hN.2.2.2) (fun _ h9 => h9) rfl dX1_divide_83 ?_
          refine rr_wv (wr := []) [0, 1, 2] [] (va_runV (As := [.long z3.1, .long z3.2]) (rest := []) ⟨hx, hb, hml, hown, hts⟩ (c_X1_tell l D h0 qT qS H.size cA f n t lo hi z3.1 z3.2 z3.1 z3.2 hn) (cwV 2 hts gX1_divide_X1_tell rfl rfl rfl (by decide +kernel) ⟨Nat.le_of_ble_eq_true rfl, Nat.le_of_ble_eq_true rfl⟩) (rr_vW hK hP hD (va_recv hK hP (ci := 1) (q0 := 0) rfl rfl)) rfl rfl hl.1 rfl (lv_room (Nat.le_of_ble_eq_true rfl)) dX1_divide_86 ⟨Nat.le_of_ble_eq_true rfl, Nat.le_of_ble_eq_true rfl⟩) hS hA hP hD rfl rfl (by decide) (by decide) (by decide) (fun _ => by simp only [rr_wx, rr_wm, List.map_cons, List.map_nil]) (fun u86 H locs e86 hP hD hS => ?_)
          have hP : va_P D vwCl [(h0, .inr (1, [.ref qT, .int (nI n), .int (nI t), .int ((rr_tl f n z3.1 z3.2).1), .int ((rr_tl f n z3.1 z3.2).2), .ref qS])), (qT, .inl (cA, 187, .inl f)), (qS, .inr (0, [.long z3.1, .long z3.2]))] H := hP
          have hD : va_D A [(h0, .inr (1, [.ref qT, .int (nI n), .int (nI t), .int ((rr_tl f n z3.1 z3.2).1), .int ((rr_tl f n z3.1 z3.2).2), .ref qS])), (qT, .inl (cA, 187, .inl f)), (qS, .inr (0, [.long z3.1, .long z3.2]))] := hD
          have ee : (rr_qs x1 x2 x3 x4) = z3 := by
            rw [rr_qs_x hmn]
            rw [show rr_qc x3 x4 (-1) = decide (¬ (-1 : Int64) = 0) from rr_qc_in (by decide) (Int64.not_lt.mp (fun z => c29 ((lg_cmp_gt _ _).mpr z))) (Int64.not_lt.mp (fun z => c38 ((lg_cmp_lt _ _).mpr z)))]
            rw [show rr_qc x3 x4 (1) = false from rr_qc_hi ((lg_cmp_lt _ _).mp c61)]
            simp only [rr_qm_no]
            rw [g3, g2, g1]
            rfl
          rw [← ee] at hP
          exact W.vret hx hb hr (fun tt ht hW => ⟨⟨(_, _), rfl, trivial, by dsimp only; rw [ht]; exact hP⟩, hS.F ht⟩) hS.2.2 dX1_divide_89
        · skip
          refine lv_aload_n hx hb dX1_divide_64 rfl (lv_at hl 0 rfl) ?_
          refine lv_lload_n hx hb dX1_divide_65 rfl (lv_at hl 1 rfl) ?_
          refine lv_lload_n hx hb dX1_divide_66 rfl (lv_at hl 2 rfl) ?_
          refine lv_lconst (v := 1) hx hb dX1_divide_67 (by decide) ?_
          refine rr_wv (wr := []) [0, 1, 2] [] (va_runV (As := [.long x1, .long x2, .long 1]) (rest := []) ⟨hx, hb, hml, hown, hts⟩ (c_X1_takeQuotients l D h0 qT qS H.size cA f n t lo hi z3.1 z3.2 x1 x2 1) (cwV 3 hts gX1_divide_X1_takeQuotients rfl rfl rfl (by decide +kernel) ⟨Nat.le_of_ble_eq_true rfl, Nat.le_of_ble_eq_true rfl⟩) (rr_vN hN hK hP hD (va_recv hK hP (ci := 1) (q0 := 0) rfl rfl)) rfl rfl hl.1 rfl (lv_room (Nat.le_of_ble_eq_true rfl)) dX1_divide_68 ⟨Nat.le_of_ble_eq_true rfl, Nat.le_of_ble_eq_true rfl⟩) hS hA hP hD rfl rfl (by decide) (by decide) (by decide) (fun _ => by simp only [rr_wx, rr_wm, List.map_cons, List.map_nil]) (fun u68 H locs e68 hP hD hS => ?_)
          have hP : va_P D vwCl [(h0, .inr (1, [.ref qT, .int (nI n), .int (nI t), .int lo, .int hi, .ref qS])), (qT, .inl (cA, 187, .inl f)), (qS, .inr (0, [.long ((rr_qm (decide (¬ (1 : Int64) = 0)) x1 x2 1 (z3.1, z3.2)).1), .long ((rr_qm (decide (¬ (1 : Int64) = 0)) x1 x2 1 (z3.1, z3.2)).2)]))] H := hP
          have hD : va_D A [(h0, .inr (1, [.ref qT, .int (nI n), .int (nI t), .int lo, .int hi, .ref qS])), (qT, .inl (cA, 187, .inl f)), (qS, .inr (0, [.long ((rr_qm (decide (¬ (1 : Int64) = 0)) x1 x2 1 (z3.1, z3.2)).1), .long ((rr_qm (decide (¬ (1 : Int64) = 0)) x1 x2 1 (z3.1, z3.2)).2)]))] := hD
          obtain ⟨z4, g4⟩ : ∃ z, z = (rr_qm (decide (¬ (1 : Int64) = 0)) x1 x2 1 (z3.1, z3.2)) := ⟨_, rfl⟩
          rw [← g4] at hP hD
          have hP : va_P D vwCl [(h0, .inr (1, [.ref qT, .int (nI n), .int (nI t), .int lo, .int hi, .ref qS])), (qT, .inl (cA, 187, .inl f)), (qS, .inr (0, [.long z4.1, .long z4.2]))] H := hP
          have hD : va_D A [(h0, .inr (1, [.ref qT, .int (nI n), .int (nI t), .int lo, .int hi, .ref qS])), (qT, .inl (cA, 187, .inl f)), (qS, .inr (0, [.long z4.1, .long z4.2]))] := hD
          refine lv_aload_n hx hb dX1_divide_71 rfl (lv_at hl 0 rfl) ?_
          refine lv_aload_n hx hb dX1_divide_72 rfl (lv_at hl 0 rfl) ?_
          refine va_get (D := D) (ci := 1) (v := .ref qS) (C := RX1) (T := TX1) (N := 6) hx hb hts hiX1 hown hK hP 0 rfl rfl 5 (by decide) (hts (.fieldLink RX1 38 "RangeRules" "span" "LRangeRules$Span;") (by decide +kernel)) (fun _ h9 => h9) rfl dX1_divide_73 ?_
          refine va_getN (D := D) (ci := 0) (v := .long z4.1) (C := RX0) (T := TX0) (N := 2) hx hb hts hiX0 hown hK hP 2 rfl rfl 0 (by decide) (va_Nw.use rfl hN.2.2.1) (fun _ h9 => h9) rfl dX1_divide_76 ?_
          refine lv_aload_n hx hb dX1_divide_79 rfl (lv_at hl 0 rfl) ?_
          refine va_get (D := D) (ci := 1) (v := .ref qS) (C := RX1) (T := TX1) (N := 6) hx hb hts hiX1 hown hK hP 0 rfl rfl 5 (by decide) (hts (.fieldLink RX1 38 "RangeRules" "span" "LRangeRules$Span;") (by decide +kernel)) (fun _ h9 => h9) rfl dX1_divide_80 ?_
          refine va_getN (D := D) (ci := 0) (v := .long z4.2) (C := RX0) (T := TX0) (N := 2) hx hb hts hiX0 hown hK hP 2 rfl rfl 1 (by decide) (va_Nw.use rfl hN.2.2.2) (fun _ h9 => h9) rfl dX1_divide_83 ?_
          refine rr_wv (wr := []) [0, 1, 2] [] (va_runV (As := [.long z4.1, .long z4.2]) (rest := []) ⟨hx, hb, hml, hown, hts⟩ (c_X1_tell l D h0 qT qS H.size cA f n t lo hi z4.1 z4.2 z4.1 z4.2 hn) (cwV 2 hts gX1_divide_X1_tell rfl rfl rfl (by decide +kernel) ⟨Nat.le_of_ble_eq_true rfl, Nat.le_of_ble_eq_true rfl⟩) (rr_vW hK hP hD (va_recv hK hP (ci := 1) (q0 := 0) rfl rfl)) rfl rfl hl.1 rfl (lv_room (Nat.le_of_ble_eq_true rfl)) dX1_divide_86 ⟨Nat.le_of_ble_eq_true rfl, Nat.le_of_ble_eq_true rfl⟩) hS hA hP hD rfl rfl (by decide) (by decide) (by decide) (fun _ => by simp only [rr_wx, rr_wm, List.map_cons, List.map_nil]) (fun u86 H locs e86 hP hD hS => ?_)
          have hP : va_P D vwCl [(h0, .inr (1, [.ref qT, .int (nI n), .int (nI t), .int ((rr_tl f n z4.1 z4.2).1), .int ((rr_tl f n z4.1 z4.2).2), .ref qS])), (qT, .inl (cA, 187, .inl f)), (qS, .inr (0, [.long z4.1, .long z4.2]))] H := hP
          have hD : va_D A [(h0, .inr (1, [.ref qT, .int (nI n), .int (nI t), .int ((rr_tl f n z4.1 z4.2).1), .int ((rr_tl f n z4.1 z4.2).2), .ref qS])), (qT, .inl (cA, 187, .inl f)), (qS, .inr (0, [.long z4.1, .long z4.2]))] := hD
          have ee : (rr_qs x1 x2 x3 x4) = z4 := by
            rw [rr_qs_x hmn]
            rw [show rr_qc x3 x4 (-1) = decide (¬ (-1 : Int64) = 0) from rr_qc_in (by decide) (Int64.not_lt.mp (fun z => c29 ((lg_cmp_gt _ _).mpr z))) (Int64.not_lt.mp (fun z => c38 ((lg_cmp_lt _ _).mpr z)))]
            rw [show rr_qc x3 x4 (1) = decide (¬ (1 : Int64) = 0) from rr_qc_in (by decide) (Int64.not_lt.mp (fun z => c54 ((lg_cmp_gt _ _).mpr z))) (Int64.not_lt.mp (fun z => c61 ((lg_cmp_lt _ _).mpr z)))]
            rw [g4, g3, g2, g1]
            rfl
          rw [← ee] at hP
          exact W.vret hx hb hr (fun tt ht hW => ⟨⟨(_, _), rfl, trivial, by dsimp only; rw [ht]; exact hP⟩, hS.F ht⟩) hS.2.2 dX1_divide_89
set_option maxHeartbeats 1000000 in
set_option maxRecDepth 100000 in
/-- rest(x, y, z, w) -/
theorem c_X1_rest (l : Launch) (D : va_G) (h0 qT qS sz : Nat) (cA : ClassId) (f : Nat → Int32) (n t : Nat) (lo hi : Int32) (a b : Int64) (x1 x2 x3 x4 : Int64) (hn : n ≤ 187) : Met l yX1_rest wsX1_rest ({ frames := 2, cells := 0, slots := 0, locals := 54 }) (rr_pW D (rr_wx h0 qT qS cA f n t lo hi a b) [(cA, .int)] [.ref h0, .long x1, .long x2, .long x3, .long x4] sz) (va_Qv (fun (_ : Unit) => True) (fun _ tt => va_P D vwCl (rr_wx h0 qT qS cA f n t (rr_tl f n (rr_rs x1 x2 x3 x4).1 (rr_rs x1 x2 x3 x4).2).1 (rr_tl f n (rr_rs x1 x2 x3 x4).1 (rr_rs x1 x2 x3 x4).2).2 a b) tt.heap) (va_A (rr_wx h0 qT qS cA f n t lo hi a b) sz)) 0 0 (va_A (rr_wx h0 qT qS cA f n t lo hi a b) sz) := by
  refine Met.ofW (cc := cX1_rest) (maxL := 11) (ret := none) (by decide) rfl ?_
  intro p e s m args below meth c s₁ B hml hv
  obtain ⟨rfl, hsz, hP, hK, hD0⟩ := hv
  have hx := B.exec
  have hb := B.bytes
  have hr := B.returns
  have hts := atoms_spec (ws := wsX1_rest) B.pre
  have hown : s.vm.findClass RX1 = some m.cls := findClass_of_methodNamed B.named
  have hlocks := B.notSynchronized
  subst hsz
  have hD := hD0.self (sz := s.heap.size)
  generalize hAe : va_A [(h0, .inr (1, [.ref qT, .int (nI n), .int (nI t), .int lo, .int hi, .ref qS])), (qT, .inl (cA, 187, .inl f)), (qS, .inr (0, [.long a, .long b]))] s.heap.size = A at hD ⊢
  have hA : ∀ q : Nat, s.heap.size ≤ q → A q := fun q h => by rw [← hAe]; exact Or.inr h
  have hS : va_S A s.heap s.heap [] := va_S.rf
  have hP : va_P D vwCl [(h0, .inr (1, [.ref qT, .int (nI n), .int (nI t), .int lo, .int hi, .ref qS])), (qT, .inl (cA, 187, .inl f)), (qS, .inr (0, [.long a, .long b]))] s.heap := hP
  have hiX1 : ∀ w ∈ wsX10, w ∈ wsX1_rest := by decide +kernel
  have hl := lv_entry ([.ref h0, .long x1, .long x2, .long x3, .long x4]) (n := 11) (Nat.le_of_ble_eq_true rfl)
  rw [lg_entry_eq]
  generalize (lg_sl ([.ref h0, .long x1, .long x2, .long x3, .long x4]) ++ List.replicate (11 - (lg_sl ([.ref h0, .long x1, .long x2, .long x3, .long x4])).length) Slot.unset).toArray = ls at hl ⊢
  have hl : lv_has ls 11 [(0, .ref h0), (1, .long x1), (3, .long x2), (5, .long x3), (7, .long x4)] := hl
  refine lv_lload hx hb dX1_rest_0 (lv_at hl 3 rfl) ?_
  refine va_mabs_long hx hb (hml.trans hl.1.symm) hown (hts (.methodLink RX1 121 Lib.MathLoose.abs_long.x) (by decide +kernel)) (hts (.static Lib.MathLoose.abs_long.x) (by decide +kernel)) (hts (.initialized "java/lang/Math") (by decide +kernel)) (hts (.code Lib.MathLoose.abs_long.x Lib.MathLoose.abs_long.code 2 (some .long)) (by decide +kernel)) (Nat.le_of_ble_eq_true rfl) (Nat.le_of_ble_eq_true rfl) (Nat.le_of_ble_eq_true rfl) (Nat.le_of_ble_eq_true rfl) dX1_rest_2 ?_
  refine W.eq (g2 := F0 m 5 ls [.long (rr_ab x3)]) rfl ?_
  refine lv_lload hx hb dX1_rest_5 (lv_at hl 4 rfl) ?_
  refine va_mabs_long hx hb (hml.trans hl.1.symm) hown (hts (.methodLink RX1 121 Lib.MathLoose.abs_long.x) (by decide +kernel)) (hts (.static Lib.MathLoose.abs_long.x) (by decide +kernel)) (hts (.initialized "java/lang/Math") (by decide +kernel)) (hts (.code Lib.MathLoose.abs_long.x Lib.MathLoose.abs_long.code 2 (some .long)) (by decide +kernel)) (Nat.le_of_ble_eq_true rfl) (Nat.le_of_ble_eq_true rfl) (Nat.le_of_ble_eq_true rfl) (Nat.le_of_ble_eq_true rfl) dX1_rest_7 ?_
  refine W.eq (g2 := F0 m 10 ls [.long (rr_ab x4), .long (rr_ab x3)]) rfl ?_
  refine va_mmax_long hx hb (hml.trans hl.1.symm) hown (hts (.methodLink RX1 127 Lib.MathLoose.max_long.x) (by decide +kernel)) (hts (.static Lib.MathLoose.max_long.x) (by decide +kernel)) (hts (.initialized "java/lang/Math") (by decide +kernel)) (hts (.code Lib.MathLoose.max_long.x Lib.MathLoose.max_long.code 4 (some .long)) (by decide +kernel)) (Nat.le_of_ble_eq_true rfl) (Nat.le_of_ble_eq_true rfl) (Nat.le_of_ble_eq_true rfl) (Nat.le_of_ble_eq_true rfl) dX1_rest_10 ?_
  refine W.eq (g2 := F0 m 13 ls [.long (rr_mx (rr_ab x3) (rr_ab x4))]) rfl ?_
  refine lv_lconst (v := 1) hx hb dX1_rest_13 (by decide) ?_
  refine lv_lsub hx hb dX1_rest_14 ?_
  refine lv_lstore (lv' := [(9, .long ((rr_mx (rr_ab x3) (rr_ab x4)) - 1)), (0, .ref h0), (1, .long x1), (3, .long x2), (5, .long x3), (7, .long x4)]) hx hb dX1_rest_15 hl (by decide) rfl (fun ls hl => ?_)
  refine lv_lload_n hx hb dX1_rest_17 rfl (lv_at hl 2 rfl) ?_
  refine lv_lconst (v := 0) hx hb dX1_rest_18 (by decide) ?_
  refine W.lcmp hx hb dX1_rest_19 ?_
  refine lv_if_lt (tgt := 37) hx hb dX1_rest_20 (by decide) (fun c20 => ?_) (fun c20 => ?_)
  · skip
    refine lv_lload_n hx hb dX1_rest_37 rfl (lv_at hl 3 rfl) ?_
    refine lv_lconst (v := 0) hx hb dX1_rest_38 (by decide) ?_
    refine W.lcmp hx hb dX1_rest_39 ?_
    refine lv_if_gt (tgt := 58) hx hb dX1_rest_40 (by decide) (fun c40 => ?_) (fun c40 => ?_)
    · skip
      refine lv_aload_n hx hb dX1_rest_58 rfl (lv_at hl 1 rfl) ?_
      refine lv_lload_n hx hb dX1_rest_59 rfl (lv_at hl 2 rfl) ?_
      refine lv_lload hx hb dX1_rest_60 (lv_at hl 0 rfl) ?_
      refine lv_lneg hx hb dX1_rest_62 ?_
      refine va_mmax_long hx hb (hml.trans hl.1.symm) hown (hts (.methodLink RX1 127 Lib.MathLoose.max_long.x) (by decide +kernel)) (hts (.static Lib.MathLoose.max_long.x) (by decide +kernel)) (hts (.initialized "java/lang/Math") (by decide +kernel)) (hts (.code Lib.MathLoose.max_long.x Lib.MathLoose.max_long.code 4 (some .long)) (by decide +kernel)) (Nat.le_of_ble_eq_true rfl) (Nat.le_of_ble_eq_true rfl) (Nat.le_of_ble_eq_true rfl) (Nat.le_of_ble_eq_true rfl) dX1_rest_63 ?_
      refine W.eq (g2 := F0 m 66 ls [.long (rr_mx x1 (-((rr_mx (rr_ab x3) (rr_ab x4)) - 1))), .ref h0]) rfl ?_
      refine lv_lload_n hx hb dX1_rest_66 rfl (lv_at hl 3 rfl) ?_
      refine lv_lload hx hb dX1_rest_67 (lv_at hl 0 rfl) ?_
      refine va_mmin_long hx hb (hml.trans hl.1.symm) hown (hts (.methodLink RX1 131 Lib.MathLoose.min_long.x) (by decide +kernel)) (hts (.static Lib.MathLoose.min_long.x) (by decide +kernel)) (hts (.initialized "java/lang/Math") (by decide +kernel)) (hts (.code Lib.MathLoose.min_long.x Lib.MathLoose.min_long.code 4 (some .long)) (by decide +kernel)) (Nat.le_of_ble_eq_true rfl) (Nat.le_of_ble_eq_true rfl) (Nat.le_of_ble_eq_true rfl) (Nat.le_of_ble_eq_true rfl) dX1_rest_69 ?_
      refine W.eq (g2 := F0 m 72 ls [.long (rr_mn x2 ((rr_mx (rr_ab x3) (rr_ab x4)) - 1)), .long (rr_mx x1 (-((rr_mx (rr_ab x3) (rr_ab x4)) - 1))), .ref h0]) rfl ?_
      refine rr_wv (wr := []) [0, 1, 2] [] (va_runV (As := [.long (rr_mx x1 (-((rr_mx (rr_ab x3) (rr_ab x4)) - 1))), .long (rr_mn x2 ((rr_mx (rr_ab x3) (rr_ab x4)) - 1))]) (rest := []) ⟨hx, hb, hml, hown, hts⟩ (c_X1_tell l D h0 qT qS s.heap.size cA f n t lo hi a b (rr_mx x1 (-((rr_mx (rr_ab x3) (rr_ab x4)) - 1))) (rr_mn x2 ((rr_mx (rr_ab x3) (rr_ab x4)) - 1)) hn) (cwV 2 hts gX1_rest_X1_tell rfl rfl rfl (by decide +kernel) ⟨Nat.le_of_ble_eq_true rfl, Nat.le_of_ble_eq_true rfl⟩) (rr_vW hK hP hD (va_recv hK hP (ci := 1) (q0 := 0) rfl rfl)) rfl rfl hl.1 rfl (lv_room (Nat.le_of_ble_eq_true rfl)) dX1_rest_72 ⟨Nat.le_of_ble_eq_true rfl, Nat.le_of_ble_eq_true rfl⟩) hS hA hP hD rfl rfl (by decide) (by decide) (by decide) (fun _ => by simp only [rr_wx, rr_wm, List.map_cons, List.map_nil]) (fun u72 H locs e72 hP hD hS => ?_)
      have hP : va_P D vwCl [(h0, .inr (1, [.ref qT, .int (nI n), .int (nI t), .int ((rr_tl f n (rr_mx x1 (-((rr_mx (rr_ab x3) (rr_ab x4)) - 1))) (rr_mn x2 ((rr_mx (rr_ab x3) (rr_ab x4)) - 1))).1), .int ((rr_tl f n (rr_mx x1 (-((rr_mx (rr_ab x3) (rr_ab x4)) - 1))) (rr_mn x2 ((rr_mx (rr_ab x3) (rr_ab x4)) - 1))).2), .ref qS])), (qT, .inl (cA, 187, .inl f)), (qS, .inr (0, [.long a, .long b]))] H := hP
      have hD : va_D A [(h0, .inr (1, [.ref qT, .int (nI n), .int (nI t), .int ((rr_tl f n (rr_mx x1 (-((rr_mx (rr_ab x3) (rr_ab x4)) - 1))) (rr_mn x2 ((rr_mx (rr_ab x3) (rr_ab x4)) - 1))).1), .int ((rr_tl f n (rr_mx x1 (-((rr_mx (rr_ab x3) (rr_ab x4)) - 1))) (rr_mn x2 ((rr_mx (rr_ab x3) (rr_ab x4)) - 1))).2), .ref qS])), (qT, .inl (cA, 187, .inl f)), (qS, .inr (0, [.long a, .long b]))] := hD
      have ee : (rr_rs x1 x2 x3 x4) = (rr_mx x1 (-(rr_mx (rr_ab x3) (rr_ab x4) - 1)), rr_mn x2 (rr_mx (rr_ab x3) (rr_ab x4) - 1)) := (if_neg (Int64.not_le.mpr ((lg_cmp_lt _ _).mp c20))).trans (if_neg (Int64.not_le.mpr ((lg_cmp_gt _ _).mp c40)))
      exact W.vret hx hb hr (fun tt ht hW => ⟨⟨(), rfl, trivial, by dsimp only; rw [ht, ee]; exact hP⟩, hS.F ht⟩) hS.2.2 dX1_rest_75
    · skip
      refine lv_aload_n hx hb dX1_rest_43 rfl (lv_at hl 1 rfl) ?_
      refine lv_lload_n hx hb dX1_rest_44 rfl (lv_at hl 2 rfl) ?_
      refine lv_lload hx hb dX1_rest_45 (lv_at hl 0 rfl) ?_
      refine lv_lneg hx hb dX1_rest_47 ?_
      refine va_mmax_long hx hb (hml.trans hl.1.symm) hown (hts (.methodLink RX1 127 Lib.MathLoose.max_long.x) (by decide +kernel)) (hts (.static Lib.MathLoose.max_long.x) (by decide +kernel)) (hts (.initialized "java/lang/Math") (by decide +kernel)) (hts (.code Lib.MathLoose.max_long.x Lib.MathLoose.max_long.code 4 (some .long)) (by decide +kernel)) (Nat.le_of_ble_eq_true rfl) (Nat.le_of_ble_eq_true rfl) (Nat.le_of_ble_eq_true rfl) (Nat.le_of_ble_eq_true rfl) dX1_rest_48 ?_
      refine W.eq (g2 := F0 m 51 ls [.long (rr_mx x1 (-((rr_mx (rr_ab x3) (rr_ab x4)) - 1))), .ref h0]) rfl ?_
      refine lv_lconst (v := 0) hx hb dX1_rest_51 (by decide) ?_
      refine rr_wv (wr := []) [0, 1, 2] [] (va_runV (As := [.long (rr_mx x1 (-((rr_mx (rr_ab x3) (rr_ab x4)) - 1))), .long 0]) (rest := []) ⟨hx, hb, hml, hown, hts⟩ (c_X1_tell l D h0 qT qS s.heap.size cA f n t lo hi a b (rr_mx x1 (-((rr_mx (rr_ab x3) (rr_ab x4)) - 1))) 0 hn) (cwV 2 hts gX1_rest_X1_tell rfl rfl rfl (by decide +kernel) ⟨Nat.le_of_ble_eq_true rfl, Nat.le_of_ble_eq_true rfl⟩) (rr_vW hK hP hD (va_recv hK hP (ci := 1) (q0 := 0) rfl rfl)) rfl rfl hl.1 rfl (lv_room (Nat.le_of_ble_eq_true rfl)) dX1_rest_52 ⟨Nat.le_of_ble_eq_true rfl, Nat.le_of_ble_eq_true rfl⟩) hS hA hP hD rfl rfl (by decide) (by decide) (by decide) (fun _ => by simp only [rr_wx, rr_wm, List.map_cons, List.map_nil]) (fun u52 H locs e52 hP hD hS => ?_)
      have hP : va_P D vwCl [(h0, .inr (1, [.ref qT, .int (nI n), .int (nI t), .int ((rr_tl f n (rr_mx x1 (-((rr_mx (rr_ab x3) (rr_ab x4)) - 1))) 0).1), .int ((rr_tl f n (rr_mx x1 (-((rr_mx (rr_ab x3) (rr_ab x4)) - 1))) 0).2), .ref qS])), (qT, .inl (cA, 187, .inl f)), (qS, .inr (0, [.long a, .long b]))] H := hP
      have hD : va_D A [(h0, .inr (1, [.ref qT, .int (nI n), .int (nI t), .int ((rr_tl f n (rr_mx x1 (-((rr_mx (rr_ab x3) (rr_ab x4)) - 1))) 0).1), .int ((rr_tl f n (rr_mx x1 (-((rr_mx (rr_ab x3) (rr_ab x4)) - 1))) 0).2), .ref qS])), (qT, .inl (cA, 187, .inl f)), (qS, .inr (0, [.long a, .long b]))] := hD
      refine lv_goto (tgt := 75) hx hb dX1_rest_55 (by decide) ?_
      have ee : (rr_rs x1 x2 x3 x4) = (rr_mx x1 (-(rr_mx (rr_ab x3) (rr_ab x4) - 1)), 0) := (if_neg (Int64.not_le.mpr ((lg_cmp_lt _ _).mp c20))).trans (if_pos (Int64.not_lt.mp (fun z => c40 ((lg_cmp_gt _ _).mpr z))))
      exact W.vret hx hb hr (fun tt ht hW => ⟨⟨(), rfl, trivial, by dsimp only; rw [ht, ee]; exact hP⟩, hS.F ht⟩) hS.2.2 dX1_rest_75
  · skip
    refine lv_aload_n hx hb dX1_rest_23 rfl (lv_at hl 1 rfl) ?_
    refine lv_lconst (v := 0) hx hb dX1_rest_24 (by decide) ?_
    refine lv_lload_n hx hb dX1_rest_25 rfl (lv_at hl 3 rfl) ?_
    refine lv_lload hx hb dX1_rest_26 (lv_at hl 0 rfl) ?_
    refine va_mmin_long hx hb (hml.trans hl.1.symm) hown (hts (.methodLink RX1 131 Lib.MathLoose.min_long.x) (by decide +kernel)) (hts (.static Lib.MathLoose.min_long.x) (by decide +kernel)) (hts (.initialized "java/lang/Math") (by decide +kernel)) (hts (.code Lib.MathLoose.min_long.x Lib.MathLoose.min_long.code 4 (some .long)) (by decide +kernel)) (Nat.le_of_ble_eq_true rfl) (Nat.le_of_ble_eq_true rfl) (Nat.le_of_ble_eq_true rfl) (Nat.le_of_ble_eq_true rfl) dX1_rest_28 ?_
    refine W.eq (g2 := F0 m 31 ls [.long (rr_mn x2 ((rr_mx (rr_ab x3) (rr_ab x4)) - 1)), .long 0, .ref h0]) rfl ?_
    refine rr_wv (wr := []) [0, 1, 2] [] (va_runV (As := [.long 0, .long (rr_mn x2 ((rr_mx (rr_ab x3) (rr_ab x4)) - 1))]) (rest := []) ⟨hx, hb, hml, hown, hts⟩ (c_X1_tell l D h0 qT qS s.heap.size cA f n t lo hi a b 0 (rr_mn x2 ((rr_mx (rr_ab x3) (rr_ab x4)) - 1)) hn) (cwV 2 hts gX1_rest_X1_tell rfl rfl rfl (by decide +kernel) ⟨Nat.le_of_ble_eq_true rfl, Nat.le_of_ble_eq_true rfl⟩) (rr_vW hK hP hD (va_recv hK hP (ci := 1) (q0 := 0) rfl rfl)) rfl rfl hl.1 rfl (lv_room (Nat.le_of_ble_eq_true rfl)) dX1_rest_31 ⟨Nat.le_of_ble_eq_true rfl, Nat.le_of_ble_eq_true rfl⟩) hS hA hP hD rfl rfl (by decide) (by decide) (by decide) (fun _ => by simp only [rr_wx, rr_wm, List.map_cons, List.map_nil]) (fun u31 H locs e31 hP hD hS => ?_)
    have hP : va_P D vwCl [(h0, .inr (1, [.ref qT, .int (nI n), .int (nI t), .int ((rr_tl f n 0 (rr_mn x2 ((rr_mx (rr_ab x3) (rr_ab x4)) - 1))).1), .int ((rr_tl f n 0 (rr_mn x2 ((rr_mx (rr_ab x3) (rr_ab x4)) - 1))).2), .ref qS])), (qT, .inl (cA, 187, .inl f)), (qS, .inr (0, [.long a, .long b]))] H := hP
    have hD : va_D A [(h0, .inr (1, [.ref qT, .int (nI n), .int (nI t), .int ((rr_tl f n 0 (rr_mn x2 ((rr_mx (rr_ab x3) (rr_ab x4)) - 1))).1), .int ((rr_tl f n 0 (rr_mn x2 ((rr_mx (rr_ab x3) (rr_ab x4)) - 1))).2), .ref qS])), (qT, .inl (cA, 187, .inl f)), (qS, .inr (0, [.long a, .long b]))] := hD
    refine lv_goto (tgt := 75) hx hb dX1_rest_34 (by decide) ?_
    have ee : (rr_rs x1 x2 x3 x4) = (0, rr_mn x2 (rr_mx (rr_ab x3) (rr_ab x4) - 1)) := if_pos (Int64.not_lt.mp (fun z => c20 ((lg_cmp_lt _ _).mpr z)))
    exact W.vret hx hb hr (fun tt ht hW => ⟨⟨(), rfl, trivial, by dsimp only; rw [ht, ee]; exact hP⟩, hS.F ht⟩) hS.2.2 dX1_rest_75
set_option maxHeartbeats 1000000 in
set_option maxRecDepth 100000 in
/-- and(x, y, z, w) -/
theorem c_X1_and (l : Launch) (D : va_G) (h0 qT qS sz : Nat) (cA : ClassId) (f : Nat → Int32) (n t : Nat) (lo hi : Int32) (a b : Int64) (x1 x2 x3 x4 : Int32) (hn : n ≤ 187) : Met l yX1_and wsX1_and ({ frames := 2, cells := 0, slots := 0, locals := 54 }) (rr_pW D (rr_wx h0 qT qS cA f n t lo hi a b) [(cA, .int)] [.ref h0, .int x1, .int x2, .int x3, .int x4] sz) (va_Qv (fun (_ : Unit) => True) (fun _ tt => va_P D vwCl (rr_wx h0 qT qS cA f n t (rr_tl f n (rr_o5 x1 x2 x3 x4).1 (rr_o5 x1 x2 x3 x4).2).1 (rr_tl f n (rr_o5 x1 x2 x3 x4).1 (rr_o5 x1 x2 x3 x4).2).2 a b) tt.heap) (va_A (rr_wx h0 qT qS cA f n t lo hi a b) sz)) 0 0 (va_A (rr_wx h0 qT qS cA f n t lo hi a b) sz) := by
  refine Met.ofW (cc := cX1_and) (maxL := 5) (ret := none) (by decide) rfl ?_
  intro p e s m args below meth c s₁ B hml hv
  obtain ⟨rfl, hsz, hP, hK, hD0⟩ := hv
  have hx := B.exec
  have hb := B.bytes
  have hr := B.returns
  have hts := atoms_spec (ws := wsX1_and) B.pre
  have hown : s.vm.findClass RX1 = some m.cls := findClass_of_methodNamed B.named
  have hlocks := B.notSynchronized
  subst hsz
  have hD := hD0.self (sz := s.heap.size)
  generalize hAe : va_A [(h0, .inr (1, [.ref qT, .int (nI n), .int (nI t), .int lo, .int hi, .ref qS])), (qT, .inl (cA, 187, .inl f)), (qS, .inr (0, [.long a, .long b]))] s.heap.size = A at hD ⊢
  have hA : ∀ q : Nat, s.heap.size ≤ q → A q := fun q h => by rw [← hAe]; exact Or.inr h
  have hS : va_S A s.heap s.heap [] := va_S.rf
  have hP : va_P D vwCl [(h0, .inr (1, [.ref qT, .int (nI n), .int (nI t), .int lo, .int hi, .ref qS])), (qT, .inl (cA, 187, .inl f)), (qS, .inr (0, [.long a, .long b]))] s.heap := hP
  have hiX1 : ∀ w ∈ wsX10, w ∈ wsX1_and := by decide +kernel
  have hl := lv_entry ([.ref h0, .int x1, .int x2, .int x3, .int x4]) (n := 5) (Nat.le_of_ble_eq_true rfl)
  rw [lg_entry_eq]
  generalize (lg_sl ([.ref h0, .int x1, .int x2, .int x3, .int x4]) ++ List.replicate (5 - (lg_sl ([.ref h0, .int x1, .int x2, .int x3, .int x4])).length) Slot.unset).toArray = ls at hl ⊢
  have hl : lv_has ls 5 [(0, .ref h0), (1, .int x1), (2, .int x2), (3, .int x3), (4, .int x4)] := hl
  refine lv_iload_n hx hb dX1_and_0 rfl (lv_at hl 1 rfl) ?_
  refine lv_if_ge (tgt := 15) hx hb dX1_and_1 (by decide) (fun c1 => ?_) (fun c1 => ?_)
  · skip
    refine lv_iload_n hx hb dX1_and_15 rfl (lv_at hl 1 rfl) ?_
    refine lv_if_ge (tgt := 30) hx hb dX1_and_16 (by decide) (fun c16 => ?_) (fun c16 => ?_)
    · skip
      refine lv_iload_n hx hb dX1_and_30 rfl (lv_at hl 3 rfl) ?_
      refine lv_if_ge (tgt := 44) hx hb dX1_and_31 (by decide) (fun c31 => ?_) (fun c31 => ?_)
      · skip
        refine lv_aload_n hx hb dX1_and_44 rfl (lv_at hl 0 rfl) ?_
        refine lv_lconst (v := 0) hx hb dX1_and_45 (by decide) ?_
        refine lv_iload_n hx hb dX1_and_46 rfl (lv_at hl 2 rfl) ?_
        refine lv_iload hx hb dX1_and_47 (lv_at hl 4 rfl) ?_
        refine va_mmin hx hb (hml.trans hl.1.symm) hown (hts (.methodLink RX1 134 Lib.Math.min.name) (by decide +kernel)) (hts (.static Lib.Math.min.name) (by decide +kernel)) (hts (.initialized "java/lang/Math") (by decide +kernel)) (hts (.code Lib.Math.min.name Lib.Math.min.code 2 (some .int)) (by decide +kernel)) (Nat.le_of_ble_eq_true rfl) (Nat.le_of_ble_eq_true rfl) (Nat.le_of_ble_eq_true rfl) (Nat.le_of_ble_eq_true rfl) dX1_and_49 ?_
        refine W.eq (g2 := F0 m 52 ls [.int (rr_ni x2 x4), .long 0, .ref h0]) rfl ?_
        refine lv_i2l (v := (rr_ni x2 x4).toInt64) hx hb dX1_and_52 rfl ?_
        refine rr_wv (wr := []) [0, 1, 2] [] (va_runV (As := [.long 0, .long ((rr_ni x2 x4).toInt64)]) (rest := []) ⟨hx, hb, hml, hown, hts⟩ (c_X1_tell l D h0 qT qS s.heap.size cA f n t lo hi a b 0 ((rr_ni x2 x4).toInt64) hn) (cwV 2 hts gX1_and_X1_tell rfl rfl rfl (by decide +kernel) ⟨Nat.le_of_ble_eq_true rfl, Nat.le_of_ble_eq_true rfl⟩) (rr_vW hK hP hD (va_recv hK hP (ci := 1) (q0 := 0) rfl rfl)) rfl rfl hl.1 rfl (lv_room (Nat.le_of_ble_eq_true rfl)) dX1_and_53 ⟨Nat.le_of_ble_eq_true rfl, Nat.le_of_ble_eq_true rfl⟩) hS hA hP hD rfl rfl (by decide) (by decide) (by decide) (fun _ => by simp only [rr_wx, rr_wm, List.map_cons, List.map_nil]) (fun u53 H locs e53 hP hD hS => ?_)
        have hP : va_P D vwCl [(h0, .inr (1, [.ref qT, .int (nI n), .int (nI t), .int ((rr_tl f n 0 ((rr_ni x2 x4).toInt64)).1), .int ((rr_tl f n 0 ((rr_ni x2 x4).toInt64)).2), .ref qS])), (qT, .inl (cA, 187, .inl f)), (qS, .inr (0, [.long a, .long b]))] H := hP
        have hD : va_D A [(h0, .inr (1, [.ref qT, .int (nI n), .int (nI t), .int ((rr_tl f n 0 ((rr_ni x2 x4).toInt64)).1), .int ((rr_tl f n 0 ((rr_ni x2 x4).toInt64)).2), .ref qS])), (qT, .inl (cA, 187, .inl f)), (qS, .inr (0, [.long a, .long b]))] := hD
        have ee : (rr_o5 x1 x2 x3 x4) = (0, (rr_ni x2 x4).toInt64) := (if_neg (fun z => by first | exact absurd z.1 (Int32.not_lt.mpr c1) | exact absurd z.2 (Int32.not_lt.mpr c5))).trans ((if_neg (Int32.not_lt.mpr c16)).trans (if_neg (Int32.not_lt.mpr c31)))
        have ef := congrArg (fun z : Int64 × Int64 => rr_tl f n z.1 z.2) ee
        try dsimp only at ef
        exact W.vret hx hb hr (fun tt ht hW => ⟨⟨(), rfl, trivial, by dsimp only; rw [ht, ef]; exact hP⟩, hS.F ht⟩) hS.2.2 dX1_and_56
      · skip
        refine lv_aload_n hx hb dX1_and_34 rfl (lv_at hl 0 rfl) ?_
        refine lv_lconst (v := 0) hx hb dX1_and_35 (by decide) ?_
        refine lv_iload_n hx hb dX1_and_36 rfl (lv_at hl 2 rfl) ?_
        refine lv_i2l (v := x2.toInt64) hx hb dX1_and_37 rfl ?_
        refine rr_wv (wr := []) [0, 1, 2] [] (va_runV (As := [.long 0, .long x2.toInt64]) (rest := []) ⟨hx, hb, hml, hown, hts⟩ (c_X1_tell l D h0 qT qS s.heap.size cA f n t lo hi a b 0 x2.toInt64 hn) (cwV 2 hts gX1_and_X1_tell rfl rfl rfl (by decide +kernel) ⟨Nat.le_of_ble_eq_true rfl, Nat.le_of_ble_eq_true rfl⟩) (rr_vW hK hP hD (va_recv hK hP (ci := 1) (q0 := 0) rfl rfl)) rfl rfl hl.1 rfl (lv_room (Nat.le_of_ble_eq_true rfl)) dX1_and_38 ⟨Nat.le_of_ble_eq_true rfl, Nat.le_of_ble_eq_true rfl⟩) hS hA hP hD rfl rfl (by decide) (by decide) (by decide) (fun _ => by simp only [rr_wx, rr_wm, List.map_cons, List.map_nil]) (fun u38 H locs e38 hP hD hS => ?_)
        have hP : va_P D vwCl [(h0, .inr (1, [.ref qT, .int (nI n), .int (nI t), .int ((rr_tl f n 0 x2.toInt64).1), .int ((rr_tl f n 0 x2.toInt64).2), .ref qS])), (qT, .inl (cA, 187, .inl f)), (qS, .inr (0, [.long a, .long b]))] H := hP
        have hD : va_D A [(h0, .inr (1, [.ref qT, .int (nI n), .int (nI t), .int ((rr_tl f n 0 x2.toInt64).1), .int ((rr_tl f n 0 x2.toInt64).2), .ref qS])), (qT, .inl (cA, 187, .inl f)), (qS, .inr (0, [.long a, .long b]))] := hD
        refine lv_goto (tgt := 56) hx hb dX1_and_41 (by decide) ?_
        have ee : (rr_o5 x1 x2 x3 x4) = (0, x2.toInt64) := (if_neg (fun z => by first | exact absurd z.1 (Int32.not_lt.mpr c1) | exact absurd z.2 (Int32.not_lt.mpr c5))).trans ((if_neg (Int32.not_lt.mpr c16)).trans (if_pos (Int32.not_le.mp c31)))
        have ef := congrArg (fun z : Int64 × Int64 => rr_tl f n z.1 z.2) ee
        try dsimp only at ef
        exact W.vret hx hb hr (fun tt ht hW => ⟨⟨(), rfl, trivial, by dsimp only; rw [ht, ef]; exact hP⟩, hS.F ht⟩) hS.2.2 dX1_and_56
    · skip
      exact absurd c1 c16
  · skip
    refine lv_iload_n hx hb dX1_and_4 rfl (lv_at hl 3 rfl) ?_
    refine lv_if_ge (tgt := 15) hx hb dX1_and_5 (by decide) (fun c5 => ?_) (fun c5 => ?_)
    · skip
      refine lv_iload_n hx hb dX1_and_15 rfl (lv_at hl 1 rfl) ?_
      refine lv_if_ge (tgt := 30) hx hb dX1_and_16 (by decide) (fun c16 => ?_) (fun c16 => ?_)
      · skip
        exact absurd c16 c1
      · skip
        refine lv_aload_n hx hb dX1_and_19 rfl (lv_at hl 0 rfl) ?_
        refine lv_lconst (v := 0) hx hb dX1_and_20 (by decide) ?_
        refine lv_iload hx hb dX1_and_21 (lv_at hl 4 rfl) ?_
        refine lv_i2l (v := x4.toInt64) hx hb dX1_and_23 rfl ?_
        refine rr_wv (wr := []) [0, 1, 2] [] (va_runV (As := [.long 0, .long x4.toInt64]) (rest := []) ⟨hx, hb, hml, hown, hts⟩ (c_X1_tell l D h0 qT qS s.heap.size cA f n t lo hi a b 0 x4.toInt64 hn) (cwV 2 hts gX1_and_X1_tell rfl rfl rfl (by decide +kernel) ⟨Nat.le_of_ble_eq_true rfl, Nat.le_of_ble_eq_true rfl⟩) (rr_vW hK hP hD (va_recv hK hP (ci := 1) (q0 := 0) rfl rfl)) rfl rfl hl.1 rfl (lv_room (Nat.le_of_ble_eq_true rfl)) dX1_and_24 ⟨Nat.le_of_ble_eq_true rfl, Nat.le_of_ble_eq_true rfl⟩) hS hA hP hD rfl rfl (by decide) (by decide) (by decide) (fun _ => by simp only [rr_wx, rr_wm, List.map_cons, List.map_nil]) (fun u24 H locs e24 hP hD hS => ?_)
        have hP : va_P D vwCl [(h0, .inr (1, [.ref qT, .int (nI n), .int (nI t), .int ((rr_tl f n 0 x4.toInt64).1), .int ((rr_tl f n 0 x4.toInt64).2), .ref qS])), (qT, .inl (cA, 187, .inl f)), (qS, .inr (0, [.long a, .long b]))] H := hP
        have hD : va_D A [(h0, .inr (1, [.ref qT, .int (nI n), .int (nI t), .int ((rr_tl f n 0 x4.toInt64).1), .int ((rr_tl f n 0 x4.toInt64).2), .ref qS])), (qT, .inl (cA, 187, .inl f)), (qS, .inr (0, [.long a, .long b]))] := hD
        refine lv_goto (tgt := 56) hx hb dX1_and_27 (by decide) ?_
        have ee : (rr_o5 x1 x2 x3 x4) = (0, x4.toInt64) := (if_neg (fun z => by first | exact absurd z.1 (Int32.not_lt.mpr c1) | exact absurd z.2 (Int32.not_lt.mpr c5))).trans (if_pos (Int32.not_le.mp c16))
        have ef := congrArg (fun z : Int64 × Int64 => rr_tl f n z.1 z.2) ee
        try dsimp only at ef
        exact W.vret hx hb hr (fun tt ht hW => ⟨⟨(), rfl, trivial, by dsimp only; rw [ht, ef]; exact hP⟩, hS.F ht⟩) hS.2.2 dX1_and_56
    · skip
      refine lv_aload_n hx hb dX1_and_8 rfl (lv_at hl 0 rfl) ?_
      refine rr_wv (wr := []) [0, 1, 2] [] (va_runV (As := []) (rest := []) ⟨hx, hb, hml, hown, hts⟩ (c_X1_tellAllInts l D h0 qT qS s.heap.size cA f n t lo hi a b) (cwV 0 hts gX1_and_X1_tellAllInts rfl rfl rfl (by decide +kernel) ⟨Nat.le_of_ble_eq_true rfl, Nat.le_of_ble_eq_true rfl⟩) (rr_vW hK hP hD (va_recv hK hP (ci := 1) (q0 := 0) rfl rfl)) rfl rfl hl.1 rfl (lv_room (Nat.le_of_ble_eq_true rfl)) dX1_and_9 ⟨Nat.le_of_ble_eq_true rfl, Nat.le_of_ble_eq_true rfl⟩) hS hA hP hD rfl rfl (by decide) (by decide) (by decide) (fun _ => by simp only [rr_wx, rr_wm, List.map_cons, List.map_nil]) (fun u9 H locs e9 hP hD hS => ?_)
      have hP : va_P D vwCl [(h0, .inr (1, [.ref qT, .int (nI n), .int (nI t), .int ((-2147483648)), .int 2147483647, .ref qS])), (qT, .inl (cA, 187, .inl f)), (qS, .inr (0, [.long a, .long b]))] H := hP
      have hD : va_D A [(h0, .inr (1, [.ref qT, .int (nI n), .int (nI t), .int ((-2147483648)), .int 2147483647, .ref qS])), (qT, .inl (cA, 187, .inl f)), (qS, .inr (0, [.long a, .long b]))] := hD
      refine lv_goto (tgt := 56) hx hb dX1_and_12 (by decide) ?_
      have ee : (rr_o5 x1 x2 x3 x4) = (-2147483648, 2147483647) := if_pos ⟨Int32.not_le.mp c1, Int32.not_le.mp c5⟩
      have ef : rr_tl f n (rr_o5 x1 x2 x3 x4).1 (rr_o5 x1 x2 x3 x4).2 = (-2147483648, 2147483647) := by rw [ee]; exact rr_tl_all f n
      exact W.vret hx hb hr (fun tt ht hW => ⟨⟨(), rfl, trivial, by dsimp only; rw [ht, ef]; exact hP⟩, hS.F ht⟩) hS.2.2 dX1_and_56
set_option maxHeartbeats 1000000 in
set_option maxRecDepth 100000 in
/-- orOrXor(x, y, z, w) -/
theorem c_X1_orOrXor (l : Launch) (D : va_G) (h0 qT qS sz : Nat) (cA : ClassId) (f : Nat → Int32) (n t : Nat) (lo hi : Int32) (a b : Int64) (x1 x2 x3 x4 : Int32) (hn : n ≤ 187) : Met l yX1_orOrXor wsX1_orOrXor ({ frames := 2, cells := 0, slots := 0, locals := 54 }) (rr_pW D (rr_wx h0 qT qS cA f n t lo hi a b) [(cA, .int)] [.ref h0, .int x1, .int x2, .int x3, .int x4] sz) (va_Qv (fun (_ : Unit) => True) (fun _ tt => va_P D vwCl (rr_wx h0 qT qS cA f n t (rr_tl f n (rr_o6 x1 x2 x3 x4).1 (rr_o6 x1 x2 x3 x4).2).1 (rr_tl f n (rr_o6 x1 x2 x3 x4).1 (rr_o6 x1 x2 x3 x4).2).2 a b) tt.heap) (va_A (rr_wx h0 qT qS cA f n t lo hi a b) sz)) 0 0 (va_A (rr_wx h0 qT qS cA f n t lo hi a b) sz) := by
  refine Met.ofW (cc := cX1_orOrXor) (maxL := 5) (ret := none) (by decide) rfl ?_
  intro p e s m args below meth c s₁ B hml hv
  obtain ⟨rfl, hsz, hP, hK, hD0⟩ := hv
  have hx := B.exec
  have hb := B.bytes
  have hr := B.returns
  have hts := atoms_spec (ws := wsX1_orOrXor) B.pre
  have hown : s.vm.findClass RX1 = some m.cls := findClass_of_methodNamed B.named
  have hlocks := B.notSynchronized
  subst hsz
  have hD := hD0.self (sz := s.heap.size)
  generalize hAe : va_A [(h0, .inr (1, [.ref qT, .int (nI n), .int (nI t), .int lo, .int hi, .ref qS])), (qT, .inl (cA, 187, .inl f)), (qS, .inr (0, [.long a, .long b]))] s.heap.size = A at hD ⊢
  have hA : ∀ q : Nat, s.heap.size ≤ q → A q := fun q h => by rw [← hAe]; exact Or.inr h
  have hS : va_S A s.heap s.heap [] := va_S.rf
  have hP : va_P D vwCl [(h0, .inr (1, [.ref qT, .int (nI n), .int (nI t), .int lo, .int hi, .ref qS])), (qT, .inl (cA, 187, .inl f)), (qS, .inr (0, [.long a, .long b]))] s.heap := hP
  have hiX1 : ∀ w ∈ wsX10, w ∈ wsX1_orOrXor := by decide +kernel
  have hl := lv_entry ([.ref h0, .int x1, .int x2, .int x3, .int x4]) (n := 5) (Nat.le_of_ble_eq_true rfl)
  rw [lg_entry_eq]
  generalize (lg_sl ([.ref h0, .int x1, .int x2, .int x3, .int x4]) ++ List.replicate (5 - (lg_sl ([.ref h0, .int x1, .int x2, .int x3, .int x4])).length) Slot.unset).toArray = ls at hl ⊢
  have hl : lv_has ls 5 [(0, .ref h0), (1, .int x1), (2, .int x2), (3, .int x3), (4, .int x4)] := hl
  refine lv_iload_n hx hb dX1_orOrXor_0 rfl (lv_at hl 1 rfl) ?_
  refine lv_if_lt (tgt := 8) hx hb dX1_orOrXor_1 (by decide) (fun c1 => ?_) (fun c1 => ?_)
  · skip
    refine lv_aload_n hx hb dX1_orOrXor_8 rfl (lv_at hl 0 rfl) ?_
    refine rr_wv (wr := []) [0, 1, 2] [] (va_runV (As := []) (rest := []) ⟨hx, hb, hml, hown, hts⟩ (c_X1_tellAllInts l D h0 qT qS s.heap.size cA f n t lo hi a b) (cwV 0 hts gX1_orOrXor_X1_tellAllInts rfl rfl rfl (by decide +kernel) ⟨Nat.le_of_ble_eq_true rfl, Nat.le_of_ble_eq_true rfl⟩) (rr_vW hK hP hD (va_recv hK hP (ci := 1) (q0 := 0) rfl rfl)) rfl rfl hl.1 rfl (lv_room (Nat.le_of_ble_eq_true rfl)) dX1_orOrXor_9 ⟨Nat.le_of_ble_eq_true rfl, Nat.le_of_ble_eq_true rfl⟩) hS hA hP hD rfl rfl (by decide) (by decide) (by decide) (fun _ => by simp only [rr_wx, rr_wm, List.map_cons, List.map_nil]) (fun u9 H locs e9 hP hD hS => ?_)
    have hP : va_P D vwCl [(h0, .inr (1, [.ref qT, .int (nI n), .int (nI t), .int ((-2147483648)), .int 2147483647, .ref qS])), (qT, .inl (cA, 187, .inl f)), (qS, .inr (0, [.long a, .long b]))] H := hP
    have hD : va_D A [(h0, .inr (1, [.ref qT, .int (nI n), .int (nI t), .int ((-2147483648)), .int 2147483647, .ref qS])), (qT, .inl (cA, 187, .inl f)), (qS, .inr (0, [.long a, .long b]))] := hD
    refine lv_goto (tgt := 30) hx hb dX1_orOrXor_12 (by decide) ?_
    have ee : (rr_o6 x1 x2 x3 x4) = (-2147483648, 2147483647) := if_pos (by first | exact Or.inl c1 | exact Or.inr (Int32.not_le.mp c5))
    have ef : rr_tl f n (rr_o6 x1 x2 x3 x4).1 (rr_o6 x1 x2 x3 x4).2 = (-2147483648, 2147483647) := by rw [ee]; exact rr_tl_all f n
    exact W.vret hx hb hr (fun tt ht hW => ⟨⟨(), rfl, trivial, by dsimp only; rw [ht, ef]; exact hP⟩, hS.F ht⟩) hS.2.2 dX1_orOrXor_30
  · skip
    refine lv_iload_n hx hb dX1_orOrXor_4 rfl (lv_at hl 3 rfl) ?_
    refine lv_if_ge (tgt := 15) hx hb dX1_orOrXor_5 (by decide) (fun c5 => ?_) (fun c5 => ?_)
    · skip
      refine lv_aload_n hx hb dX1_orOrXor_15 rfl (lv_at hl 0 rfl) ?_
      refine lv_lconst (v := 0) hx hb dX1_orOrXor_16 (by decide) ?_
      refine lv_iload_n hx hb dX1_orOrXor_17 rfl (lv_at hl 2 rfl) ?_
      refine lv_iload hx hb dX1_orOrXor_18 (lv_at hl 4 rfl) ?_
      refine va_mmax hx hb (hml.trans hl.1.symm) hown (hts (.methodLink RX1 137 Lib.Math.max.name) (by decide +kernel)) (hts (.static Lib.Math.max.name) (by decide +kernel)) (hts (.initialized "java/lang/Math") (by decide +kernel)) (hts (.code Lib.Math.max.name Lib.Math.max.code 2 (some .int)) (by decide +kernel)) (Nat.le_of_ble_eq_true rfl) (Nat.le_of_ble_eq_true rfl) (Nat.le_of_ble_eq_true rfl) (Nat.le_of_ble_eq_true rfl) dX1_orOrXor_20 ?_
      refine W.eq (g2 := F0 m 23 ls [.int (rr_xi x2 x4), .long 0, .ref h0]) rfl ?_
      refine rr_ri (va_runS (As := [.int (rr_xi x2 x4)]) (rest := [.long 0, .ref h0]) ⟨hx, hb, hml, hown, hts⟩ (c_X1_onesNotBelow l s.heap.size (rr_xi x2 x4)) (va_cwS 1 hts gX1_orOrXor_X1_onesNotBelow rfl rfl rfl (by decide +kernel) ⟨Nat.le_of_ble_eq_true rfl, Nat.le_of_ble_eq_true rfl⟩) rr_v0 rfl rfl hl.1 rfl (lv_room (Nat.le_of_ble_eq_true rfl)) dX1_orOrXor_23 ⟨Nat.le_of_ble_eq_true rfl, Nat.le_of_ble_eq_true rfl⟩) hS hA hP (fun r23 H locs e23 hP hS => ?_)
      subst e23
      refine lv_i2l (v := (nI (rr_on (rr_xi x2 x4) 31 0)).toInt64) hx hb dX1_orOrXor_26 rfl ?_
      refine W.eq (congrArg (fun z => F0 m 27 ls (.long z :: [.long 0, .ref h0])) (nI_l (rr_on_b _))) ?_
      refine rr_wv (wr := []) [0, 1, 2] [] (va_runV (As := [.long 0, .long (lN (rr_on (rr_xi x2 x4) 31 0))]) (rest := []) ⟨hx, hb, hml, hown, hts⟩ (c_X1_tell l D h0 qT qS H.size cA f n t lo hi a b 0 (lN (rr_on (rr_xi x2 x4) 31 0)) hn) (cwV 2 hts gX1_orOrXor_X1_tell rfl rfl rfl (by decide +kernel) ⟨Nat.le_of_ble_eq_true rfl, Nat.le_of_ble_eq_true rfl⟩) (rr_vW hK hP hD (va_recv hK hP (ci := 1) (q0 := 0) rfl rfl)) rfl rfl hl.1 rfl (lv_room (Nat.le_of_ble_eq_true rfl)) dX1_orOrXor_27 ⟨Nat.le_of_ble_eq_true rfl, Nat.le_of_ble_eq_true rfl⟩) hS hA hP hD rfl rfl (by decide) (by decide) (by decide) (fun _ => by simp only [rr_wx, rr_wm, List.map_cons, List.map_nil]) (fun u27 H locs e27 hP hD hS => ?_)
      have hP : va_P D vwCl [(h0, .inr (1, [.ref qT, .int (nI n), .int (nI t), .int ((rr_tl f n 0 (lN (rr_on (rr_xi x2 x4) 31 0))).1), .int ((rr_tl f n 0 (lN (rr_on (rr_xi x2 x4) 31 0))).2), .ref qS])), (qT, .inl (cA, 187, .inl f)), (qS, .inr (0, [.long a, .long b]))] H := hP
      have hD : va_D A [(h0, .inr (1, [.ref qT, .int (nI n), .int (nI t), .int ((rr_tl f n 0 (lN (rr_on (rr_xi x2 x4) 31 0))).1), .int ((rr_tl f n 0 (lN (rr_on (rr_xi x2 x4) 31 0))).2), .ref qS])), (qT, .inl (cA, 187, .inl f)), (qS, .inr (0, [.long a, .long b]))] := hD
      have ee : (rr_o6 x1 x2 x3 x4) = (0, lN (rr_on (rr_xi x2 x4) 31 0)) := if_neg (fun z => by rcases z with z | z; exact c1 z; exact absurd z (Int32.not_lt.mpr c5))
      have ef := congrArg (fun z : Int64 × Int64 => rr_tl f n z.1 z.2) ee
      try dsimp only at ef
      exact W.vret hx hb hr (fun tt ht hW => ⟨⟨(), rfl, trivial, by dsimp only; rw [ht, ef]; exact hP⟩, hS.F ht⟩) hS.2.2 dX1_orOrXor_30
    · skip
      refine lv_aload_n hx hb dX1_orOrXor_8 rfl (lv_at hl 0 rfl) ?_
      refine rr_wv (wr := []) [0, 1, 2] [] (va_runV (As := []) (rest := []) ⟨hx, hb, hml, hown, hts⟩ (c_X1_tellAllInts l D h0 qT qS s.heap.size cA f n t lo hi a b) (cwV 0 hts gX1_orOrXor_X1_tellAllInts rfl rfl rfl (by decide +kernel) ⟨Nat.le_of_ble_eq_true rfl, Nat.le_of_ble_eq_true rfl⟩) (rr_vW hK hP hD (va_recv hK hP (ci := 1) (q0 := 0) rfl rfl)) rfl rfl hl.1 rfl (lv_room (Nat.le_of_ble_eq_true rfl)) dX1_orOrXor_9 ⟨Nat.le_of_ble_eq_true rfl, Nat.le_of_ble_eq_true rfl⟩) hS hA hP hD rfl rfl (by decide) (by decide) (by decide) (fun _ => by simp only [rr_wx, rr_wm, List.map_cons, List.map_nil]) (fun u9 H locs e9 hP hD hS => ?_)
      have hP : va_P D vwCl [(h0, .inr (1, [.ref qT, .int (nI n), .int (nI t), .int ((-2147483648)), .int 2147483647, .ref qS])), (qT, .inl (cA, 187, .inl f)), (qS, .inr (0, [.long a, .long b]))] H := hP
      have hD : va_D A [(h0, .inr (1, [.ref qT, .int (nI n), .int (nI t), .int ((-2147483648)), .int 2147483647, .ref qS])), (qT, .inl (cA, 187, .inl f)), (qS, .inr (0, [.long a, .long b]))] := hD
      refine lv_goto (tgt := 30) hx hb dX1_orOrXor_12 (by decide) ?_
      have ee : (rr_o6 x1 x2 x3 x4) = (-2147483648, 2147483647) := if_pos (by first | exact Or.inl c1 | exact Or.inr (Int32.not_le.mp c5))
      have ef : rr_tl f n (rr_o6 x1 x2 x3 x4).1 (rr_o6 x1 x2 x3 x4).2 = (-2147483648, 2147483647) := by rw [ee]; exact rr_tl_all f n
      exact W.vret hx hb hr (fun tt ht hW => ⟨⟨(), rfl, trivial, by dsimp only; rw [ht, ef]; exact hP⟩, hS.F ht⟩) hS.2.2 dX1_orOrXor_30
set_option maxHeartbeats 1000000 in
set_option maxRecDepth 100000 in
/-- shiftLeft(x, y, z, w) -/
theorem c_X1_shiftLeft (l : Launch) (D : va_G) (h0 qT qS sz : Nat) (cA : ClassId) (f : Nat → Int32) (n t : Nat) (lo hi : Int32) (a b : Int64) (x1 x2 x3 x4 : Int32) (hn : n ≤ 187) (hlh : x1 ≤ x2) : Met l yX1_shiftLeft wsX1_shiftLeft ({ frames := 3, cells := 0, slots := 0, locals := 82 }) (rr_pN D (rr_wx h0 qT qS cA f n t lo hi a b) [(cA, .int)] [.ref h0, .int x1, .int x2, .int x3, .int x4] sz) (va_Qv (fun (u : Int64 × Int64) => True) (fun u tt => va_P D vwCl (rr_wx h0 qT qS cA f n t (rr_tl f n (rr_o8 x1 x2 x3 x4).1 (rr_o8 x1 x2 x3 x4).2).1 (rr_tl f n (rr_o8 x1 x2 x3 x4).1 (rr_o8 x1 x2 x3 x4).2).2 u.1 u.2) tt.heap) (va_A (rr_wx h0 qT qS cA f n t lo hi a b) sz)) 0 0 (va_A (rr_wx h0 qT qS cA f n t lo hi a b) sz) := by
  refine Met.ofW (cc := cX1_shiftLeft) (maxL := 7) (ret := none) (by decide) rfl ?_
  intro p e s m args below meth c s₁ B hml hv
  obtain ⟨rfl, hsz, hP, hK, hD0, hN⟩ := hv
  have hx := B.exec
  have hb := B.bytes
  have hr := B.returns
  have hts := atoms_spec (ws := wsX1_shiftLeft) B.pre
  have hown : s.vm.findClass RX1 = some m.cls := findClass_of_methodNamed B.named
  have hlocks := B.notSynchronized
  subst hsz
  have hD := hD0.self (sz := s.heap.size)
  generalize hAe : va_A [(h0, .inr (1, [.ref qT, .int (nI n), .int (nI t), .int lo, .int hi, .ref qS])), (qT, .inl (cA, 187, .inl f)), (qS, .inr (0, [.long a, .long b]))] s.heap.size = A at hD ⊢
  have hA : ∀ q : Nat, s.heap.size ≤ q → A q := fun q h => by rw [← hAe]; exact Or.inr h
  have hS : va_S A s.heap s.heap [] := va_S.rf
  have hP : va_P D vwCl [(h0, .inr (1, [.ref qT, .int (nI n), .int (nI t), .int lo, .int hi, .ref qS])), (qT, .inl (cA, 187, .inl f)), (qS, .inr (0, [.long a, .long b]))] s.heap := hP
  have hiX1 : ∀ w ∈ wsX10, w ∈ wsX1_shiftLeft := by decide +kernel
  have hl := lv_entry ([.ref h0, .int x1, .int x2, .int x3, .int x4]) (n := 7) (Nat.le_of_ble_eq_true rfl)
  rw [lg_entry_eq]
  generalize (lg_sl ([.ref h0, .int x1, .int x2, .int x3, .int x4]) ++ List.replicate (7 - (lg_sl ([.ref h0, .int x1, .int x2, .int x3, .int x4])).length) Slot.unset).toArray = ls at hl ⊢
  have hl : lv_has ls 7 [(0, .ref h0), (1, .int x1), (2, .int x2), (3, .int x3), (4, .int x4)] := hl
  refine lv_iload_n hx hb dX1_shiftLeft_0 rfl (lv_at hl 3 rfl) ?_
  refine lv_iload hx hb dX1_shiftLeft_1 (lv_at hl 4 rfl) ?_
  refine lv_icmp_ne (tgt := 29) hx hb dX1_shiftLeft_3 (by decide) (fun c3 => ?_) (fun c3 => ?_)
  · skip
    refine lv_aload_n hx hb dX1_shiftLeft_29 rfl (lv_at hl 0 rfl) ?_
    refine rr_wv (wr := []) [0, 1, 2] [] (va_runV (As := []) (rest := []) ⟨hx, hb, hml, hown, hts⟩ (c_X1_tellAllInts l D h0 qT qS s.heap.size cA f n t lo hi a b) (cwV 0 hts gX1_shiftLeft_X1_tellAllInts rfl rfl rfl (by decide +kernel) ⟨Nat.le_of_ble_eq_true rfl, Nat.le_of_ble_eq_true rfl⟩) (rr_vW hK hP hD (va_recv hK hP (ci := 1) (q0 := 0) rfl rfl)) rfl rfl hl.1 rfl (lv_room (Nat.le_of_ble_eq_true rfl)) dX1_shiftLeft_30 ⟨Nat.le_of_ble_eq_true rfl, Nat.le_of_ble_eq_true rfl⟩) hS hA hP hD rfl rfl (by decide) (by decide) (by decide) (fun _ => by simp only [rr_wx, rr_wm, List.map_cons, List.map_nil]) (fun u30 H locs e30 hP hD hS => ?_)
    have hP : va_P D vwCl [(h0, .inr (1, [.ref qT, .int (nI n), .int (nI t), .int ((-2147483648)), .int 2147483647, .ref qS])), (qT, .inl (cA, 187, .inl f)), (qS, .inr (0, [.long a, .long b]))] H := hP
    have hD : va_D A [(h0, .inr (1, [.ref qT, .int (nI n), .int (nI t), .int ((-2147483648)), .int 2147483647, .ref qS])), (qT, .inl (cA, 187, .inl f)), (qS, .inr (0, [.long a, .long b]))] := hD
    have ee : (rr_o8 x1 x2 x3 x4) = (-2147483648, 2147483647) := if_neg c3
    have ef : rr_tl f n (rr_o8 x1 x2 x3 x4).1 (rr_o8 x1 x2 x3 x4).2 = (-2147483648, 2147483647) := by rw [ee]; exact rr_tl_all f n
    exact W.vret hx hb hr (fun tt ht hW => ⟨⟨(_, _), rfl, trivial, by dsimp only; rw [ht, ef]; exact hP⟩, hS.F ht⟩) hS.2.2 dX1_shiftLeft_33
  · skip
    refine lv_lconst (v := 1) hx hb dX1_shiftLeft_6 (by decide) ?_
    refine lv_iload_n hx hb dX1_shiftLeft_7 rfl (lv_at hl 3 rfl) ?_
    refine lv_bipush (v := 31) hx hb dX1_shiftLeft_8 (by decide) ?_
    refine lv_iand hx hb dX1_shiftLeft_10 ?_
    refine lv_lshl (v := (1 : Int64) <<< ((x3 &&& 31).toInt64 &&& 63)) hx hb dX1_shiftLeft_11 rfl ?_
    refine lv_lstore (lv' := [(5, .long ((1 : Int64) <<< ((x3 &&& 31).toInt64 &&& 63))), (0, .ref h0), (1, .int x1), (2, .int x2), (3, .int x3), (4, .int x4)]) hx hb dX1_shiftLeft_12 hl (by decide) rfl (fun ls hl => ?_)
    refine lv_aload_n hx hb dX1_shiftLeft_14 rfl (lv_at hl 1 rfl) ?_
    refine lv_iload_n hx hb dX1_shiftLeft_15 rfl (lv_at hl 2 rfl) ?_
    refine lv_i2l (v := x1.toInt64) hx hb dX1_shiftLeft_16 rfl ?_
    refine lv_iload_n hx hb dX1_shiftLeft_17 rfl (lv_at hl 3 rfl) ?_
    refine lv_i2l (v := x2.toInt64) hx hb dX1_shiftLeft_18 rfl ?_
    refine lv_lload hx hb dX1_shiftLeft_19 (lv_at hl 0 rfl) ?_
    refine lv_lload hx hb dX1_shiftLeft_21 (lv_at hl 0 rfl) ?_
    refine rr_wv (wr := []) [0, 1, 2] [] (va_runV (As := [.long x1.toInt64, .long x2.toInt64, .long ((1 : Int64) <<< ((x3 &&& 31).toInt64 &&& 63)), .long ((1 : Int64) <<< ((x3 &&& 31).toInt64 &&& 63))]) (rest := []) ⟨hx, hb, hml, hown, hts⟩ (c_X1_multiply l D h0 qT qS s.heap.size cA f n t lo hi a b x1.toInt64 x2.toInt64 ((1 : Int64) <<< ((x3 &&& 31).toInt64 &&& 63)) ((1 : Int64) <<< ((x3 &&& 31).toInt64 &&& 63)) hn) (cwV 4 hts gX1_shiftLeft_X1_multiply rfl rfl rfl (by decide +kernel) ⟨Nat.le_of_ble_eq_true rfl, Nat.le_of_ble_eq_true rfl⟩) (rr_vN hN hK hP hD (va_recv hK hP (ci := 1) (q0 := 0) rfl rfl)) rfl rfl hl.1 rfl (lv_room (Nat.le_of_ble_eq_true rfl)) dX1_shiftLeft_23 ⟨Nat.le_of_ble_eq_true rfl, Nat.le_of_ble_eq_true rfl⟩) hS hA hP hD rfl rfl (by decide) (by decide) (by decide) (fun _ => by simp only [rr_wx, rr_wm, List.map_cons, List.map_nil]) (fun u23 H locs e23 hP hD hS => ?_)
    have hP : va_P D vwCl [(h0, .inr (1, [.ref qT, .int (nI n), .int (nI t), .int ((rr_tl f n (rr_o2 x1.toInt64 x2.toInt64 ((1 : Int64) <<< ((x3 &&& 31).toInt64 &&& 63)) ((1 : Int64) <<< ((x3 &&& 31).toInt64 &&& 63))).1 (rr_o2 x1.toInt64 x2.toInt64 ((1 : Int64) <<< ((x3 &&& 31).toInt64 &&& 63)) ((1 : Int64) <<< ((x3 &&& 31).toInt64 &&& 63))).2).1), .int ((rr_tl f n (rr_o2 x1.toInt64 x2.toInt64 ((1 : Int64) <<< ((x3 &&& 31).toInt64 &&& 63)) ((1 : Int64) <<< ((x3 &&& 31).toInt64 &&& 63))).1 (rr_o2 x1.toInt64 x2.toInt64 ((1 : Int64) <<< ((x3 &&& 31).toInt64 &&& 63)) ((1 : Int64) <<< ((x3 &&& 31).toInt64 &&& 63))).2).2), .ref qS])), (qT, .inl (cA, 187, .inl f)), (qS, .inr (0, [.long u23.1, .long u23.2]))] H := hP
    have hD : va_D A [(h0, .inr (1, [.ref qT, .int (nI n), .int (nI t), .int ((rr_tl f n (rr_o2 x1.toInt64 x2.toInt64 ((1 : Int64) <<< ((x3 &&& 31).toInt64 &&& 63)) ((1 : Int64) <<< ((x3 &&& 31).toInt64 &&& 63))).1 (rr_o2 x1.toInt64 x2.toInt64 ((1 : Int64) <<< ((x3 &&& 31).toInt64 &&& 63)) ((1 : Int64) <<< ((x3 &&& 31).toInt64 &&& 63))).2).1), .int ((rr_tl f n (rr_o2 x1.toInt64 x2.toInt64 ((1 : Int64) <<< ((x3 &&& 31).toInt64 &&& 63)) ((1 : Int64) <<< ((x3 &&& 31).toInt64 &&& 63))).1 (rr_o2 x1.toInt64 x2.toInt64 ((1 : Int64) <<< ((x3 &&& 31).toInt64 &&& 63)) ((1 : Int64) <<< ((x3 &&& 31).toInt64 &&& 63))).2).2), .ref qS])), (qT, .inl (cA, 187, .inl f)), (qS, .inr (0, [.long u23.1, .long u23.2]))] := hD
    refine lv_goto (tgt := 33) hx hb dX1_shiftLeft_26 (by decide) ?_
    have ee : (rr_o8 x1 x2 x3 x4) = rr_o2 x1.toInt64 x2.toInt64 (rr_by x3) (rr_by x3) := (if_pos c3).trans (rr_o8x hlh).symm
    have ef := congrArg (fun z : Int64 × Int64 => rr_tl f n z.1 z.2) ee
    try dsimp only at ef
    exact W.vret hx hb hr (fun tt ht hW => ⟨⟨(_, _), rfl, trivial, by dsimp only; rw [ht, ef]; exact hP⟩, hS.F ht⟩) hS.2.2 dX1_shiftLeft_33
set_option maxHeartbeats 1000000 in
set_option maxRecDepth 100000 in
/-- shiftRight(x, y, z, w) -/
theorem c_X1_shiftRight (l : Launch) (D : va_G) (h0 qT qS sz : Nat) (cA : ClassId) (f : Nat → Int32) (n t : Nat) (lo hi : Int32) (a b : Int64) (x1 x2 x3 x4 : Int32) (hn : n ≤ 187) : Met l yX1_shiftRight wsX1_shiftRight ({ frames := 2, cells := 0, slots := 0, locals := 54 }) (rr_pW D (rr_wx h0 qT qS cA f n t lo hi a b) [(cA, .int)] [.ref h0, .int x1, .int x2, .int x3, .int x4] sz) (va_Qv (fun (_ : Unit) => True) (fun _ tt => va_P D vwCl (rr_wx h0 qT qS cA f n t (rr_tl f n (rr_o9 x1 x2 x3 x4).1 (rr_o9 x1 x2 x3 x4).2).1 (rr_tl f n (rr_o9 x1 x2 x3 x4).1 (rr_o9 x1 x2 x3 x4).2).2 a b) tt.heap) (va_A (rr_wx h0 qT qS cA f n t lo hi a b) sz)) 0 0 (va_A (rr_wx h0 qT qS cA f n t lo hi a b) sz) := by
  refine Met.ofW (cc := cX1_shiftRight) (maxL := 5) (ret := none) (by decide) rfl ?_
  intro p e s m args below meth c s₁ B hml hv
  obtain ⟨rfl, hsz, hP, hK, hD0⟩ := hv
  have hx := B.exec
  have hb := B.bytes
  have hr := B.returns
  have hts := atoms_spec (ws := wsX1_shiftRight) B.pre
  have hown : s.vm.findClass RX1 = some m.cls := findClass_of_methodNamed B.named
  have hlocks := B.notSynchronized
  subst hsz
  have hD := hD0.self (sz := s.heap.size)
  generalize hAe : va_A [(h0, .inr (1, [.ref qT, .int (nI n), .int (nI t), .int lo, .int hi, .ref qS])), (qT, .inl (cA, 187, .inl f)), (qS, .inr (0, [.long a, .long b]))] s.heap.size = A at hD ⊢
  have hA : ∀ q : Nat, s.heap.size ≤ q → A q := fun q h => by rw [← hAe]; exact Or.inr h
  have hS : va_S A s.heap s.heap [] := va_S.rf
  have hP : va_P D vwCl [(h0, .inr (1, [.ref qT, .int (nI n), .int (nI t), .int lo, .int hi, .ref qS])), (qT, .inl (cA, 187, .inl f)), (qS, .inr (0, [.long a, .long b]))] s.heap := hP
  have hiX1 : ∀ w ∈ wsX10, w ∈ wsX1_shiftRight := by decide +kernel
  have hl := lv_entry ([.ref h0, .int x1, .int x2, .int x3, .int x4]) (n := 5) (Nat.le_of_ble_eq_true rfl)
  rw [lg_entry_eq]
  generalize (lg_sl ([.ref h0, .int x1, .int x2, .int x3, .int x4]) ++ List.replicate (5 - (lg_sl ([.ref h0, .int x1, .int x2, .int x3, .int x4])).length) Slot.unset).toArray = ls at hl ⊢
  have hl : lv_has ls 5 [(0, .ref h0), (1, .int x1), (2, .int x2), (3, .int x3), (4, .int x4)] := hl
  refine lv_iload_n hx hb dX1_shiftRight_0 rfl (lv_at hl 3 rfl) ?_
  refine lv_iload hx hb dX1_shiftRight_1 (lv_at hl 4 rfl) ?_
  refine lv_icmp_ne (tgt := 27) hx hb dX1_shiftRight_3 (by decide) (fun c3 => ?_) (fun c3 => ?_)
  · skip
    refine lv_aload_n hx hb dX1_shiftRight_27 rfl (lv_at hl 0 rfl) ?_
    refine lv_iload_n hx hb dX1_shiftRight_28 rfl (lv_at hl 1 rfl) ?_
    refine lv_iconst (v := 0) hx hb dX1_shiftRight_29 (by decide) ?_
    refine va_mmin hx hb (hml.trans hl.1.symm) hown (hts (.methodLink RX1 134 Lib.Math.min.name) (by decide +kernel)) (hts (.static Lib.Math.min.name) (by decide +kernel)) (hts (.initialized "java/lang/Math") (by decide +kernel)) (hts (.code Lib.Math.min.name Lib.Math.min.code 2 (some .int)) (by decide +kernel)) (Nat.le_of_ble_eq_true rfl) (Nat.le_of_ble_eq_true rfl) (Nat.le_of_ble_eq_true rfl) (Nat.le_of_ble_eq_true rfl) dX1_shiftRight_30 ?_
    refine W.eq (g2 := F0 m 33 ls [.int (rr_ni x1 0), .ref h0]) rfl ?_
    refine lv_i2l (v := (rr_ni x1 0).toInt64) hx hb dX1_shiftRight_33 rfl ?_
    refine lv_iload_n hx hb dX1_shiftRight_34 rfl (lv_at hl 2 rfl) ?_
    refine lv_iconst (v := (-1)) hx hb dX1_shiftRight_35 (by decide) ?_
    refine va_mmax hx hb (hml.trans hl.1.symm) hown (hts (.methodLink RX1 137 Lib.Math.max.name) (by decide +kernel)) (hts (.static Lib.Math.max.name) (by decide +kernel)) (hts (.initialized "java/lang/Math") (by decide +kernel)) (hts (.code Lib.Math.max.name Lib.Math.max.code 2 (some .int)) (by decide +kernel)) (Nat.le_of_ble_eq_true rfl) (Nat.le_of_ble_eq_true rfl) (Nat.le_of_ble_eq_true rfl) (Nat.le_of_ble_eq_true rfl) dX1_shiftRight_36 ?_
    refine W.eq (g2 := F0 m 39 ls [.int (rr_xi x2 (-1)), .long ((rr_ni x1 0).toInt64), .ref h0]) rfl ?_
    refine lv_i2l (v := (rr_xi x2 (-1)).toInt64) hx hb dX1_shiftRight_39 rfl ?_
    refine rr_wv (wr := []) [0, 1, 2] [] (va_runV (As := [.long ((rr_ni x1 0).toInt64), .long ((rr_xi x2 (-1)).toInt64)]) (rest := []) ⟨hx, hb, hml, hown, hts⟩ (c_X1_tell l D h0 qT qS s.heap.size cA f n t lo hi a b ((rr_ni x1 0).toInt64) ((rr_xi x2 (-1)).toInt64) hn) (cwV 2 hts gX1_shiftRight_X1_tell rfl rfl rfl (by decide +kernel) ⟨Nat.le_of_ble_eq_true rfl, Nat.le_of_ble_eq_true rfl⟩) (rr_vW hK hP hD (va_recv hK hP (ci := 1) (q0 := 0) rfl rfl)) rfl rfl hl.1 rfl (lv_room (Nat.le_of_ble_eq_true rfl)) dX1_shiftRight_40 ⟨Nat.le_of_ble_eq_true rfl, Nat.le_of_ble_eq_true rfl⟩) hS hA hP hD rfl rfl (by decide) (by decide) (by decide) (fun _ => by simp only [rr_wx, rr_wm, List.map_cons, List.map_nil]) (fun u40 H locs e40 hP hD hS => ?_)
    have hP : va_P D vwCl [(h0, .inr (1, [.ref qT, .int (nI n), .int (nI t), .int ((rr_tl f n ((rr_ni x1 0).toInt64) ((rr_xi x2 (-1)).toInt64)).1), .int ((rr_tl f n ((rr_ni x1 0).toInt64) ((rr_xi x2 (-1)).toInt64)).2), .ref qS])), (qT, .inl (cA, 187, .inl f)), (qS, .inr (0, [.long a, .long b]))] H := hP
    have hD : va_D A [(h0, .inr (1, [.ref qT, .int (nI n), .int (nI t), .int ((rr_tl f n ((rr_ni x1 0).toInt64) ((rr_xi x2 (-1)).toInt64)).1), .int ((rr_tl f n ((rr_ni x1 0).toInt64) ((rr_xi x2 (-1)).toInt64)).2), .ref qS])), (qT, .inl (cA, 187, .inl f)), (qS, .inr (0, [.long a, .long b]))] := hD
    have ee : (rr_o9 x1 x2 x3 x4) = ((rr_ni x1 0).toInt64, (rr_xi x2 (-1)).toInt64) := if_neg c3
    have ef := congrArg (fun z : Int64 × Int64 => rr_tl f n z.1 z.2) ee
    try dsimp only at ef
    exact W.vret hx hb hr (fun tt ht hW => ⟨⟨(), rfl, trivial, by dsimp only; rw [ht, ef]; exact hP⟩, hS.F ht⟩) hS.2.2 dX1_shiftRight_43
  · skip
    refine lv_aload_n hx hb dX1_shiftRight_6 rfl (lv_at hl 0 rfl) ?_
    refine lv_iload_n hx hb dX1_shiftRight_7 rfl (lv_at hl 1 rfl) ?_
    refine lv_iload_n hx hb dX1_shiftRight_8 rfl (lv_at hl 3 rfl) ?_
    refine lv_bipush (v := 31) hx hb dX1_shiftRight_9 (by decide) ?_
    refine lv_iand hx hb dX1_shiftRight_11 ?_
    refine lv_ishr hx hb dX1_shiftRight_12 ?_
    refine lv_i2l (v := (x1 >>> ((x3 &&& 31) &&& 31)).toInt64) hx hb dX1_shiftRight_13 rfl ?_
    refine lv_iload_n hx hb dX1_shiftRight_14 rfl (lv_at hl 2 rfl) ?_
    refine lv_iload_n hx hb dX1_shiftRight_15 rfl (lv_at hl 3 rfl) ?_
    refine lv_bipush (v := 31) hx hb dX1_shiftRight_16 (by decide) ?_
    refine lv_iand hx hb dX1_shiftRight_18 ?_
    refine lv_ishr hx hb dX1_shiftRight_19 ?_
    refine lv_i2l (v := (x2 >>> ((x3 &&& 31) &&& 31)).toInt64) hx hb dX1_shiftRight_20 rfl ?_
    refine rr_wv (wr := []) [0, 1, 2] [] (va_runV (As := [.long ((x1 >>> ((x3 &&& 31) &&& 31)).toInt64), .long ((x2 >>> ((x3 &&& 31) &&& 31)).toInt64)]) (rest := []) ⟨hx, hb, hml, hown, hts⟩ (c_X1_tell l D h0 qT qS s.heap.size cA f n t lo hi a b ((x1 >>> ((x3 &&& 31) &&& 31)).toInt64) ((x2 >>> ((x3 &&& 31) &&& 31)).toInt64) hn) (cwV 2 hts gX1_shiftRight_X1_tell rfl rfl rfl (by decide +kernel) ⟨Nat.le_of_ble_eq_true rfl, Nat.le_of_ble_eq_true rfl⟩) (rr_vW hK hP hD (va_recv hK hP (ci := 1) (q0 := 0) rfl rfl)) rfl rfl hl.1 rfl (lv_room (Nat.le_of_ble_eq_true rfl)) dX1_shiftRight_21 ⟨Nat.le_of_ble_eq_true rfl, Nat.le_of_ble_eq_true rfl⟩) hS hA hP hD rfl rfl (by decide) (by decide) (by decide) (fun _ => by simp only [rr_wx, rr_wm, List.map_cons, List.map_nil]) (fun u21 H locs e21 hP hD hS => ?_)
    have hP : va_P D vwCl [(h0, .inr (1, [.ref qT, .int (nI n), .int (nI t), .int ((rr_tl f n ((x1 >>> ((x3 &&& 31) &&& 31)).toInt64) ((x2 >>> ((x3 &&& 31) &&& 31)).toInt64)).1), .int ((rr_tl f n ((x1 >>> ((x3 &&& 31) &&& 31)).toInt64) ((x2 >>> ((x3 &&& 31) &&& 31)).toInt64)).2), .ref qS])), (qT, .inl (cA, 187, .inl f)), (qS, .inr (0, [.long a, .long b]))] H := hP
    have hD : va_D A [(h0, .inr (1, [.ref qT, .int (nI n), .int (nI t), .int ((rr_tl f n ((x1 >>> ((x3 &&& 31) &&& 31)).toInt64) ((x2 >>> ((x3 &&& 31) &&& 31)).toInt64)).1), .int ((rr_tl f n ((x1 >>> ((x3 &&& 31) &&& 31)).toInt64) ((x2 >>> ((x3 &&& 31) &&& 31)).toInt64)).2), .ref qS])), (qT, .inl (cA, 187, .inl f)), (qS, .inr (0, [.long a, .long b]))] := hD
    refine lv_goto (tgt := 43) hx hb dX1_shiftRight_24 (by decide) ?_
    have ee : (rr_o9 x1 x2 x3 x4) = ((x1 >>> ((x3 &&& 31) &&& 31)).toInt64, (x2 >>> ((x3 &&& 31) &&& 31)).toInt64) := if_pos c3
    have ef := congrArg (fun z : Int64 × Int64 => rr_tl f n z.1 z.2) ee
    try dsimp only at ef
    exact W.vret hx hb hr (fun tt ht hW => ⟨⟨(), rfl, trivial, by dsimp only; rw [ht, ef]; exact hP⟩, hS.F ht⟩) hS.2.2 dX1_shiftRight_43
set_option maxHeartbeats 1000000 in
set_option maxRecDepth 100000 in
/-- negate(x, y) -/
theorem c_X1_negate (l : Launch) (D : va_G) (h0 qT qS sz : Nat) (cA : ClassId) (f : Nat → Int32) (n t : Nat) (lo hi : Int32) (a b : Int64) (x1 x2 : Int32) (hn : n ≤ 187) (hk : rr_ok f n) : Met l yX1_negate wsX1_negate ({ frames := 3, cells := 0, slots := 0, locals := 73 }) (rr_pW D (rr_wx h0 qT qS cA f n t lo hi a b) [(cA, .int)] [.ref h0, .int x1, .int x2] sz) (va_Qi (fun r (_ : Unit) => r = (rr_ng f n lo hi x1 x2).1) (fun _ tt => va_P D vwCl (rr_wx h0 qT qS cA f n t (rr_ng f n lo hi x1 x2).2.1 (rr_ng f n lo hi x1 x2).2.2 a b) tt.heap) (va_A (rr_wx h0 qT qS cA f n t lo hi a b) sz)) 0 0 (va_A (rr_wx h0 qT qS cA f n t lo hi a b) sz) := by
  refine Met.ofW (cc := cX1_negate) (maxL := 3) (ret := (some .boolean)) (by decide) rfl ?_
  intro p e s m args below meth c s₁ B hml hv
  obtain ⟨rfl, hsz, hP, hK, hD0⟩ := hv
  have hx := B.exec
  have hb := B.bytes
  have hr := B.returns
  have hts := atoms_spec (ws := wsX1_negate) B.pre
  have hown : s.vm.findClass RX1 = some m.cls := findClass_of_methodNamed B.named
  have hlocks := B.notSynchronized
  subst hsz
  have hD := hD0.self (sz := s.heap.size)
  generalize hAe : va_A [(h0, .inr (1, [.ref qT, .int (nI n), .int (nI t), .int lo, .int hi, .ref qS])), (qT, .inl (cA, 187, .inl f)), (qS, .inr (0, [.long a, .long b]))] s.heap.size = A at hD ⊢
  have hA : ∀ q : Nat, s.heap.size ≤ q → A q := fun q h => by rw [← hAe]; exact Or.inr h
  have hS : va_S A s.heap s.heap [] := va_S.rf
  have hP : va_P D vwCl [(h0, .inr (1, [.ref qT, .int (nI n), .int (nI t), .int lo, .int hi, .ref qS])), (qT, .inl (cA, 187, .inl f)), (qS, .inr (0, [.long a, .long b]))] s.heap := hP
  have hiX1 : ∀ w ∈ wsX10, w ∈ wsX1_negate := by decide +kernel
  have hl := lv_entry ([.ref h0, .int x1, .int x2]) (n := 3) (Nat.le_of_ble_eq_true rfl)
  rw [lg_entry_eq]
  generalize (lg_sl ([.ref h0, .int x1, .int x2]) ++ List.replicate (3 - (lg_sl ([.ref h0, .int x1, .int x2])).length) Slot.unset).toArray = ls at hl ⊢
  have hl : lv_has ls 3 [(0, .ref h0), (1, .int x1), (2, .int x2)] := hl
  refine lv_aload_n hx hb dX1_negate_0 rfl (lv_at hl 0 rfl) ?_
  refine lv_iload_n hx hb dX1_negate_1 rfl (lv_at hl 1 rfl) ?_
  refine lv_iload_n hx hb dX1_negate_2 rfl (lv_at hl 2 rfl) ?_
  refine rr_ri (va_runV (As := [.int x1, .int x2]) (rest := []) ⟨hx, hb, hml, hown, hts⟩ (c_X1_isRange l D h0 qT qS s.heap.size cA f n t lo hi a b x1 x2 hn hk) (cwV 2 hts gX1_negate_X1_isRange rfl rfl rfl (by decide +kernel) ⟨Nat.le_of_ble_eq_true rfl, Nat.le_of_ble_eq_true rfl⟩) (rr_vR hK hP (va_recv hK hP (ci := 1) (q0 := 0) rfl rfl)) rfl rfl hl.1 rfl (lv_room (Nat.le_of_ble_eq_true rfl)) dX1_negate_3 ⟨Nat.le_of_ble_eq_true rfl, Nat.le_of_ble_eq_true rfl⟩) hS hA hP (fun r3 H locs e3 hP hS => ?_)
  by_cases b3 : rr_rg f n x1 x2 = true
  · rw [if_pos b3] at e3
    subst e3
    refine lv_if_ne (tgt := 11) hx hb dX1_negate_6 (by decide) (fun c6 => ?_) (fun c6 => ?_)
    · skip
      refine lv_aload_n hx hb dX1_negate_11 rfl (lv_at hl 0 rfl) ?_
      refine lv_iload_n hx hb dX1_negate_12 rfl (lv_at hl 2 rfl) ?_
      refine lv_i2l (v := x2.toInt64) hx hb dX1_negate_13 rfl ?_
      refine lv_lneg hx hb dX1_negate_14 ?_
      refine lv_iload_n hx hb dX1_negate_15 rfl (lv_at hl 1 rfl) ?_
      refine lv_i2l (v := x1.toInt64) hx hb dX1_negate_16 rfl ?_
      refine lv_lneg hx hb dX1_negate_17 ?_
      refine rr_wv (wr := []) [0, 1, 2] [] (va_runV (As := [.long (-x2.toInt64), .long (-x1.toInt64)]) (rest := []) ⟨hx, hb, hml, hown, hts⟩ (c_X1_tell l D h0 qT qS H.size cA f n t lo hi a b (-x2.toInt64) (-x1.toInt64) hn) (cwV 2 hts gX1_negate_X1_tell rfl rfl rfl (by decide +kernel) ⟨Nat.le_of_ble_eq_true rfl, Nat.le_of_ble_eq_true rfl⟩) (rr_vW hK hP hD (va_recv hK hP (ci := 1) (q0 := 0) rfl rfl)) rfl rfl hl.1 rfl (lv_room (Nat.le_of_ble_eq_true rfl)) dX1_negate_18 ⟨Nat.le_of_ble_eq_true rfl, Nat.le_of_ble_eq_true rfl⟩) hS hA hP hD rfl rfl (by decide) (by decide) (by decide) (fun _ => by simp only [rr_wx, rr_wm, List.map_cons, List.map_nil]) (fun u18 H locs e18 hP hD hS => ?_)
      have hP : va_P D vwCl [(h0, .inr (1, [.ref qT, .int (nI n), .int (nI t), .int ((rr_tl f n (-x2.toInt64) (-x1.toInt64)).1), .int ((rr_tl f n (-x2.toInt64) (-x1.toInt64)).2), .ref qS])), (qT, .inl (cA, 187, .inl f)), (qS, .inr (0, [.long a, .long b]))] H := hP
      have hD : va_D A [(h0, .inr (1, [.ref qT, .int (nI n), .int (nI t), .int ((rr_tl f n (-x2.toInt64) (-x1.toInt64)).1), .int ((rr_tl f n (-x2.toInt64) (-x1.toInt64)).2), .ref qS])), (qT, .inl (cA, 187, .inl f)), (qS, .inr (0, [.long a, .long b]))] := hD
      refine lv_iconst (v := 1) hx hb dX1_negate_21 (by decide) ?_
      have ee : (rr_ng f n lo hi x1 x2) = (1, rr_tl f n (-x2.toInt64) (-x1.toInt64)) := if_pos b3
      exact W.zret (v := 1) hx hb hr rfl (fun tt ht hW => ⟨⟨_, (), rfl, by rw [ee], by dsimp only; rw [ht, ee]; exact hP⟩, hS.F ht⟩) hS.2.2 dX1_negate_22
    · skip
      exact absurd c6 (by decide)
  · rw [if_neg b3] at e3
    subst e3
    refine lv_if_ne (tgt := 11) hx hb dX1_negate_6 (by decide) (fun c6 => ?_) (fun c6 => ?_)
    · skip
      exact absurd c6 (by decide)
    · skip
      refine lv_iconst (v := 0) hx hb dX1_negate_9 (by decide) ?_
      have ee : (rr_ng f n lo hi x1 x2) = (0, lo, hi) := if_neg b3
      exact W.zret (v := 0) hx hb hr rfl (fun tt ht hW => ⟨⟨_, (), rfl, by rw [ee], by dsimp only; rw [ht, ee]; exact hP⟩, hS.F ht⟩) hS.2.2 dX1_negate_10
end
section
set_option maxHeartbeats 1000000 in
set_option maxRecDepth 100000 in
/-- work(op, x1, x2, x3, x4) -/
theorem c_X1_work (l : Launch) (D : va_G) (h0 qT qS sz : Nat) (cA : ClassId) (f : Nat → Int32) (n t : Nat) (lo hi : Int32) (a b : Int64) (op x1 x2 x3 x4 : Int32) (hn : n ≤ 187) (hk : rr_ok f n) : Met l yX1_work wsX1_work ({ frames := 4, cells := 0, slots := 0, locals := 108 }) (rr_pN D (rr_wx h0 qT qS cA f n t lo hi a b) [(cA, .int)] [.ref h0, .int op, .int x1, .int x2, .int x3, .int x4] sz) (va_Qi (fun r (u : Int64 × Int64) => r = (rr_wk f n lo hi op x1 x2 x3 x4).1) (fun u tt => va_P D vwCl (rr_wx h0 qT qS cA f n t (rr_wk f n lo hi op x1 x2 x3 x4).2.1 (rr_wk f n lo hi op x1 x2 x3 x4).2.2 u.1 u.2) tt.heap) (va_A (rr_wx h0 qT qS cA f n t lo hi a b) sz)) 0 0 (va_A (rr_wx h0 qT qS cA f n t lo hi a b) sz) := by
  refine Met.ofW (cc := cX1_work) (maxL := 6) (ret := (some .int)) (by decide) rfl ?_
  intro p e s m args below meth c s₁ B hml hv
  obtain ⟨rfl, hsz, hP, hK, hD0, hN⟩ := hv
  have hx := B.exec
  have hb := B.bytes
  have hr := B.returns
  have hts := atoms_spec (ws := wsX1_work) B.pre
  have hown : s.vm.findClass RX1 = some m.cls := findClass_of_methodNamed B.named
  have hlocks := B.notSynchronized
  subst hsz
  have hD := hD0.self (sz := s.heap.size)
  generalize hAe : va_A [(h0, .inr (1, [.ref qT, .int (nI n), .int (nI t), .int lo, .int hi, .ref qS])), (qT, .inl (cA, 187, .inl f)), (qS, .inr (0, [.long a, .long b]))] s.heap.size = A at hD ⊢
  have hA : ∀ q : Nat, s.heap.size ≤ q → A q := fun q h => by rw [← hAe]; exact Or.inr h
  have hS : va_S A s.heap s.heap [] := va_S.rf
  have hP : va_P D vwCl [(h0, .inr (1, [.ref qT, .int (nI n), .int (nI t), .int lo, .int hi, .ref qS])), (qT, .inl (cA, 187, .inl f)), (qS, .inr (0, [.long a, .long b]))] s.heap := hP
  have hiX1 : ∀ w ∈ wsX10, w ∈ wsX1_work := by decide +kernel
  have hl := lv_entry ([.ref h0, .int op, .int x1, .int x2, .int x3, .int x4]) (n := 6) (Nat.le_of_ble_eq_true rfl)
  rw [lg_entry_eq]
  generalize (lg_sl ([.ref h0, .int op, .int x1, .int x2, .int x3, .int x4]) ++ List.replicate (6 - (lg_sl ([.ref h0, .int op, .int x1, .int x2, .int x3, .int x4])).length) Slot.unset).toArray = ls at hl ⊢
  have hl : lv_has ls 6 [(0, .ref h0), (1, .int op), (2, .int x1), (3, .int x2), (4, .int x3), (5, .int x4)] := hl
  refine lv_iload_n hx hb dX1_work_0 rfl (lv_at hl 1 rfl) ?_
  refine lv_if_lt (tgt := 30) hx hb dX1_work_1 (by decide) (fun c1 => ?_) (fun c1 => ?_)
  · skip
    refine lv_iconst (v := (-1)) hx hb dX1_work_30 (by decide) ?_
    have ee : (rr_wk f n lo hi op x1 x2 x3 x4) = (-1, lo, hi) := if_neg (fun z => by first | exact z.1.1 c1 | exact z.1.2 c7 | exact b13 z.2.1 | exact b24 z.2.2)
    exact W.iret (v := (-1)) hx hb hr (fun tt ht hW => ⟨⟨_, (a, b), rfl, by rw [ee], by dsimp only; rw [ht, ee]; exact hP⟩, hS.F ht⟩) hS.2.2 dX1_work_31
  · skip
    refine lv_iload_n hx hb dX1_work_4 rfl (lv_at hl 1 rfl) ?_
    refine lv_bipush (v := 9) hx hb dX1_work_5 (by decide) ?_
    refine lv_icmp_gt (tgt := 30) hx hb dX1_work_7 (by decide) (fun c7 => ?_) (fun c7 => ?_)
    · skip
      refine lv_iconst (v := (-1)) hx hb dX1_work_30 (by decide) ?_
      have ee : (rr_wk f n lo hi op x1 x2 x3 x4) = (-1, lo, hi) := if_neg (fun z => by first | exact z.1.1 c1 | exact z.1.2 c7 | exact b13 z.2.1 | exact b24 z.2.2)
      exact W.iret (v := (-1)) hx hb hr (fun tt ht hW => ⟨⟨_, (a, b), rfl, by rw [ee], by dsimp only; rw [ht, ee]; exact hP⟩, hS.F ht⟩) hS.2.2 dX1_work_31
    · skip
      refine lv_aload_n hx hb dX1_work_10 rfl (lv_at hl 0 rfl) ?_
      refine lv_iload_n hx hb dX1_work_11 rfl (lv_at hl 2 rfl) ?_
      refine lv_iload_n hx hb dX1_work_12 rfl (lv_at hl 3 rfl) ?_
      refine rr_ri (va_runV (As := [.int x1, .int x2]) (rest := []) ⟨hx, hb, hml, hown, hts⟩ (c_X1_isRange l D h0 qT qS s.heap.size cA f n t lo hi a b x1 x2 hn hk) (cwV 2 hts gX1_work_X1_isRange rfl rfl rfl (by decide +kernel) ⟨Nat.le_of_ble_eq_true rfl, Nat.le_of_ble_eq_true rfl⟩) (rr_vR hK hP (va_recv hK hP (ci := 1) (q0 := 0) rfl rfl)) rfl rfl hl.1 rfl (lv_room (Nat.le_of_ble_eq_true rfl)) dX1_work_13 ⟨Nat.le_of_ble_eq_true rfl, Nat.le_of_ble_eq_true rfl⟩) hS hA hP (fun r13 H locs e13 hP hS => ?_)
      by_cases b13 : rr_rg f n x1 x2 = true
      · rw [if_pos b13] at e13
        subst e13
        refine lv_if_eq (tgt := 30) hx hb dX1_work_16 (by decide) (fun c16 => ?_) (fun c16 => ?_)
        · skip
          exact absurd c16 (by decide)
        · skip
          refine lv_aload_n hx hb dX1_work_19 rfl (lv_at hl 0 rfl) ?_
          refine lv_iload hx hb dX1_work_20 (lv_at hl 4 rfl) ?_
          refine lv_iload hx hb dX1_work_22 (lv_at hl 5 rfl) ?_
          refine rr_ri (va_runV (As := [.int x3, .int x4]) (rest := []) ⟨hx, hb, hml, hown, hts⟩ (c_X1_isRange l D h0 qT qS H.size cA f n t lo hi a b x3 x4 hn hk) (cwV 2 hts gX1_work_X1_isRange rfl rfl rfl (by decide +kernel) ⟨Nat.le_of_ble_eq_true rfl, Nat.le_of_ble_eq_true rfl⟩) (rr_vR hK hP (va_recv hK hP (ci := 1) (q0 := 0) rfl rfl)) rfl rfl hl.1 rfl (lv_room (Nat.le_of_ble_eq_true rfl)) dX1_work_24 ⟨Nat.le_of_ble_eq_true rfl, Nat.le_of_ble_eq_true rfl⟩) hS hA hP (fun r24 H locs e24 hP hS => ?_)
          by_cases b24 : rr_rg f n x3 x4 = true
          · rw [if_pos b24] at e24
            subst e24
            refine lv_if_ne (tgt := 32) hx hb dX1_work_27 (by decide) (fun c27 => ?_) (fun c27 => ?_)
            · skip
              rcases rr_ten c1 c7 with rfl | rfl | rfl | rfl | rfl | rfl | rfl | rfl | rfl | rfl
              · skip
                refine lv_iload_n hx hb dX1_work_32 rfl (lv_at hl 1 rfl) ?_
                refine lv_iconst (v := 3) hx hb dX1_work_33 (by decide) ?_
                refine lv_icmp_eq (tgt := 42) hx hb dX1_work_34 (by decide) (fun c34 => ?_) (fun c34 => ?_)
                · skip
                  exact absurd c34 (by decide)
                · skip
                  refine lv_iload_n hx hb dX1_work_37 rfl (lv_at hl 1 rfl) ?_
                  refine lv_iconst (v := 4) hx hb dX1_work_38 (by decide) ?_
                  refine lv_icmp_ne (tgt := 54) hx hb dX1_work_39 (by decide) (fun c39 => ?_) (fun c39 => ?_)
                  · skip
                    refine lv_iload_n hx hb dX1_work_54 rfl (lv_at hl 1 rfl) ?_
                    refine lv_tableIn (off := 49) (tgt := 104) hx hb dX1_work_55 (by decide) (by decide) (by decide +kernel) (by decide) ?_
                    refine lv_aload_n hx hb dX1_work_104 rfl (lv_at hl 0 rfl) ?_
                    refine lv_iload_n hx hb dX1_work_105 rfl (lv_at hl 2 rfl) ?_
                    refine lv_i2l (v := x1.toInt64) hx hb dX1_work_106 rfl ?_
                    refine lv_iload hx hb dX1_work_107 (lv_at hl 4 rfl) ?_
                    refine lv_i2l (v := x3.toInt64) hx hb dX1_work_109 rfl ?_
                    refine lv_ladd hx hb dX1_work_110 ?_
                    refine lv_iload_n hx hb dX1_work_111 rfl (lv_at hl 3 rfl) ?_
                    refine lv_i2l (v := x2.toInt64) hx hb dX1_work_112 rfl ?_
                    refine lv_iload hx hb dX1_work_113 (lv_at hl 5 rfl) ?_
                    refine lv_i2l (v := x4.toInt64) hx hb dX1_work_115 rfl ?_
                    refine lv_ladd hx hb dX1_work_116 ?_
                    refine rr_wv (wr := []) [0, 1, 2] [] (va_runV (As := [.long (x1.toInt64 + x3.toInt64), .long (x2.toInt64 + x4.toInt64)]) (rest := []) ⟨hx, hb, hml, hown, hts⟩ (c_X1_tell l D h0 qT qS H.size cA f n t lo hi a b (x1.toInt64 + x3.toInt64) (x2.toInt64 + x4.toInt64) hn) (cwV 2 hts gX1_work_X1_tell rfl rfl rfl (by decide +kernel) ⟨Nat.le_of_ble_eq_true rfl, Nat.le_of_ble_eq_true rfl⟩) (rr_vW hK hP hD (va_recv hK hP (ci := 1) (q0 := 0) rfl rfl)) rfl rfl hl.1 rfl (lv_room (Nat.le_of_ble_eq_true rfl)) dX1_work_117 ⟨Nat.le_of_ble_eq_true rfl, Nat.le_of_ble_eq_true rfl⟩) hS hA hP hD rfl rfl (by decide) (by decide) (by decide) (fun _ => by simp only [rr_wx, rr_wm, List.map_cons, List.map_nil]) (fun u117 H locs e117 hP hD hS => ?_)
                    have hP : va_P D vwCl [(h0, .inr (1, [.ref qT, .int (nI n), .int (nI t), .int ((rr_tl f n (x1.toInt64 + x3.toInt64) (x2.toInt64 + x4.toInt64)).1), .int ((rr_tl f n (x1.toInt64 + x3.toInt64) (x2.toInt64 + x4.toInt64)).2), .ref qS])), (qT, .inl (cA, 187, .inl f)), (qS, .inr (0, [.long a, .long b]))] H := hP
                    have hD : va_D A [(h0, .inr (1, [.ref qT, .int (nI n), .int (nI t), .int ((rr_tl f n (x1.toInt64 + x3.toInt64) (x2.toInt64 + x4.toInt64)).1), .int ((rr_tl f n (x1.toInt64 + x3.toInt64) (x2.toInt64 + x4.toInt64)).2), .ref qS])), (qT, .inl (cA, 187, .inl f)), (qS, .inr (0, [.long a, .long b]))] := hD
                    refine lv_goto (tgt := 242) hx hb dX1_work_120 (by decide) ?_
                    refine lv_iconst (v := 1) hx hb dX1_work_242 (by decide) ?_
                    have eo : rr_op 0 x1 x2 x3 x4 = (x1.toInt64 + x3.toInt64, x2.toInt64 + x4.toInt64) := by unfold rr_op; rw [if_pos (by decide)]
                    have ee : (rr_wk f n lo hi 0 x1 x2 x3 x4) = (1, rr_tl f n (x1.toInt64 + x3.toInt64, x2.toInt64 + x4.toInt64).1 (x1.toInt64 + x3.toInt64, x2.toInt64 + x4.toInt64).2) := ((if_pos ⟨⟨c1, c7⟩, b13, b24⟩).trans (if_neg (fun z => absurd z.1 (by decide)))).trans (congrArg (fun z : Int64 × Int64 => ((1 : Int32), rr_tl f n z.1 z.2)) eo)
                    exact W.iret (v := 1) hx hb hr (fun tt ht hW => ⟨⟨_, (a, b), rfl, by rw [ee], by dsimp only; rw [ht, ee]; exact hP⟩, hS.F ht⟩) hS.2.2 dX1_work_243
                  · skip
                    exact absurd c39 (by decide)
              · skip
                refine lv_iload_n hx hb dX1_work_32 rfl (lv_at hl 1 rfl) ?_
                refine lv_iconst (v := 3) hx hb dX1_work_33 (by decide) ?_
                refine lv_icmp_eq (tgt := 42) hx hb dX1_work_34 (by decide) (fun c34 => ?_) (fun c34 => ?_)
                · skip
                  exact absurd c34 (by decide)
                · skip
                  refine lv_iload_n hx hb dX1_work_37 rfl (lv_at hl 1 rfl) ?_
                  refine lv_iconst (v := 4) hx hb dX1_work_38 (by decide) ?_
                  refine lv_icmp_ne (tgt := 54) hx hb dX1_work_39 (by decide) (fun c39 => ?_) (fun c39 => ?_)
                  · skip
                    refine lv_iload_n hx hb dX1_work_54 rfl (lv_at hl 1 rfl) ?_
                    refine lv_tableIn (off := 68) (tgt := 123) hx hb dX1_work_55 (by decide) (by decide) (by decide +kernel) (by decide) ?_
                    refine lv_aload_n hx hb dX1_work_123 rfl (lv_at hl 0 rfl) ?_
                    refine lv_iload_n hx hb dX1_work_124 rfl (lv_at hl 2 rfl) ?_
                    refine lv_i2l (v := x1.toInt64) hx hb dX1_work_125 rfl ?_
                    refine lv_iload hx hb dX1_work_126 (lv_at hl 5 rfl) ?_
                    refine lv_i2l (v := x4.toInt64) hx hb dX1_work_128 rfl ?_
                    refine lv_lsub hx hb dX1_work_129 ?_
                    refine lv_iload_n hx hb dX1_work_130 rfl (lv_at hl 3 rfl) ?_
                    refine lv_i2l (v := x2.toInt64) hx hb dX1_work_131 rfl ?_
                    refine lv_iload hx hb dX1_work_132 (lv_at hl 4 rfl) ?_
                    refine lv_i2l (v := x3.toInt64) hx hb dX1_work_134 rfl ?_
                    refine lv_lsub hx hb dX1_work_135 ?_
                    refine rr_wv (wr := []) [0, 1, 2] [] (va_runV (As := [.long (x1.toInt64 - x4.toInt64), .long (x2.toInt64 - x3.toInt64)]) (rest := []) ⟨hx, hb, hml, hown, hts⟩ (c_X1_tell l D h0 qT qS H.size cA f n t lo hi a b (x1.toInt64 - x4.toInt64) (x2.toInt64 - x3.toInt64) hn) (cwV 2 hts gX1_work_X1_tell rfl rfl rfl (by decide +kernel) ⟨Nat.le_of_ble_eq_true rfl, Nat.le_of_ble_eq_true rfl⟩) (rr_vW hK hP hD (va_recv hK hP (ci := 1) (q0 := 0) rfl rfl)) rfl rfl hl.1 rfl (lv_room (Nat.le_of_ble_eq_true rfl)) dX1_work_136 ⟨Nat.le_of_ble_eq_true rfl, Nat.le_of_ble_eq_true rfl⟩) hS hA hP hD rfl rfl (by decide) (by decide) (by decide) (fun _ => by simp only [rr_wx, rr_wm, List.map_cons, List.map_nil]) (fun u136 H locs e136 hP hD hS => ?_)
                    have hP : va_P D vwCl [(h0, .inr (1, [.ref qT, .int (nI n), .int (nI t), .int ((rr_tl f n (x1.toInt64 - x4.toInt64) (x2.toInt64 - x3.toInt64)).1), .int ((rr_tl f n (x1.toInt64 - x4.toInt64) (x2.toInt64 - x3.toInt64)).2), .ref qS])), (qT, .inl (cA, 187, .inl f)), (qS, .inr (0, [.long a, .long b]))] H := hP
                    have hD : va_D A [(h0, .inr (1, [.ref qT, .int (nI n), .int (nI t), .int ((rr_tl f n (x1.toInt64 - x4.toInt64) (x2.toInt64 - x3.toInt64)).1), .int ((rr_tl f n (x1.toInt64 - x4.toInt64) (x2.toInt64 - x3.toInt64)).2), .ref qS])), (qT, .inl (cA, 187, .inl f)), (qS, .inr (0, [.long a, .long b]))] := hD
                    refine lv_goto (tgt := 242) hx hb dX1_work_139 (by decide) ?_
                    refine lv_iconst (v := 1) hx hb dX1_work_242 (by decide) ?_
                    have eo : rr_op 1 x1 x2 x3 x4 = (x1.toInt64 - x4.toInt64, x2.toInt64 - x3.toInt64) := by unfold rr_op; rw [if_neg (by decide), if_pos (by decide)]
                    have ee : (rr_wk f n lo hi 1 x1 x2 x3 x4) = (1, rr_tl f n (x1.toInt64 - x4.toInt64, x2.toInt64 - x3.toInt64).1 (x1.toInt64 - x4.toInt64, x2.toInt64 - x3.toInt64).2) := ((if_pos ⟨⟨c1, c7⟩, b13, b24⟩).trans (if_neg (fun z => absurd z.1 (by decide)))).trans (congrArg (fun z : Int64 × Int64 => ((1 : Int32), rr_tl f n z.1 z.2)) eo)
                    exact W.iret (v := 1) hx hb hr (fun tt ht hW => ⟨⟨_, (a, b), rfl, by rw [ee], by dsimp only; rw [ht, ee]; exact hP⟩, hS.F ht⟩) hS.2.2 dX1_work_243
                  · skip
                    exact absurd c39 (by decide)
              · skip
                refine lv_iload_n hx hb dX1_work_32 rfl (lv_at hl 1 rfl) ?_
                refine lv_iconst (v := 3) hx hb dX1_work_33 (by decide) ?_
                refine lv_icmp_eq (tgt := 42) hx hb dX1_work_34 (by decide) (fun c34 => ?_) (fun c34 => ?_)
                · skip
                  exact absurd c34 (by decide)
                · skip
                  refine lv_iload_n hx hb dX1_work_37 rfl (lv_at hl 1 rfl) ?_
                  refine lv_iconst (v := 4) hx hb dX1_work_38 (by decide) ?_
                  refine lv_icmp_ne (tgt := 54) hx hb dX1_work_39 (by decide) (fun c39 => ?_) (fun c39 => ?_)
                  · skip
                    refine lv_iload_n hx hb dX1_work_54 rfl (lv_at hl 1 rfl) ?_
                    refine lv_tableIn (off := 87) (tgt := 142) hx hb dX1_work_55 (by decide) (by decide) (by decide +kernel) (by decide) ?_
                    refine lv_aload_n hx hb dX1_work_142 rfl (lv_at hl 0 rfl) ?_
                    refine lv_iload_n hx hb dX1_work_143 rfl (lv_at hl 2 rfl) ?_
                    refine lv_i2l (v := x1.toInt64) hx hb dX1_work_144 rfl ?_
                    refine lv_iload_n hx hb dX1_work_145 rfl (lv_at hl 3 rfl) ?_
                    refine lv_i2l (v := x2.toInt64) hx hb dX1_work_146 rfl ?_
                    refine lv_iload hx hb dX1_work_147 (lv_at hl 4 rfl) ?_
                    refine lv_i2l (v := x3.toInt64) hx hb dX1_work_149 rfl ?_
                    refine lv_iload hx hb dX1_work_150 (lv_at hl 5 rfl) ?_
                    refine lv_i2l (v := x4.toInt64) hx hb dX1_work_152 rfl ?_
                    refine rr_wv (wr := []) [0, 1, 2] [] (va_runV (As := [.long x1.toInt64, .long x2.toInt64, .long x3.toInt64, .long x4.toInt64]) (rest := []) ⟨hx, hb, hml, hown, hts⟩ (c_X1_multiply l D h0 qT qS H.size cA f n t lo hi a b x1.toInt64 x2.toInt64 x3.toInt64 x4.toInt64 hn) (cwV 4 hts gX1_work_X1_multiply rfl rfl rfl (by decide +kernel) ⟨Nat.le_of_ble_eq_true rfl, Nat.le_of_ble_eq_true rfl⟩) (rr_vN hN hK hP hD (va_recv hK hP (ci := 1) (q0 := 0) rfl rfl)) rfl rfl hl.1 rfl (lv_room (Nat.le_of_ble_eq_true rfl)) dX1_work_153 ⟨Nat.le_of_ble_eq_true rfl, Nat.le_of_ble_eq_true rfl⟩) hS hA hP hD rfl rfl (by decide) (by decide) (by decide) (fun _ => by simp only [rr_wx, rr_wm, List.map_cons, List.map_nil]) (fun u153 H locs e153 hP hD hS => ?_)
                    have hP : va_P D vwCl [(h0, .inr (1, [.ref qT, .int (nI n), .int (nI t), .int ((rr_tl f n (rr_o2 x1.toInt64 x2.toInt64 x3.toInt64 x4.toInt64).1 (rr_o2 x1.toInt64 x2.toInt64 x3.toInt64 x4.toInt64).2).1), .int ((rr_tl f n (rr_o2 x1.toInt64 x2.toInt64 x3.toInt64 x4.toInt64).1 (rr_o2 x1.toInt64 x2.toInt64 x3.toInt64 x4.toInt64).2).2), .ref qS])), (qT, .inl (cA, 187, .inl f)), (qS, .inr (0, [.long u153.1, .long u153.2]))] H := hP
                    have hD : va_D A [(h0, .inr (1, [.ref qT, .int (nI n), .int (nI t), .int ((rr_tl f n (rr_o2 x1.toInt64 x2.toInt64 x3.toInt64 x4.toInt64).1 (rr_o2 x1.toInt64 x2.toInt64 x3.toInt64 x4.toInt64).2).1), .int ((rr_tl f n (rr_o2 x1.toInt64 x2.toInt64 x3.toInt64 x4.toInt64).1 (rr_o2 x1.toInt64 x2.toInt64 x3.toInt64 x4.toInt64).2).2), .ref qS])), (qT, .inl (cA, 187, .inl f)), (qS, .inr (0, [.long u153.1, .long u153.2]))] := hD
                    refine lv_goto (tgt := 242) hx hb dX1_work_156 (by decide) ?_
                    refine lv_iconst (v := 1) hx hb dX1_work_242 (by decide) ?_
                    have eo : rr_op 2 x1 x2 x3 x4 = (rr_o2 x1.toInt64 x2.toInt64 x3.toInt64 x4.toInt64) := by unfold rr_op; rw [if_neg (by decide), if_neg (by decide), if_pos (by decide)]
                    have ee : (rr_wk f n lo hi 2 x1 x2 x3 x4) = (1, rr_tl f n (rr_o2 x1.toInt64 x2.toInt64 x3.toInt64 x4.toInt64).1 (rr_o2 x1.toInt64 x2.toInt64 x3.toInt64 x4.toInt64).2) := ((if_pos ⟨⟨c1, c7⟩, b13, b24⟩).trans (if_neg (fun z => absurd z.1 (by decide)))).trans (congrArg (fun z : Int64 × Int64 => ((1 : Int32), rr_tl f n z.1 z.2)) eo)
                    exact W.iret (v := 1) hx hb hr (fun tt ht hW => ⟨⟨_, (u153.1, u153.2), rfl, by rw [ee], by dsimp only; rw [ht, ee]; exact hP⟩, hS.F ht⟩) hS.2.2 dX1_work_243
                  · skip
                    exact absurd c39 (by decide)
              · skip
                refine lv_iload_n hx hb dX1_work_32 rfl (lv_at hl 1 rfl) ?_
                refine lv_iconst (v := 3) hx hb dX1_work_33 (by decide) ?_
                refine lv_icmp_eq (tgt := 42) hx hb dX1_work_34 (by decide) (fun c34 => ?_) (fun c34 => ?_)
                · skip
                  refine lv_iload hx hb dX1_work_42 (lv_at hl 4 rfl) ?_
                  refine lv_if_ne (tgt := 54) hx hb dX1_work_44 (by decide) (fun c44 => ?_) (fun c44 => ?_)
                  · skip
                    refine lv_iload_n hx hb dX1_work_54 rfl (lv_at hl 1 rfl) ?_
                    refine lv_tableIn (off := 104) (tgt := 159) hx hb dX1_work_55 (by decide) (by decide) (by decide +kernel) (by decide) ?_
                    refine lv_aload_n hx hb dX1_work_159 rfl (lv_at hl 0 rfl) ?_
                    refine lv_iload_n hx hb dX1_work_160 rfl (lv_at hl 2 rfl) ?_
                    refine lv_i2l (v := x1.toInt64) hx hb dX1_work_161 rfl ?_
                    refine lv_iload_n hx hb dX1_work_162 rfl (lv_at hl 3 rfl) ?_
                    refine lv_i2l (v := x2.toInt64) hx hb dX1_work_163 rfl ?_
                    refine lv_iload hx hb dX1_work_164 (lv_at hl 4 rfl) ?_
                    refine lv_i2l (v := x3.toInt64) hx hb dX1_work_166 rfl ?_
                    refine lv_iload hx hb dX1_work_167 (lv_at hl 5 rfl) ?_
                    refine lv_i2l (v := x4.toInt64) hx hb dX1_work_169 rfl ?_
                    refine rr_wv (wr := []) [0, 1, 2] [] (va_runV (As := [.long x1.toInt64, .long x2.toInt64, .long x3.toInt64, .long x4.toInt64]) (rest := []) ⟨hx, hb, hml, hown, hts⟩ (c_X1_divide l D h0 qT qS H.size cA f n t lo hi a b x1.toInt64 x2.toInt64 x3.toInt64 x4.toInt64 hn (rr_64 (rr_rg_iff.mp b24).1)) (cwV 4 hts gX1_work_X1_divide rfl rfl rfl (by decide +kernel) ⟨Nat.le_of_ble_eq_true rfl, Nat.le_of_ble_eq_true rfl⟩) (rr_vN hN hK hP hD (va_recv hK hP (ci := 1) (q0 := 0) rfl rfl)) rfl rfl hl.1 rfl (lv_room (Nat.le_of_ble_eq_true rfl)) dX1_work_170 ⟨Nat.le_of_ble_eq_true rfl, Nat.le_of_ble_eq_true rfl⟩) hS hA hP hD rfl rfl (by decide) (by decide) (by decide) (fun _ => by simp only [rr_wx, rr_wm, List.map_cons, List.map_nil]) (fun u170 H locs e170 hP hD hS => ?_)
                    have hP : va_P D vwCl [(h0, .inr (1, [.ref qT, .int (nI n), .int (nI t), .int ((rr_tl f n (rr_qs x1.toInt64 x2.toInt64 x3.toInt64 x4.toInt64).1 (rr_qs x1.toInt64 x2.toInt64 x3.toInt64 x4.toInt64).2).1), .int ((rr_tl f n (rr_qs x1.toInt64 x2.toInt64 x3.toInt64 x4.toInt64).1 (rr_qs x1.toInt64 x2.toInt64 x3.toInt64 x4.toInt64).2).2), .ref qS])), (qT, .inl (cA, 187, .inl f)), (qS, .inr (0, [.long u170.1, .long u170.2]))] H := hP
                    have hD : va_D A [(h0, .inr (1, [.ref qT, .int (nI n), .int (nI t), .int ((rr_tl f n (rr_qs x1.toInt64 x2.toInt64 x3.toInt64 x4.toInt64).1 (rr_qs x1.toInt64 x2.toInt64 x3.toInt64 x4.toInt64).2).1), .int ((rr_tl f n (rr_qs x1.toInt64 x2.toInt64 x3.toInt64 x4.toInt64).1 (rr_qs x1.toInt64 x2.toInt64 x3.toInt64 x4.toInt64).2).2), .ref qS])), (qT, .inl (cA, 187, .inl f)), (qS, .inr (0, [.long u170.1, .long u170.2]))] := hD
                    refine lv_goto (tgt := 242) hx hb dX1_work_173 (by decide) ?_
                    refine lv_iconst (v := 1) hx hb dX1_work_242 (by decide) ?_
                    have eo : rr_op 3 x1 x2 x3 x4 = (rr_qs x1.toInt64 x2.toInt64 x3.toInt64 x4.toInt64) := by unfold rr_op; rw [if_neg (by decide), if_neg (by decide), if_neg (by decide), if_pos (by decide)]
                    have ee : (rr_wk f n lo hi 3 x1 x2 x3 x4) = (1, rr_tl f n (rr_qs x1.toInt64 x2.toInt64 x3.toInt64 x4.toInt64).1 (rr_qs x1.toInt64 x2.toInt64 x3.toInt64 x4.toInt64).2) := ((if_pos ⟨⟨c1, c7⟩, b13, b24⟩).trans (if_neg (fun z => c44 z.2.1))).trans (congrArg (fun z : Int64 × Int64 => ((1 : Int32), rr_tl f n z.1 z.2)) eo)
                    exact W.iret (v := 1) hx hb hr (fun tt ht hW => ⟨⟨_, (u170.1, u170.2), rfl, by rw [ee], by dsimp only; rw [ht, ee]; exact hP⟩, hS.F ht⟩) hS.2.2 dX1_work_243
                  · skip
                    refine lv_iload hx hb dX1_work_47 (lv_at hl 5 rfl) ?_
                    refine lv_if_ne (tgt := 54) hx hb dX1_work_49 (by decide) (fun c49 => ?_) (fun c49 => ?_)
                    · skip
                      refine lv_iload_n hx hb dX1_work_54 rfl (lv_at hl 1 rfl) ?_
                      refine lv_tableIn (off := 104) (tgt := 159) hx hb dX1_work_55 (by decide) (by decide) (by decide +kernel) (by decide) ?_
                      refine lv_aload_n hx hb dX1_work_159 rfl (lv_at hl 0 rfl) ?_
                      refine lv_iload_n hx hb dX1_work_160 rfl (lv_at hl 2 rfl) ?_
                      refine lv_i2l (v := x1.toInt64) hx hb dX1_work_161 rfl ?_
                      refine lv_iload_n hx hb dX1_work_162 rfl (lv_at hl 3 rfl) ?_
                      refine lv_i2l (v := x2.toInt64) hx hb dX1_work_163 rfl ?_
                      refine lv_iload hx hb dX1_work_164 (lv_at hl 4 rfl) ?_
                      refine lv_i2l (v := x3.toInt64) hx hb dX1_work_166 rfl ?_
                      refine lv_iload hx hb dX1_work_167 (lv_at hl 5 rfl) ?_
                      refine lv_i2l (v := x4.toInt64) hx hb dX1_work_169 rfl ?_
                      refine rr_wv (wr := []) [0, 1, 2] [] (va_runV (As := [.long x1.toInt64, .long x2.toInt64, .long x3.toInt64, .long x4.toInt64]) (rest := []) ⟨hx, hb, hml, hown, hts⟩ (c_X1_divide l D h0 qT qS H.size cA f n t lo hi a b x1.toInt64 x2.toInt64 x3.toInt64 x4.toInt64 hn (rr_64 (rr_rg_iff.mp b24).1)) (cwV 4 hts gX1_work_X1_divide rfl rfl rfl (by decide +kernel) ⟨Nat.le_of_ble_eq_true rfl, Nat.le_of_ble_eq_true rfl⟩) (rr_vN hN hK hP hD (va_recv hK hP (ci := 1) (q0 := 0) rfl rfl)) rfl rfl hl.1 rfl (lv_room (Nat.le_of_ble_eq_true rfl)) dX1_work_170 ⟨Nat.le_of_ble_eq_true rfl, Nat.le_of_ble_eq_true rfl⟩) hS hA hP hD rfl rfl (by decide) (by decide) (by decide) (fun _ => by simp only [rr_wx, rr_wm, List.map_cons, List.map_nil]) (fun u170 H locs e170 hP hD hS => ?_)
                      have hP : va_P D vwCl [(h0, .inr (1, [.ref qT, .int (nI n), .int (nI t), .int ((rr_tl f n (rr_qs x1.toInt64 x2.toInt64 x3.toInt64 x4.toInt64).1 (rr_qs x1.toInt64 x2.toInt64 x3.toInt64 x4.toInt64).2).1), .int ((rr_tl f n (rr_qs x1.toInt64 x2.toInt64 x3.toInt64 x4.toInt64).1 (rr_qs x1.toInt64 x2.toInt64 x3.toInt64 x4.toInt64).2).2), .ref qS])), (qT, .inl (cA, 187, .inl f)), (qS, .inr (0, [.long u170.1, .long u170.2]))] H := hP
                      have hD : va_D A [(h0, .inr (1, [.ref qT, .int (nI n), .int (nI t), .int ((rr_tl f n (rr_qs x1.toInt64 x2.toInt64 x3.toInt64 x4.toInt64).1 (rr_qs x1.toInt64 x2.toInt64 x3.toInt64 x4.toInt64).2).1), .int ((rr_tl f n (rr_qs x1.toInt64 x2.toInt64 x3.toInt64 x4.toInt64).1 (rr_qs x1.toInt64 x2.toInt64 x3.toInt64 x4.toInt64).2).2), .ref qS])), (qT, .inl (cA, 187, .inl f)), (qS, .inr (0, [.long u170.1, .long u170.2]))] := hD
                      refine lv_goto (tgt := 242) hx hb dX1_work_173 (by decide) ?_
                      refine lv_iconst (v := 1) hx hb dX1_work_242 (by decide) ?_
                      have eo : rr_op 3 x1 x2 x3 x4 = (rr_qs x1.toInt64 x2.toInt64 x3.toInt64 x4.toInt64) := by unfold rr_op; rw [if_neg (by decide), if_neg (by decide), if_neg (by decide), if_pos (by decide)]
                      have ee : (rr_wk f n lo hi 3 x1 x2 x3 x4) = (1, rr_tl f n (rr_qs x1.toInt64 x2.toInt64 x3.toInt64 x4.toInt64).1 (rr_qs x1.toInt64 x2.toInt64 x3.toInt64 x4.toInt64).2) := ((if_pos ⟨⟨c1, c7⟩, b13, b24⟩).trans (if_neg (fun z => c49 z.2.2))).trans (congrArg (fun z : Int64 × Int64 => ((1 : Int32), rr_tl f n z.1 z.2)) eo)
                      exact W.iret (v := 1) hx hb hr (fun tt ht hW => ⟨⟨_, (u170.1, u170.2), rfl, by rw [ee], by dsimp only; rw [ht, ee]; exact hP⟩, hS.F ht⟩) hS.2.2 dX1_work_243
                    · skip
                      refine lv_iconst (v := 0) hx hb dX1_work_52 (by decide) ?_
                      have ee : (rr_wk f n lo hi 3 x1 x2 x3 x4) = (0, lo, hi) := (if_pos ⟨⟨c1, c7⟩, b13, b24⟩).trans (if_pos ⟨by decide, c44, c49⟩)
                      exact W.iret (v := 0) hx hb hr (fun tt ht hW => ⟨⟨_, (a, b), rfl, by rw [ee], by dsimp only; rw [ht, ee]; exact hP⟩, hS.F ht⟩) hS.2.2 dX1_work_53
                · skip
                  exact absurd c34 (by decide)
              · skip
                refine lv_iload_n hx hb dX1_work_32 rfl (lv_at hl 1 rfl) ?_
                refine lv_iconst (v := 3) hx hb dX1_work_33 (by decide) ?_
                refine lv_icmp_eq (tgt := 42) hx hb dX1_work_34 (by decide) (fun c34 => ?_) (fun c34 => ?_)
                · skip
                  exact absurd c34 (by decide)
                · skip
                  refine lv_iload_n hx hb dX1_work_37 rfl (lv_at hl 1 rfl) ?_
                  refine lv_iconst (v := 4) hx hb dX1_work_38 (by decide) ?_
                  refine lv_icmp_ne (tgt := 54) hx hb dX1_work_39 (by decide) (fun c39 => ?_) (fun c39 => ?_)
                  · skip
                    exact absurd c39 (by decide)
                  · skip
                    refine lv_iload hx hb dX1_work_42 (lv_at hl 4 rfl) ?_
                    refine lv_if_ne (tgt := 54) hx hb dX1_work_44 (by decide) (fun c44 => ?_) (fun c44 => ?_)
                    · skip
                      refine lv_iload_n hx hb dX1_work_54 rfl (lv_at hl 1 rfl) ?_
                      refine lv_tableIn (off := 121) (tgt := 176) hx hb dX1_work_55 (by decide) (by decide) (by decide +kernel) (by decide) ?_
                      refine lv_aload_n hx hb dX1_work_176 rfl (lv_at hl 0 rfl) ?_
                      refine lv_iload_n hx hb dX1_work_177 rfl (lv_at hl 2 rfl) ?_
                      refine lv_i2l (v := x1.toInt64) hx hb dX1_work_178 rfl ?_
                      refine lv_iload_n hx hb dX1_work_179 rfl (lv_at hl 3 rfl) ?_
                      refine lv_i2l (v := x2.toInt64) hx hb dX1_work_180 rfl ?_
                      refine lv_iload hx hb dX1_work_181 (lv_at hl 4 rfl) ?_
                      refine lv_i2l (v := x3.toInt64) hx hb dX1_work_183 rfl ?_
                      refine lv_iload hx hb dX1_work_184 (lv_at hl 5 rfl) ?_
                      refine lv_i2l (v := x4.toInt64) hx hb dX1_work_186 rfl ?_
                      refine rr_wv (wr := []) [0, 1, 2] [] (va_runV (As := [.long x1.toInt64, .long x2.toInt64, .long x3.toInt64, .long x4.toInt64]) (rest := []) ⟨hx, hb, hml, hown, hts⟩ (c_X1_rest l D h0 qT qS H.size cA f n t lo hi a b x1.toInt64 x2.toInt64 x3.toInt64 x4.toInt64 hn) (cwV 4 hts gX1_work_X1_rest rfl rfl rfl (by decide +kernel) ⟨Nat.le_of_ble_eq_true rfl, Nat.le_of_ble_eq_true rfl⟩) (rr_vW hK hP hD (va_recv hK hP (ci := 1) (q0 := 0) rfl rfl)) rfl rfl hl.1 rfl (lv_room (Nat.le_of_ble_eq_true rfl)) dX1_work_187 ⟨Nat.le_of_ble_eq_true rfl, Nat.le_of_ble_eq_true rfl⟩) hS hA hP hD rfl rfl (by decide) (by decide) (by decide) (fun _ => by simp only [rr_wx, rr_wm, List.map_cons, List.map_nil]) (fun u187 H locs e187 hP hD hS => ?_)
                      have hP : va_P D vwCl [(h0, .inr (1, [.ref qT, .int (nI n), .int (nI t), .int ((rr_tl f n (rr_rs x1.toInt64 x2.toInt64 x3.toInt64 x4.toInt64).1 (rr_rs x1.toInt64 x2.toInt64 x3.toInt64 x4.toInt64).2).1), .int ((rr_tl f n (rr_rs x1.toInt64 x2.toInt64 x3.toInt64 x4.toInt64).1 (rr_rs x1.toInt64 x2.toInt64 x3.toInt64 x4.toInt64).2).2), .ref qS])), (qT, .inl (cA, 187, .inl f)), (qS, .inr (0, [.long a, .long b]))] H := hP
                      have hD : va_D A [(h0, .inr (1, [.ref qT, .int (nI n), .int (nI t), .int ((rr_tl f n (rr_rs x1.toInt64 x2.toInt64 x3.toInt64 x4.toInt64).1 (rr_rs x1.toInt64 x2.toInt64 x3.toInt64 x4.toInt64).2).1), .int ((rr_tl f n (rr_rs x1.toInt64 x2.toInt64 x3.toInt64 x4.toInt64).1 (rr_rs x1.toInt64 x2.toInt64 x3.toInt64 x4.toInt64).2).2), .ref qS])), (qT, .inl (cA, 187, .inl f)), (qS, .inr (0, [.long a, .long b]))] := hD
                      refine lv_goto (tgt := 242) hx hb dX1_work_190 (by decide) ?_
                      refine lv_iconst (v := 1) hx hb dX1_work_242 (by decide) ?_
                      have eo : rr_op 4 x1 x2 x3 x4 = (rr_rs x1.toInt64 x2.toInt64 x3.toInt64 x4.toInt64) := by unfold rr_op; rw [if_neg (by decide), if_neg (by decide), if_neg (by decide), if_neg (by decide), if_pos (by decide)]
                      have ee : (rr_wk f n lo hi 4 x1 x2 x3 x4) = (1, rr_tl f n (rr_rs x1.toInt64 x2.toInt64 x3.toInt64 x4.toInt64).1 (rr_rs x1.toInt64 x2.toInt64 x3.toInt64 x4.toInt64).2) := ((if_pos ⟨⟨c1, c7⟩, b13, b24⟩).trans (if_neg (fun z => c44 z.2.1))).trans (congrArg (fun z : Int64 × Int64 => ((1 : Int32), rr_tl f n z.1 z.2)) eo)
                      exact W.iret (v := 1) hx hb hr (fun tt ht hW => ⟨⟨_, (a, b), rfl, by rw [ee], by dsimp only; rw [ht, ee]; exact hP⟩, hS.F ht⟩) hS.2.2 dX1_work_243
                    · skip
                      refine lv_iload hx hb dX1_work_47 (lv_at hl 5 rfl) ?_
                      refine lv_if_ne (tgt := 54) hx hb dX1_work_49 (by decide) (fun c49 => ?_) (fun c49 => ?_)
                      · skip
                        refine lv_iload_n hx hb dX1_work_54 rfl (lv_at hl 1 rfl) ?_
                        refine lv_tableIn (off := 121) (tgt := 176) hx hb dX1_work_55 (by decide) (by decide) (by decide +kernel) (by decide) ?_
                        refine lv_aload_n hx hb dX1_work_176 rfl (lv_at hl 0 rfl) ?_
                        refine lv_iload_n hx hb dX1_work_177 rfl (lv_at hl 2 rfl) ?_
                        refine lv_i2l (v := x1.toInt64) hx hb dX1_work_178 rfl ?_
                        refine lv_iload_n hx hb dX1_work_179 rfl (lv_at hl 3 rfl) ?_
                        refine lv_i2l (v := x2.toInt64) hx hb dX1_work_180 rfl ?_
                        refine lv_iload hx hb dX1_work_181 (lv_at hl 4 rfl) ?_
                        refine lv_i2l (v := x3.toInt64) hx hb dX1_work_183 rfl ?_
                        refine lv_iload hx hb dX1_work_184 (lv_at hl 5 rfl) ?_
                        refine lv_i2l (v := x4.toInt64) hx hb dX1_work_186 rfl ?_
                        refine rr_wv (wr := []) [0, 1, 2] [] (va_runV (As := [.long x1.toInt64, .long x2.toInt64, .long x3.toInt64, .long x4.toInt64]) (rest := []) ⟨hx, hb, hml, hown, hts⟩ (c_X1_rest l D h0 qT qS H.size cA f n t lo hi a b x1.toInt64 x2.toInt64 x3.toInt64 x4.toInt64 hn) (cwV 4 hts gX1_work_X1_rest rfl rfl rfl (by decide +kernel) ⟨Nat.le_of_ble_eq_true rfl, Nat.le_of_ble_eq_true rfl⟩) (rr_vW hK hP hD (va_recv hK hP (ci := 1) (q0 := 0) rfl rfl)) rfl rfl hl.1 rfl (lv_room (Nat.le_of_ble_eq_true rfl)) dX1_work_187 ⟨Nat.le_of_ble_eq_true rfl, Nat.le_of_ble_eq_true rfl⟩) hS hA hP hD rfl rfl (by decide) (by decide) (by decide) (fun _ => by simp only [rr_wx, rr_wm, List.map_cons, List.map_nil]) (fun u187 H locs e187 hP hD hS => ?_)
                        have hP : va_P D vwCl [(h0, .inr (1, [.ref qT, .int (nI n), .int (nI t), .int ((rr_tl f n (rr_rs x1.toInt64 x2.toInt64 x3.toInt64 x4.toInt64).1 (rr_rs x1.toInt64 x2.toInt64 x3.toInt64 x4.toInt64).2).1), .int ((rr_tl f n (rr_rs x1.toInt64 x2.toInt64 x3.toInt64 x4.toInt64).1 (rr_rs x1.toInt64 x2.toInt64 x3.toInt64 x4.toInt64).2).2), .ref qS])), (qT, .inl (cA, 187, .inl f)), (qS, .inr (0, [.long a, .long b]))] H := hP
                        have hD : va_D A [(h0, .inr (1, [.ref qT, .int (nI n), .int (nI t), .int ((rr_tl f n (rr_rs x1.toInt64 x2.toInt64 x3.toInt64 x4.toInt64).1 (rr_rs x1.toInt64 x2.toInt64 x3.toInt64 x4.toInt64).2).1), .int ((rr_tl f n (rr_rs x1.toInt64 x2.toInt64 x3.toInt64 x4.toInt64).1 (rr_rs x1.toInt64 x2.toInt64 x3.toInt64 x4.toInt64).2).2), .ref qS])), (qT, .inl (cA, 187, .inl f)), (qS, .inr (0, [.long a, .long b]))] := hD
                        refine lv_goto (tgt := 242) hx hb dX1_work_190 (by decide) ?_
                        refine lv_iconst (v := 1) hx hb dX1_work_242 (by decide) ?_
                        have eo : rr_op 4 x1 x2 x3 x4 = (rr_rs x1.toInt64 x2.toInt64 x3.toInt64 x4.toInt64) := by unfold rr_op; rw [if_neg (by decide), if_neg (by decide), if_neg (by decide), if_neg (by decide), if_pos (by decide)]
                        have ee : (rr_wk f n lo hi 4 x1 x2 x3 x4) = (1, rr_tl f n (rr_rs x1.toInt64 x2.toInt64 x3.toInt64 x4.toInt64).1 (rr_rs x1.toInt64 x2.toInt64 x3.toInt64 x4.toInt64).2) := ((if_pos ⟨⟨c1, c7⟩, b13, b24⟩).trans (if_neg (fun z => c49 z.2.2))).trans (congrArg (fun z : Int64 × Int64 => ((1 : Int32), rr_tl f n z.1 z.2)) eo)
                        exact W.iret (v := 1) hx hb hr (fun tt ht hW => ⟨⟨_, (a, b), rfl, by rw [ee], by dsimp only; rw [ht, ee]; exact hP⟩, hS.F ht⟩) hS.2.2 dX1_work_243
                      · skip
                        refine lv_iconst (v := 0) hx hb dX1_work_52 (by decide) ?_
                        have ee : (rr_wk f n lo hi 4 x1 x2 x3 x4) = (0, lo, hi) := (if_pos ⟨⟨c1, c7⟩, b13, b24⟩).trans (if_pos ⟨by decide, c44, c49⟩)
                        exact W.iret (v := 0) hx hb hr (fun tt ht hW => ⟨⟨_, (a, b), rfl, by rw [ee], by dsimp only; rw [ht, ee]; exact hP⟩, hS.F ht⟩) hS.2.2 dX1_work_53
              · skip
                refine lv_iload_n hx hb dX1_work_32 rfl (lv_at hl 1 rfl) ?_
                refine lv_iconst (v := 3) hx hb dX1_work_33 (by decide) ?_
                refine lv_icmp_eq (tgt := 42) hx hb dX1_work_34 (by decide) (fun c34 => ?_) (fun c34 => ?_)
                · skip
                  exact absurd c34 (by decide)
                · skip
                  refine lv_iload_n hx hb dX1_work_37 rfl (lv_at hl 1 rfl) ?_
                  refine lv_iconst (v := 4) hx hb dX1_work_38 (by decide) ?_
                  refine lv_icmp_ne (tgt := 54) hx hb dX1_work_39 (by decide) (fun c39 => ?_) (fun c39 => ?_)
                  · skip
                    refine lv_iload_n hx hb dX1_work_54 rfl (lv_at hl 1 rfl) ?_
                    refine lv_tableIn (off := 138) (tgt := 193) hx hb dX1_work_55 (by decide) (by decide) (by decide +kernel) (by decide) ?_
                    refine lv_aload_n hx hb dX1_work_193 rfl (lv_at hl 0 rfl) ?_
                    refine lv_iload_n hx hb dX1_work_194 rfl (lv_at hl 2 rfl) ?_
                    refine lv_iload_n hx hb dX1_work_195 rfl (lv_at hl 3 rfl) ?_
                    refine lv_iload hx hb dX1_work_196 (lv_at hl 4 rfl) ?_
                    refine lv_iload hx hb dX1_work_198 (lv_at hl 5 rfl) ?_
                    refine rr_wv (wr := []) [0, 1, 2] [] (va_runV (As := [.int x1, .int x2, .int x3, .int x4]) (rest := []) ⟨hx, hb, hml, hown, hts⟩ (c_X1_and l D h0 qT qS H.size cA f n t lo hi a b x1 x2 x3 x4 hn) (cwV 4 hts gX1_work_X1_and rfl rfl rfl (by decide +kernel) ⟨Nat.le_of_ble_eq_true rfl, Nat.le_of_ble_eq_true rfl⟩) (rr_vW hK hP hD (va_recv hK hP (ci := 1) (q0 := 0) rfl rfl)) rfl rfl hl.1 rfl (lv_room (Nat.le_of_ble_eq_true rfl)) dX1_work_200 ⟨Nat.le_of_ble_eq_true rfl, Nat.le_of_ble_eq_true rfl⟩) hS hA hP hD rfl rfl (by decide) (by decide) (by decide) (fun _ => by simp only [rr_wx, rr_wm, List.map_cons, List.map_nil]) (fun u200 H locs e200 hP hD hS => ?_)
                    have hP : va_P D vwCl [(h0, .inr (1, [.ref qT, .int (nI n), .int (nI t), .int ((rr_tl f n (rr_o5 x1 x2 x3 x4).1 (rr_o5 x1 x2 x3 x4).2).1), .int ((rr_tl f n (rr_o5 x1 x2 x3 x4).1 (rr_o5 x1 x2 x3 x4).2).2), .ref qS])), (qT, .inl (cA, 187, .inl f)), (qS, .inr (0, [.long a, .long b]))] H := hP
                    have hD : va_D A [(h0, .inr (1, [.ref qT, .int (nI n), .int (nI t), .int ((rr_tl f n (rr_o5 x1 x2 x3 x4).1 (rr_o5 x1 x2 x3 x4).2).1), .int ((rr_tl f n (rr_o5 x1 x2 x3 x4).1 (rr_o5 x1 x2 x3 x4).2).2), .ref qS])), (qT, .inl (cA, 187, .inl f)), (qS, .inr (0, [.long a, .long b]))] := hD
                    refine lv_goto (tgt := 242) hx hb dX1_work_203 (by decide) ?_
                    refine lv_iconst (v := 1) hx hb dX1_work_242 (by decide) ?_
                    have eo : rr_op 5 x1 x2 x3 x4 = (rr_o5 x1 x2 x3 x4) := by unfold rr_op; rw [if_neg (by decide), if_neg (by decide), if_neg (by decide), if_neg (by decide), if_neg (by decide), if_pos (by decide)]
                    have ee : (rr_wk f n lo hi 5 x1 x2 x3 x4) = (1, rr_tl f n (rr_o5 x1 x2 x3 x4).1 (rr_o5 x1 x2 x3 x4).2) := ((if_pos ⟨⟨c1, c7⟩, b13, b24⟩).trans (if_neg (fun z => absurd z.1 (by decide)))).trans (congrArg (fun z : Int64 × Int64 => ((1 : Int32), rr_tl f n z.1 z.2)) eo)
                    exact W.iret (v := 1) hx hb hr (fun tt ht hW => ⟨⟨_, (a, b), rfl, by rw [ee], by dsimp only; rw [ht, ee]; exact hP⟩, hS.F ht⟩) hS.2.2 dX1_work_243
                  · skip
                    exact absurd c39 (by decide)
              · skip
                refine lv_iload_n hx hb dX1_work_32 rfl (lv_at hl 1 rfl) ?_
                refine lv_iconst (v := 3) hx hb dX1_work_33 (by decide) ?_
                refine lv_icmp_eq (tgt := 42) hx hb dX1_work_34 (by decide) (fun c34 => ?_) (fun c34 => ?_)
                · skip
                  exact absurd c34 (by decide)
                · skip
                  refine lv_iload_n hx hb dX1_work_37 rfl (lv_at hl 1 rfl) ?_
                  refine lv_iconst (v := 4) hx hb dX1_work_38 (by decide) ?_
                  refine lv_icmp_ne (tgt := 54) hx hb dX1_work_39 (by decide) (fun c39 => ?_) (fun c39 => ?_)
                  · skip
                    refine lv_iload_n hx hb dX1_work_54 rfl (lv_at hl 1 rfl) ?_
                    refine lv_tableIn (off := 151) (tgt := 206) hx hb dX1_work_55 (by decide) (by decide) (by decide +kernel) (by decide) ?_
                    refine lv_aload_n hx hb dX1_work_206 rfl (lv_at hl 0 rfl) ?_
                    refine lv_iload_n hx hb dX1_work_207 rfl (lv_at hl 2 rfl) ?_
                    refine lv_iload_n hx hb dX1_work_208 rfl (lv_at hl 3 rfl) ?_
                    refine lv_iload hx hb dX1_work_209 (lv_at hl 4 rfl) ?_
                    refine lv_iload hx hb dX1_work_211 (lv_at hl 5 rfl) ?_
                    refine rr_wv (wr := []) [0, 1, 2] [] (va_runV (As := [.int x1, .int x2, .int x3, .int x4]) (rest := []) ⟨hx, hb, hml, hown, hts⟩ (c_X1_orOrXor l D h0 qT qS H.size cA f n t lo hi a b x1 x2 x3 x4 hn) (cwV 4 hts gX1_work_X1_orOrXor rfl rfl rfl (by decide +kernel) ⟨Nat.le_of_ble_eq_true rfl, Nat.le_of_ble_eq_true rfl⟩) (rr_vW hK hP hD (va_recv hK hP (ci := 1) (q0 := 0) rfl rfl)) rfl rfl hl.1 rfl (lv_room (Nat.le_of_ble_eq_true rfl)) dX1_work_213 ⟨Nat.le_of_ble_eq_true rfl, Nat.le_of_ble_eq_true rfl⟩) hS hA hP hD rfl rfl (by decide) (by decide) (by decide) (fun _ => by simp only [rr_wx, rr_wm, List.map_cons, List.map_nil]) (fun u213 H locs e213 hP hD hS => ?_)
                    have hP : va_P D vwCl [(h0, .inr (1, [.ref qT, .int (nI n), .int (nI t), .int ((rr_tl f n (rr_o6 x1 x2 x3 x4).1 (rr_o6 x1 x2 x3 x4).2).1), .int ((rr_tl f n (rr_o6 x1 x2 x3 x4).1 (rr_o6 x1 x2 x3 x4).2).2), .ref qS])), (qT, .inl (cA, 187, .inl f)), (qS, .inr (0, [.long a, .long b]))] H := hP
                    have hD : va_D A [(h0, .inr (1, [.ref qT, .int (nI n), .int (nI t), .int ((rr_tl f n (rr_o6 x1 x2 x3 x4).1 (rr_o6 x1 x2 x3 x4).2).1), .int ((rr_tl f n (rr_o6 x1 x2 x3 x4).1 (rr_o6 x1 x2 x3 x4).2).2), .ref qS])), (qT, .inl (cA, 187, .inl f)), (qS, .inr (0, [.long a, .long b]))] := hD
                    refine lv_goto (tgt := 242) hx hb dX1_work_216 (by decide) ?_
                    refine lv_iconst (v := 1) hx hb dX1_work_242 (by decide) ?_
                    have eo : rr_op 6 x1 x2 x3 x4 = (rr_o6 x1 x2 x3 x4) := by unfold rr_op; rw [if_neg (by decide), if_neg (by decide), if_neg (by decide), if_neg (by decide), if_neg (by decide), if_neg (by decide), if_pos (by decide)]
                    have ee : (rr_wk f n lo hi 6 x1 x2 x3 x4) = (1, rr_tl f n (rr_o6 x1 x2 x3 x4).1 (rr_o6 x1 x2 x3 x4).2) := ((if_pos ⟨⟨c1, c7⟩, b13, b24⟩).trans (if_neg (fun z => absurd z.1 (by decide)))).trans (congrArg (fun z : Int64 × Int64 => ((1 : Int32), rr_tl f n z.1 z.2)) eo)
                    exact W.iret (v := 1) hx hb hr (fun tt ht hW => ⟨⟨_, (a, b), rfl, by rw [ee], by dsimp only; rw [ht, ee]; exact hP⟩, hS.F ht⟩) hS.2.2 dX1_work_243
                  · skip
                    exact absurd c39 (by decide)
              · skip
                refine lv_iload_n hx hb dX1_work_32 rfl (lv_at hl 1 rfl) ?_
                refine lv_iconst (v := 3) hx hb dX1_work_33 (by decide) ?_
                refine lv_icmp_eq (tgt := 42) hx hb dX1_work_34 (by decide) (fun c34 => ?_) (fun c34 => ?_)
                · skip
                  exact absurd c34 (by decide)
                · skip
                  refine lv_iload_n hx hb dX1_work_37 rfl (lv_at hl 1 rfl) ?_
                  refine lv_iconst (v := 4) hx hb dX1_work_38 (by decide) ?_
                  refine lv_icmp_ne (tgt := 54) hx hb dX1_work_39 (by decide) (fun c39 => ?_) (fun c39 => ?_)
                  · skip
                    refine lv_iload_n hx hb dX1_work_54 rfl (lv_at hl 1 rfl) ?_
                    refine lv_tableIn (off := 151) (tgt := 206) hx hb dX1_work_55 (by decide) (by decide) (by decide +kernel) (by decide) ?_
                    refine lv_aload_n hx hb dX1_work_206 rfl (lv_at hl 0 rfl) ?_
                    refine lv_iload_n hx hb dX1_work_207 rfl (lv_at hl 2 rfl) ?_
                    refine lv_iload_n hx hb dX1_work_208 rfl (lv_at hl 3 rfl) ?_
                    refine lv_iload hx hb dX1_work_209 (lv_at hl 4 rfl) ?_
                    refine lv_iload hx hb dX1_work_211 (lv_at hl 5 rfl) ?_
                    refine rr_wv (wr := []) [0, 1, 2] [] (va_runV (As := [.int x1, .int x2, .int x3, .int x4]) (rest := []) ⟨hx, hb, hml, hown, hts⟩ (c_X1_orOrXor l D h0 qT qS H.size cA f n t lo hi a b x1 x2 x3 x4 hn) (cwV 4 hts gX1_work_X1_orOrXor rfl rfl rfl (by decide +kernel) ⟨Nat.le_of_ble_eq_true rfl, Nat.le_of_ble_eq_true rfl⟩) (rr_vW hK hP hD (va_recv hK hP (ci := 1) (q0 := 0) rfl rfl)) rfl rfl hl.1 rfl (lv_room (Nat.le_of_ble_eq_true rfl)) dX1_work_213 ⟨Nat.le_of_ble_eq_true rfl, Nat.le_of_ble_eq_true rfl⟩) hS hA hP hD rfl rfl (by decide) (by decide) (by decide) (fun _ => by simp only [rr_wx, rr_wm, List.map_cons, List.map_nil]) (fun u213 H locs e213 hP hD hS => ?_)
                    have hP : va_P D vwCl [(h0, .inr (1, [.ref qT, .int (nI n), .int (nI t), .int ((rr_tl f n (rr_o6 x1 x2 x3 x4).1 (rr_o6 x1 x2 x3 x4).2).1), .int ((rr_tl f n (rr_o6 x1 x2 x3 x4).1 (rr_o6 x1 x2 x3 x4).2).2), .ref qS])), (qT, .inl (cA, 187, .inl f)), (qS, .inr (0, [.long a, .long b]))] H := hP
                    have hD : va_D A [(h0, .inr (1, [.ref qT, .int (nI n), .int (nI t), .int ((rr_tl f n (rr_o6 x1 x2 x3 x4).1 (rr_o6 x1 x2 x3 x4).2).1), .int ((rr_tl f n (rr_o6 x1 x2 x3 x4).1 (rr_o6 x1 x2 x3 x4).2).2), .ref qS])), (qT, .inl (cA, 187, .inl f)), (qS, .inr (0, [.long a, .long b]))] := hD
                    refine lv_goto (tgt := 242) hx hb dX1_work_216 (by decide) ?_
                    refine lv_iconst (v := 1) hx hb dX1_work_242 (by decide) ?_
                    have eo : rr_op 7 x1 x2 x3 x4 = (rr_o6 x1 x2 x3 x4) := by unfold rr_op; rw [if_neg (by decide), if_neg (by decide), if_neg (by decide), if_neg (by decide), if_neg (by decide), if_neg (by decide), if_pos (by decide)]
                    have ee : (rr_wk f n lo hi 7 x1 x2 x3 x4) = (1, rr_tl f n (rr_o6 x1 x2 x3 x4).1 (rr_o6 x1 x2 x3 x4).2) := ((if_pos ⟨⟨c1, c7⟩, b13, b24⟩).trans (if_neg (fun z => absurd z.1 (by decide)))).trans (congrArg (fun z : Int64 × Int64 => ((1 : Int32), rr_tl f n z.1 z.2)) eo)
                    exact W.iret (v := 1) hx hb hr (fun tt ht hW => ⟨⟨_, (a, b), rfl, by rw [ee], by dsimp only; rw [ht, ee]; exact hP⟩, hS.F ht⟩) hS.2.2 dX1_work_243
                  · skip
                    exact absurd c39 (by decide)
              · skip
                refine lv_iload_n hx hb dX1_work_32 rfl (lv_at hl 1 rfl) ?_
                refine lv_iconst (v := 3) hx hb dX1_work_33 (by decide) ?_
                refine lv_icmp_eq (tgt := 42) hx hb dX1_work_34 (by decide) (fun c34 => ?_) (fun c34 => ?_)
                · skip
                  exact absurd c34 (by decide)
                · skip
                  refine lv_iload_n hx hb dX1_work_37 rfl (lv_at hl 1 rfl) ?_
                  refine lv_iconst (v := 4) hx hb dX1_work_38 (by decide) ?_
                  refine lv_icmp_ne (tgt := 54) hx hb dX1_work_39 (by decide) (fun c39 => ?_) (fun c39 => ?_)
                  · skip
                    refine lv_iload_n hx hb dX1_work_54 rfl (lv_at hl 1 rfl) ?_
                    refine lv_tableIn (off := 164) (tgt := 219) hx hb dX1_work_55 (by decide) (by decide) (by decide +kernel) (by decide) ?_
                    refine lv_aload_n hx hb dX1_work_219 rfl (lv_at hl 0 rfl) ?_
                    refine lv_iload_n hx hb dX1_work_220 rfl (lv_at hl 2 rfl) ?_
                    refine lv_iload_n hx hb dX1_work_221 rfl (lv_at hl 3 rfl) ?_
                    refine lv_iload hx hb dX1_work_222 (lv_at hl 4 rfl) ?_
                    refine lv_iload hx hb dX1_work_224 (lv_at hl 5 rfl) ?_
                    refine rr_wv (wr := []) [0, 1, 2] [] (va_runV (As := [.int x1, .int x2, .int x3, .int x4]) (rest := []) ⟨hx, hb, hml, hown, hts⟩ (c_X1_shiftLeft l D h0 qT qS H.size cA f n t lo hi a b x1 x2 x3 x4 hn (rr_rg_iff.mp b13).1) (cwV 4 hts gX1_work_X1_shiftLeft rfl rfl rfl (by decide +kernel) ⟨Nat.le_of_ble_eq_true rfl, Nat.le_of_ble_eq_true rfl⟩) (rr_vN hN hK hP hD (va_recv hK hP (ci := 1) (q0 := 0) rfl rfl)) rfl rfl hl.1 rfl (lv_room (Nat.le_of_ble_eq_true rfl)) dX1_work_226 ⟨Nat.le_of_ble_eq_true rfl, Nat.le_of_ble_eq_true rfl⟩) hS hA hP hD rfl rfl (by decide) (by decide) (by decide) (fun _ => by simp only [rr_wx, rr_wm, List.map_cons, List.map_nil]) (fun u226 H locs e226 hP hD hS => ?_)
                    have hP : va_P D vwCl [(h0, .inr (1, [.ref qT, .int (nI n), .int (nI t), .int ((rr_tl f n (rr_o8 x1 x2 x3 x4).1 (rr_o8 x1 x2 x3 x4).2).1), .int ((rr_tl f n (rr_o8 x1 x2 x3 x4).1 (rr_o8 x1 x2 x3 x4).2).2), .ref qS])), (qT, .inl (cA, 187, .inl f)), (qS, .inr (0, [.long u226.1, .long u226.2]))] H := hP
                    have hD : va_D A [(h0, .inr (1, [.ref qT, .int (nI n), .int (nI t), .int ((rr_tl f n (rr_o8 x1 x2 x3 x4).1 (rr_o8 x1 x2 x3 x4).2).1), .int ((rr_tl f n (rr_o8 x1 x2 x3 x4).1 (rr_o8 x1 x2 x3 x4).2).2), .ref qS])), (qT, .inl (cA, 187, .inl f)), (qS, .inr (0, [.long u226.1, .long u226.2]))] := hD
                    refine lv_goto (tgt := 242) hx hb dX1_work_229 (by decide) ?_
                    refine lv_iconst (v := 1) hx hb dX1_work_242 (by decide) ?_
                    have eo : rr_op 8 x1 x2 x3 x4 = (rr_o8 x1 x2 x3 x4) := by unfold rr_op; rw [if_neg (by decide), if_neg (by decide), if_neg (by decide), if_neg (by decide), if_neg (by decide), if_neg (by decide), if_neg (by decide), if_pos (by decide)]
                    have ee : (rr_wk f n lo hi 8 x1 x2 x3 x4) = (1, rr_tl f n (rr_o8 x1 x2 x3 x4).1 (rr_o8 x1 x2 x3 x4).2) := ((if_pos ⟨⟨c1, c7⟩, b13, b24⟩).trans (if_neg (fun z => absurd z.1 (by decide)))).trans (congrArg (fun z : Int64 × Int64 => ((1 : Int32), rr_tl f n z.1 z.2)) eo)
                    exact W.iret (v := 1) hx hb hr (fun tt ht hW => ⟨⟨_, (u226.1, u226.2), rfl, by rw [ee], by dsimp only; rw [ht, ee]; exact hP⟩, hS.F ht⟩) hS.2.2 dX1_work_243
                  · skip
                    exact absurd c39 (by decide)
              · skip
                refine lv_iload_n hx hb dX1_work_32 rfl (lv_at hl 1 rfl) ?_
                refine lv_iconst (v := 3) hx hb dX1_work_33 (by decide) ?_
                refine lv_icmp_eq (tgt := 42) hx hb dX1_work_34 (by decide) (fun c34 => ?_) (fun c34 => ?_)
                · skip
                  exact absurd c34 (by decide)
                · skip
                  refine lv_iload_n hx hb dX1_work_37 rfl (lv_at hl 1 rfl) ?_
                  refine lv_iconst (v := 4) hx hb dX1_work_38 (by decide) ?_
                  refine lv_icmp_ne (tgt := 54) hx hb dX1_work_39 (by decide) (fun c39 => ?_) (fun c39 => ?_)
                  · skip
                    refine lv_iload_n hx hb dX1_work_54 rfl (lv_at hl 1 rfl) ?_
                    refine lv_tableOut (tgt := 232) hx hb dX1_work_55 (by decide) (by decide) ?_
                    refine lv_aload_n hx hb dX1_work_232 rfl (lv_at hl 0 rfl) ?_
                    refine lv_iload_n hx hb dX1_work_233 rfl (lv_at hl 2 rfl) ?_
                    refine lv_iload_n hx hb dX1_work_234 rfl (lv_at hl 3 rfl) ?_
                    refine lv_iload hx hb dX1_work_235 (lv_at hl 4 rfl) ?_
                    refine lv_iload hx hb dX1_work_237 (lv_at hl 5 rfl) ?_
                    refine rr_wv (wr := []) [0, 1, 2] [] (va_runV (As := [.int x1, .int x2, .int x3, .int x4]) (rest := []) ⟨hx, hb, hml, hown, hts⟩ (c_X1_shiftRight l D h0 qT qS H.size cA f n t lo hi a b x1 x2 x3 x4 hn) (cwV 4 hts gX1_work_X1_shiftRight rfl rfl rfl (by decide +kernel) ⟨Nat.le_of_ble_eq_true rfl, Nat.le_of_ble_eq_true rfl⟩) (rr_vW hK hP hD (va_recv hK hP (ci := 1) (q0 := 0) rfl rfl)) rfl rfl hl.1 rfl (lv_room (Nat.le_of_ble_eq_true rfl)) dX1_work_239 ⟨Nat.le_of_ble_eq_true rfl, Nat.le_of_ble_eq_true rfl⟩) hS hA hP hD rfl rfl (by decide) (by decide) (by decide) (fun _ => by simp only [rr_wx, rr_wm, List.map_cons, List.map_nil]) (fun u239 H locs e239 hP hD hS => ?_)
                    have hP : va_P D vwCl [(h0, .inr (1, [.ref qT, .int (nI n), .int (nI t), .int ((rr_tl f n (rr_o9 x1 x2 x3 x4).1 (rr_o9 x1 x2 x3 x4).2).1), .int ((rr_tl f n (rr_o9 x1 x2 x3 x4).1 (rr_o9 x1 x2 x3 x4).2).2), .ref qS])), (qT, .inl (cA, 187, .inl f)), (qS, .inr (0, [.long a, .long b]))] H := hP
                    have hD : va_D A [(h0, .inr (1, [.ref qT, .int (nI n), .int (nI t), .int ((rr_tl f n (rr_o9 x1 x2 x3 x4).1 (rr_o9 x1 x2 x3 x4).2).1), .int ((rr_tl f n (rr_o9 x1 x2 x3 x4).1 (rr_o9 x1 x2 x3 x4).2).2), .ref qS])), (qT, .inl (cA, 187, .inl f)), (qS, .inr (0, [.long a, .long b]))] := hD
                    refine lv_iconst (v := 1) hx hb dX1_work_242 (by decide) ?_
                    have eo : rr_op 9 x1 x2 x3 x4 = (rr_o9 x1 x2 x3 x4) := by unfold rr_op; rw [if_neg (by decide), if_neg (by decide), if_neg (by decide), if_neg (by decide), if_neg (by decide), if_neg (by decide), if_neg (by decide), if_neg (by decide)]
                    have ee : (rr_wk f n lo hi 9 x1 x2 x3 x4) = (1, rr_tl f n (rr_o9 x1 x2 x3 x4).1 (rr_o9 x1 x2 x3 x4).2) := ((if_pos ⟨⟨c1, c7⟩, b13, b24⟩).trans (if_neg (fun z => absurd z.1 (by decide)))).trans (congrArg (fun z : Int64 × Int64 => ((1 : Int32), rr_tl f n z.1 z.2)) eo)
                    exact W.iret (v := 1) hx hb hr (fun tt ht hW => ⟨⟨_, (a, b), rfl, by rw [ee], by dsimp only; rw [ht, ee]; exact hP⟩, hS.F ht⟩) hS.2.2 dX1_work_243
                  · skip
                    exact absurd c39 (by decide)
            · skip
              exact absurd c27 (by decide)
          · rw [if_neg b24] at e24
            subst e24
            refine lv_if_ne (tgt := 32) hx hb dX1_work_27 (by decide) (fun c27 => ?_) (fun c27 => ?_)
            · skip
              exact absurd c27 (by decide)
            · skip
              refine lv_iconst (v := (-1)) hx hb dX1_work_30 (by decide) ?_
              have ee : (rr_wk f n lo hi op x1 x2 x3 x4) = (-1, lo, hi) := if_neg (fun z => by first | exact z.1.1 c1 | exact z.1.2 c7 | exact b13 z.2.1 | exact b24 z.2.2)
              exact W.iret (v := (-1)) hx hb hr (fun tt ht hW => ⟨⟨_, (a, b), rfl, by rw [ee], by dsimp only; rw [ht, ee]; exact hP⟩, hS.F ht⟩) hS.2.2 dX1_work_31
      · rw [if_neg b13] at e13
        subst e13
        refine lv_if_eq (tgt := 30) hx hb dX1_work_16 (by decide) (fun c16 => ?_) (fun c16 => ?_)
        · skip
          refine lv_iconst (v := (-1)) hx hb dX1_work_30 (by decide) ?_
          have ee : (rr_wk f n lo hi op x1 x2 x3 x4) = (-1, lo, hi) := if_neg (fun z => by first | exact z.1.1 c1 | exact z.1.2 c7 | exact b13 z.2.1 | exact b24 z.2.2)
          exact W.iret (v := (-1)) hx hb hr (fun tt ht hW => ⟨⟨_, (a, b), rfl, by rw [ee], by dsimp only; rw [ht, ee]; exact hP⟩, hS.F ht⟩) hS.2.2 dX1_work_31
        · skip
          exact absurd c16 (by decide)
end
section
/-! the static row FIRST, as the start has it -/
def rr_st (t0 : Nat) (A : Nat → Prop) (U : State) : Prop := va_Z "RangeRules" "FIRST" "[I" (.ref t0) A U U.heap ∧ va_X t0 7 rr_first U U.heap ∧ t0 < U.heap.size ∧ ¬ A t0
def rr_pZ (D : va_G) (ws : va_W) (tys : List (ClassId × FieldType)) (t0 : Nat) (av : List Value) (sz : Nat) : Array Value → State → Prop := va_Pc av (fun U => U.heap.size = sz ∧ va_P D vwCl ws U.heap ∧ va_K D vwCl tys U ∧ va_D (fun _ => True) ws ∧ rr_st t0 (va_A ws sz) U)
def rr_pI (D : va_G) (ws : va_W) (tys : List (ClassId × FieldType)) (t0 : Nat) (av : List Value) (sz : Nat) : Array Value → State → Prop := va_Pc av (fun U => U.heap.size = sz ∧ va_P D vwCl ws U.heap ∧ va_K D vwCl tys U ∧ va_D (fun _ => True) ws ∧ rr_st t0 (va_A ws sz) U ∧ va_Nw (.methodLinkNest RX1 37 yX0_init RX1) U)
theorem rr_bZ {D : va_G} {ws : va_W} {tys : List (ClassId × FieldType)} {t0 : Nat} {av : List Value} {sz : Nat} : FrameBlind (rr_pZ D ws tys t0 av sz) := fun a U g mk q => by
  obtain ⟨q0, q1, qP, qK, qD, qZ, qX, qr⟩ := q
  exact ⟨q0, q1, qP, va_K.moved (u := U) (U := U.calling g mk a) (Vm.Alike.refl U.vm) qK, qD, va_Z.moved (u := U) (U := U.calling g mk a) (Vm.Alike.refl U.vm) qZ, va_X.moved (u := U) (U := U.calling g mk a) (Vm.Alike.refl U.vm) qX, qr⟩
theorem rr_bI {D : va_G} {ws : va_W} {tys : List (ClassId × FieldType)} {t0 : Nat} {av : List Value} {sz : Nat} : FrameBlind (rr_pI D ws tys t0 av sz) := fun a U g mk q => by
  obtain ⟨q0, q1, qP, qK, qD, ⟨qZ, qX, qr⟩, qN⟩ := q
  exact ⟨q0, q1, qP, va_K.moved (u := U) (U := U.calling g mk a) (Vm.Alike.refl U.vm) qK, qD, ⟨va_Z.moved (u := U) (U := U.calling g mk a) (Vm.Alike.refl U.vm) qZ, va_X.moved (u := U) (U := U.calling g mk a) (Vm.Alike.refl U.vm) qX, qr⟩, va_Nw.same (u := U) (U := U.calling g mk a) rfl rfl qN⟩
theorem rr_st.at {t0 : Nat} {A B : Nat → Prop} {s U : State} {H : Heap} {locs : List Loc} (h : rr_st t0 A s) (hS : va_S A s.heap H locs) (hB : ∀ q, B q → A q) (hU : U.heap = H) (hW : s.WarmedH U.vm) : rr_st t0 B U := by
  obtain ⟨hZ, hX, hl, hn⟩ := h
  subst hU
  exact ⟨va_Z.moved hW.alike ((hZ.kept (fun a h1 h2 => hS.2.1 a h1 h2)).narrow hB), va_X.moved hW.alike (hX.kept (hS.2.1 t0 hl hn)), Nat.lt_of_lt_of_le hl hS.1, fun z => hn (hB t0 z)⟩
theorem rr_vS {s : State} {H : Heap} {D : va_G} {ws : va_W} {A : Nat → Prop} {tys : List (ClassId × FieldType)} {As : List Value} (hK : va_K D vwCl tys s) (hP : va_P D vwCl ws H) (hD : va_D A ws) : PreS s H (rr_pW D ws tys As H.size) As :=
  ⟨rr_bW, fun U hU hW => ⟨rfl, by rw [hU], by rw [hU]; exact hP, va_K.moved hW.alike hK, hD.weaken (fun _ _ _ _ => trivial)⟩⟩
set_option maxHeartbeats 1000000 in
set_option maxRecDepth 100000 in
/-- Span() -/
theorem c_X0_init (l : Launch) (D : va_G) (h0 sz : Nat) (a b : Int64)   : Met l yX0_init wsX0_init ({ frames := 1, cells := 0, slots := 0, locals := 12 }) (rr_pW D [(h0, .inr (0, [.long a, .long b]))] [] [.ref h0] sz) (va_Qv (fun (_ : Unit) => True) (fun _ tt => va_P D vwCl [(h0, .inr (0, [.long a, .long b]))] tt.heap) (va_A [(h0, .inr (0, [.long a, .long b]))] sz)) 0 0 (va_A [(h0, .inr (0, [.long a, .long b]))] sz) := by
  refine Met.ofW (cc := cX0_init) (maxL := 1) (ret := none) (by decide) rfl ?_
  intro p e s m args below meth c s₁ B hml hv
  obtain ⟨rfl, hsz, hP, hK, hD0⟩ := hv
  have hx := B.exec
  have hb := B.bytes
  have hr := B.returns
  have hts := atoms_spec (ws := wsX0_init) B.pre
  have hown : s.vm.findClass RX0 = some m.cls := findClass_of_methodNamed B.named
  have hlocks := B.notSynchronized
  subst hsz
  have hD := hD0.self (sz := s.heap.size)
  generalize hAe : va_A [(h0, .inr (0, [.long a, .long b]))] s.heap.size = A at hD ⊢
  have hA : ∀ q : Nat, s.heap.size ≤ q → A q := fun q h => by rw [← hAe]; exact Or.inr h
  have hS : va_S A s.heap s.heap [] := va_S.rf
  have hP : va_P D vwCl [(h0, .inr (0, [.long a, .long b]))] s.heap := hP
  have hl := lv_entry ([.ref h0]) (n := 1) (Nat.le_of_ble_eq_true rfl)
  rw [lg_entry_eq]
  generalize (lg_sl ([.ref h0]) ++ List.replicate (1 - (lg_sl ([.ref h0])).length) Slot.unset).toArray = ls at hl ⊢
  have hl : lv_has ls 1 [(0, .ref h0)] := hl
  refine lv_aload_n hx hb dX0_init_0 rfl (lv_at hl 0 rfl) ?_
  refine W.objInit hx hb hown (hts (.methodLink RX0 1 objectInit) (by decide +kernel)) (hts (.instanceMethod objectInit) (by decide +kernel)) (hts (.code objectInit ⟨#[0xb1]⟩ 1 none) (List.mem_cons_of_mem _ (List.mem_of_getElem? (i := 2) rfl))) rfl (by rw [hml]; exact hl.1) rfl dX0_init_1 (Nat.le_of_ble_eq_true rfl) (Nat.le_of_ble_eq_true rfl) ?_
  refine W.eq (g2 := F0 m 4 ls []) rfl ?_
  exact W.vret hx hb hr (fun tt ht hW => ⟨⟨(), rfl, trivial, by dsimp only; rw [ht]; exact hP⟩, hS.F ht⟩) hS.2.2 dX0_init_4
set_option maxHeartbeats 1000000 in
set_option maxRecDepth 100000 in
/-- clear() -/
theorem c_X1_clear (l : Launch) (D : va_G) (h0 qT qS sz : Nat) (cA : ClassId) (f : Nat → Int32) (n t : Nat) (lo hi : Int32) (a b : Int64) (t0 : Nat) : Met l yX1_clear wsX1_clear ({ frames := 0, cells := 0, slots := 0, locals := 0 }) (rr_pZ D (rr_wx h0 qT qS cA f n t lo hi a b) [(cA, .int)] t0 [.ref h0] sz) (va_Qv (fun _ : Unit => True) (fun _ tt => va_P D vwCl (rr_wx h0 qT qS cA f 7 0 lo hi a b) tt.heap) (va_A (rr_wx h0 qT qS cA f n t lo hi a b) sz)) 0 0 (va_A (rr_wx h0 qT qS cA f n t lo hi a b) sz) := by
  refine Met.ofW (cc := cX1_clear) (maxL := 1) (ret := none) (by decide) rfl ?_
  intro p e s m args below meth c s₁ B hml hv
  obtain ⟨rfl, hsz, hP, hK, hD0, hZ0⟩ := hv
  have hx := B.exec
  have hb := B.bytes
  have hr := B.returns
  have hts := atoms_spec (ws := wsX1_clear) B.pre
  have hown : s.vm.findClass RX1 = some m.cls := findClass_of_methodNamed B.named
  have hlocks := B.notSynchronized
  subst hsz
  have hD := hD0.self (sz := s.heap.size)
  generalize hAe : va_A [(h0, .inr (1, [.ref qT, .int (nI n), .int (nI t), .int lo, .int hi, .ref qS])), (qT, .inl (cA, 187, .inl f)), (qS, .inr (0, [.long a, .long b]))] s.heap.size = A at hD hZ0 ⊢
  have hA : ∀ q : Nat, s.heap.size ≤ q → A q := fun q h => by rw [← hAe]; exact Or.inr h
  obtain ⟨hZ, hX, hXl, hXA⟩ := hZ0
  have hS : va_S A s.heap s.heap [] := va_S.rf
  have hP : va_P D vwCl [(h0, .inr (1, [.ref qT, .int (nI n), .int (nI t), .int lo, .int hi, .ref qS])), (qT, .inl (cA, 187, .inl f)), (qS, .inr (0, [.long a, .long b]))] s.heap := hP
  have hiX1 : ∀ w ∈ wsX10, w ∈ wsX1_clear := by decide +kernel
  have hl := lv_entry ([.ref h0]) (n := 1) (Nat.le_of_ble_eq_true rfl)
  rw [lg_entry_eq]
  generalize (lg_sl ([.ref h0]) ++ List.replicate (1 - (lg_sl ([.ref h0])).length) Slot.unset).toArray = ls at hl ⊢
  have hl : lv_has ls 1 [(0, .ref h0)] := hl
  refine lv_aload_n hx hb dX1_clear_0 rfl (lv_at hl 0 rfl) ?_
  refine va_gets hx hb hZ hS hown (hts (.fieldLink RX1 7 "RangeRules" "FIRST" "[I") (by decide +kernel)) (fun _ h9 => h9) dX1_clear_1 ?_
  refine va_slen hx hb hX hXl hXA hS dX1_clear_4 ?_
  refine W.eq (g2 := F0 m 5 ls [.int 7, .ref h0]) rfl ?_
  refine va_put (D := D) (ci := 1) (v := .int 7) (ty := .int) (C := RX1) (T := TX1) (N := 6) hx hb hts hiX1 tyX1 tyX1_ok nmX1 hown hK hP hD hS 0 rfl rfl 1 (by decide) (hts (.fieldLink RX1 22 "RangeRules" "thresholdCount" "I") (by decide +kernel)) (fun _ h9 => h9) rfl (by decide +kernel) rfl rfl (Nat.le_of_ble_eq_true rfl) dX1_clear_5 (fun H locs hP hD hS => ?_)
  have hP : va_P D vwCl [(h0, .inr (1, [.ref qT, .int 7, .int (nI t), .int lo, .int hi, .ref qS])), (qT, .inl (cA, 187, .inl f)), (qS, .inr (0, [.long a, .long b]))] H := hP
  have hD : va_D A [(h0, .inr (1, [.ref qT, .int 7, .int (nI t), .int lo, .int hi, .ref qS])), (qT, .inl (cA, 187, .inl f)), (qS, .inr (0, [.long a, .long b]))] := hD
  refine lv_aload_n hx hb dX1_clear_8 rfl (lv_at hl 0 rfl) ?_
  refine lv_iconst (v := 0) hx hb dX1_clear_9 (by decide) ?_
  refine va_put (D := D) (ci := 1) (v := .int 0) (ty := .int) (C := RX1) (T := TX1) (N := 6) hx hb hts hiX1 tyX1 tyX1_ok nmX1 hown hK hP hD hS 0 rfl rfl 2 (by decide) (hts (.fieldLink RX1 26 "RangeRules" "aroundCount" "I") (by decide +kernel)) (fun _ h9 => h9) rfl (by decide +kernel) rfl rfl (Nat.le_of_ble_eq_true rfl) dX1_clear_10 (fun H locs hP hD hS => ?_)
  have hP : va_P D vwCl [(h0, .inr (1, [.ref qT, .int 7, .int 0, .int lo, .int hi, .ref qS])), (qT, .inl (cA, 187, .inl f)), (qS, .inr (0, [.long a, .long b]))] H := hP
  have hD : va_D A [(h0, .inr (1, [.ref qT, .int 7, .int 0, .int lo, .int hi, .ref qS])), (qT, .inl (cA, 187, .inl f)), (qS, .inr (0, [.long a, .long b]))] := hD
  exact W.vret hx hb hr (fun tt ht hW => ⟨⟨(), rfl, trivial, by dsimp only; rw [ht]; exact hP⟩, hS.F ht⟩) hS.2.2 dX1_clear_13
set_option maxHeartbeats 1000000 in
set_option maxRecDepth 100000 in
/-- RangeRules() -/
theorem c_X1_init (l : Launch) (D : va_G) (h0 sz t0 : Nat) : Met l yX1_init wsX1_init ({ frames := 3, cells := 2, slots := 189, locals := 80 }) (rr_pI D [(h0, .inr (1, [.null, .int 0, .int 0, .int 0, .int 0, .null]))] [] t0 [.ref h0] sz) (va_Qv (fun u : Nat × Nat × ClassId × (Nat → Int32) => ∀ j, j < 7 → u.2.2.2 j = rr_first j) (fun u tt => va_P D vwCl (rr_wx h0 u.1 u.2.1 u.2.2.1 u.2.2.2 7 0 0 0 0 0) tt.heap ∧ va_K D vwCl [(u.2.2.1, .int)] tt ∧ va_D (va_A [(h0, .inr (1, [.null, .int 0, .int 0, .int 0, .int 0, .null]))] sz) (rr_wx h0 u.1 u.2.1 u.2.2.1 u.2.2.2 7 0 0 0 0 0)) (va_A [(h0, .inr (1, [.null, .int 0, .int 0, .int 0, .int 0, .null]))] sz)) 2 189 (va_A [(h0, .inr (1, [.null, .int 0, .int 0, .int 0, .int 0, .null]))] sz) := by
  refine Met.ofW (cc := cX1_init) (maxL := 1) (ret := none) (by decide) rfl ?_
  intro p e s m args below meth c s₁ B hml hv
  obtain ⟨rfl, hsz, hP, hK, hD0, hZ0, hN⟩ := hv
  have hx := B.exec
  have hb := B.bytes
  have hr := B.returns
  have hts := atoms_spec (ws := wsX1_init) B.pre
  have hown : s.vm.findClass RX1 = some m.cls := findClass_of_methodNamed B.named
  have hlocks := B.notSynchronized
  have hin : meth.name = "<init>" := (name_of_methodNamed B.named B.method).1
  subst hsz
  have hD := hD0.self (sz := s.heap.size)
  generalize hAe : va_A [(h0, .inr (1, [.null, .int 0, .int 0, .int 0, .int 0, .null]))] s.heap.size = A at hD hZ0 ⊢
  have hA : ∀ q : Nat, s.heap.size ≤ q → A q := fun q h => by rw [← hAe]; exact Or.inr h
  obtain ⟨hZ, hX, hXl, hXA⟩ := hZ0
  have hS : va_S A s.heap s.heap [] := va_S.rf
  have hP : va_P D vwCl [(h0, .inr (1, [.null, .int 0, .int 0, .int 0, .int 0, .null]))] s.heap := hP
  have hiX1 : ∀ w ∈ wsX10, w ∈ wsX1_init := by decide +kernel
  have hiX0 : ∀ w ∈ wsX00, w ∈ wsX1_init := by decide +kernel
  have hl := lv_entry ([.ref h0]) (n := 1) (Nat.le_of_ble_eq_true rfl)
  rw [lg_entry_eq]
  generalize (lg_sl ([.ref h0]) ++ List.replicate (1 - (lg_sl ([.ref h0])).length) Slot.unset).toArray = ls at hl ⊢
  have hl : lv_has ls 1 [(0, .ref h0)] := hl
  refine lv_aload_n hx hb dX1_init_0 rfl (lv_at hl 0 rfl) ?_
  refine W.objInit hx hb hown (hts (.methodLink RX1 1 objectInit) (by decide +kernel)) (hts (.instanceMethod objectInit) (by decide +kernel)) (hts (.code objectInit ⟨#[0xb1]⟩ 1 none) (List.mem_cons_of_mem _ (List.mem_append_left _ (List.mem_append_left _ (List.mem_of_getElem? (i := 2) rfl))))) rfl (by rw [hml]; exact hl.1) rfl dX1_init_1 (Nat.le_of_ble_eq_true rfl) (Nat.le_of_ble_eq_true rfl) ?_
  refine W.eq (g2 := F0 m 4 ls []) rfl ?_
  refine lv_aload_n hx hb dX1_init_4 rfl (lv_at hl 0 rfl) ?_
  refine va_gets hx hb hZ hS hown (hts (.fieldLink RX1 7 "RangeRules" "FIRST" "[I") (by decide +kernel)) (fun _ h9 => h9) dX1_init_5 ?_
  refine va_slen hx hb hX hXl hXA hS dX1_init_8 ?_
  refine W.eq (g2 := F0 m 9 ls [.int 7, .ref h0]) rfl ?_
  refine lv_sipush (v := 180) hx hb dX1_init_9 (by decide) ?_
  refine lv_iadd hx hb dX1_init_12 ?_
  refine W.eq (congrArg (fun z => F0 m 13 ls (.int z :: [.ref h0])) (show (7 : Int32) + 180 = 187 by decide)) ?_
  refine va_newa (atype := .int) (ty := .int) (n := 187) (N' := 187) (a0 := (187, .inl (fun _ => 0))) hx hb (hts (.arrayClass .int) (by decide +kernel)) rfl hK hP hD hS hA (fun cA => vp_cell_i cA 187 (fun _ => 0)) (by decide) (by decide) (by decide) (Nat.le_of_ble_eq_true rfl) (Nat.le_of_ble_eq_true rfl) dX1_init_13 (fun qT cA H hK hP hD hS => ?_)
  have hP : va_P D vwCl [(h0, .inr (1, [.null, .int 0, .int 0, .int 0, .int 0, .null])), (qT, .inl (cA, 187, .inl (fun _ => 0)))] H := hP
  have hD : va_D A [(h0, .inr (1, [.null, .int 0, .int 0, .int 0, .int 0, .null])), (qT, .inl (cA, 187, .inl (fun _ => 0)))] := hD
  have hK : va_K D vwCl [(cA, .int)] s := hK
  refine W.widen (k := 1) (n := 187) (by omega) (by omega) ?_
  refine va_putF (D := D) (ci := 1) (v := .ref qT) (ty := .array .int) (C := RX1) (T := TX1) (N := 6) hx hb hts hiX1 tyX1 tyX1_ok nmX1 hown hK hP hD hS 0 rfl rfl 0 (by decide) (hts (.fieldLink RX1 13 "RangeRules" "thresholds" "[I") (by decide +kernel)) (fun _ h9 => h9) rfl hin rfl (by decide +kernel) rfl rfl (Nat.le_of_ble_eq_true rfl) dX1_init_15 (fun H locs hP hD hS => ?_)
  have hP : va_P D vwCl [(h0, .inr (1, [.ref qT, .int 0, .int 0, .int 0, .int 0, .null])), (qT, .inl (cA, 187, .inl (fun _ => 0)))] H := hP
  have hD : va_D A [(h0, .inr (1, [.ref qT, .int 0, .int 0, .int 0, .int 0, .null])), (qT, .inl (cA, 187, .inl (fun _ => 0)))] := hD
  refine va_gets hx hb hZ hS hown (hts (.fieldLink RX1 7 "RangeRules" "FIRST" "[I") (by decide +kernel)) (fun _ h9 => h9) dX1_init_18 ?_
  refine lv_iconst (v := 0) hx hb dX1_init_21 (by decide) ?_
  refine lv_aload_n hx hb dX1_init_22 rfl (lv_at hl 0 rfl) ?_
  refine va_get (D := D) (ci := 1) (v := .ref qT) (C := RX1) (T := TX1) (N := 6) hx hb hts hiX1 hown hK hP 0 rfl rfl 0 (by decide) (hts (.fieldLink RX1 13 "RangeRules" "thresholds" "[I") (by decide +kernel)) (fun _ h9 => h9) rfl dX1_init_23 ?_
  refine lv_iconst (v := 0) hx hb dX1_init_26 (by decide) ?_
  refine va_gets hx hb hZ hS hown (hts (.fieldLink RX1 7 "RangeRules" "FIRST" "[I") (by decide +kernel)) (fun _ h9 => h9) dX1_init_27 ?_
  refine va_slen hx hb hX hXl hXA hS dX1_init_30 ?_
  refine W.eq (g2 := F0 m 31 ls [.int 7, .int 0, .ref qT, .int 0, .ref t0]) rfl ?_
  refine va_copyx hx hb (hml.trans hl.1.symm) hown (hts (.methodLink RX1 16 arraycopyName) (by decide +kernel)) (hts (.native arraycopyName) (by decide +kernel)) (hts (.static arraycopyName) (by decide +kernel)) (hts (.initialized "java/lang/System") (by decide +kernel)) hK hP hD hS hX hXl hXA 1 0 rfl rfl (by decide) (by decide) (by decide) (by decide) (by decide) (Nat.le_of_ble_eq_true rfl) (Nat.le_of_ble_eq_true rfl) dX1_init_31 (fun H locs hP hD hS => ?_)
  rw [show ((0 : Int32).toNatClampNeg) = 0 by decide, show ((7 : Int32).toNatClampNeg) = 7 by decide] at hP hD
  obtain ⟨f1, hf1⟩ : ∃ g : Nat → Int32, g = va_cpy rr_first (fun _ => 0) 0 0 7 := ⟨_, rfl⟩
  have hP : va_P D vwCl [(h0, .inr (1, [.ref qT, .int 0, .int 0, .int 0, .int 0, .null])), (qT, .inl (cA, 187, .inl (va_cpy rr_first (fun _ => 0) 0 0 7)))] H := hP
  have hD : va_D A [(h0, .inr (1, [.ref qT, .int 0, .int 0, .int 0, .int 0, .null])), (qT, .inl (cA, 187, .inl (va_cpy rr_first (fun _ => 0) 0 0 7)))] := hD
  rw [← hf1] at hP hD
  have hP : va_P D vwCl [(h0, .inr (1, [.ref qT, .int 0, .int 0, .int 0, .int 0, .null])), (qT, .inl (cA, 187, .inl f1))] H := hP
  have hD : va_D A [(h0, .inr (1, [.ref qT, .int 0, .int 0, .int 0, .int 0, .null])), (qT, .inl (cA, 187, .inl f1))] := hD
  have hf7 : ∀ j, j < 7 → f1 j = rr_first j := fun j hj => by rw [hf1, pk_cpy_in (Nat.zero_le j) (by omega)]; simp
  refine lv_aload_n hx hb dX1_init_34 rfl (lv_at hl 0 rfl) ?_
  refine va_gets hx hb hZ hS hown (hts (.fieldLink RX1 7 "RangeRules" "FIRST" "[I") (by decide +kernel)) (fun _ h9 => h9) dX1_init_35 ?_
  refine va_slen hx hb hX hXl hXA hS dX1_init_38 ?_
  refine W.eq (g2 := F0 m 39 ls [.int 7, .ref h0]) rfl ?_
  refine va_put (D := D) (ci := 1) (v := .int 7) (ty := .int) (C := RX1) (T := TX1) (N := 6) hx hb hts hiX1 tyX1 tyX1_ok nmX1 hown hK hP hD hS 0 rfl rfl 1 (by decide) (hts (.fieldLink RX1 22 "RangeRules" "thresholdCount" "I") (by decide +kernel)) (fun _ h9 => h9) rfl (by decide +kernel) rfl rfl (Nat.le_of_ble_eq_true rfl) dX1_init_39 (fun H locs hP hD hS => ?_)
  have hP : va_P D vwCl [(h0, .inr (1, [.ref qT, .int 7, .int 0, .int 0, .int 0, .null])), (qT, .inl (cA, 187, .inl f1))] H := hP
  have hD : va_D A [(h0, .inr (1, [.ref qT, .int 7, .int 0, .int 0, .int 0, .null])), (qT, .inl (cA, 187, .inl f1))] := hD
  refine lv_aload_n hx hb dX1_init_42 rfl (lv_at hl 0 rfl) ?_
  refine lv_iconst (v := 0) hx hb dX1_init_43 (by decide) ?_
  refine va_put (D := D) (ci := 1) (v := .int 0) (ty := .int) (C := RX1) (T := TX1) (N := 6) hx hb hts hiX1 tyX1 tyX1_ok nmX1 hown hK hP hD hS 0 rfl rfl 2 (by decide) (hts (.fieldLink RX1 26 "RangeRules" "aroundCount" "I") (by decide +kernel)) (fun _ h9 => h9) rfl (by decide +kernel) rfl rfl (Nat.le_of_ble_eq_true rfl) dX1_init_44 (fun H locs hP hD hS => ?_)
  have hP : va_P D vwCl [(h0, .inr (1, [.ref qT, .int 7, .int 0, .int 0, .int 0, .null])), (qT, .inl (cA, 187, .inl f1))] H := hP
  have hD : va_D A [(h0, .inr (1, [.ref qT, .int 7, .int 0, .int 0, .int 0, .null])), (qT, .inl (cA, 187, .inl f1))] := hD
  refine lv_aload_n hx hb dX1_init_47 rfl (lv_at hl 0 rfl) ?_
  refine lv_iconst (v := 0) hx hb dX1_init_48 (by decide) ?_
  refine va_put (D := D) (ci := 1) (v := .int 0) (ty := .int) (C := RX1) (T := TX1) (N := 6) hx hb hts hiX1 tyX1 tyX1_ok nmX1 hown hK hP hD hS 0 rfl rfl 3 (by decide) (hts (.fieldLink RX1 29 "RangeRules" "resultLow" "I") (by decide +kernel)) (fun _ h9 => h9) rfl (by decide +kernel) rfl rfl (Nat.le_of_ble_eq_true rfl) dX1_init_49 (fun H locs hP hD hS => ?_)
  have hP : va_P D vwCl [(h0, .inr (1, [.ref qT, .int 7, .int 0, .int 0, .int 0, .null])), (qT, .inl (cA, 187, .inl f1))] H := hP
  have hD : va_D A [(h0, .inr (1, [.ref qT, .int 7, .int 0, .int 0, .int 0, .null])), (qT, .inl (cA, 187, .inl f1))] := hD
  refine lv_aload_n hx hb dX1_init_52 rfl (lv_at hl 0 rfl) ?_
  refine lv_iconst (v := 0) hx hb dX1_init_53 (by decide) ?_
  refine va_put (D := D) (ci := 1) (v := .int 0) (ty := .int) (C := RX1) (T := TX1) (N := 6) hx hb hts hiX1 tyX1 tyX1_ok nmX1 hown hK hP hD hS 0 rfl rfl 4 (by decide) (hts (.fieldLink RX1 32 "RangeRules" "resultHigh" "I") (by decide +kernel)) (fun _ h9 => h9) rfl (by decide +kernel) rfl rfl (Nat.le_of_ble_eq_true rfl) dX1_init_54 (fun H locs hP hD hS => ?_)
  have hP : va_P D vwCl [(h0, .inr (1, [.ref qT, .int 7, .int 0, .int 0, .int 0, .null])), (qT, .inl (cA, 187, .inl f1))] H := hP
  have hD : va_D A [(h0, .inr (1, [.ref qT, .int 7, .int 0, .int 0, .int 0, .null])), (qT, .inl (cA, 187, .inl f1))] := hD
  refine lv_aload_n hx hb dX1_init_57 rfl (lv_at hl 0 rfl) ?_
  refine va_new (ci := 0) (fs := [.long 0, .long 0]) (C := RX0) (T := TX0) (N := 2) hx hb hts hiX0 tyX0 tyX0_ok hown (hts (.classLink RX1 35 RX0) (by decide +kernel)) (hts (.instantiable RX0 2) (by decide +kernel)) (hts (.initialized RX0) (by decide +kernel)) hK hP hD hS hA rfl (fun j hj => by rcases (show j = 0 ∨ j = 1 by omega) with rfl | rfl <;> rfl) (Nat.le_of_ble_eq_true rfl) (Nat.le_of_ble_eq_true rfl) dX1_init_58 (fun qS H hP hD hS => ?_)
  have hP : va_P D vwCl [(h0, .inr (1, [.ref qT, .int 7, .int 0, .int 0, .int 0, .null])), (qT, .inl (cA, 187, .inl f1)), (qS, .inr (0, [.long 0, .long 0]))] H := hP
  have hD : va_D A [(h0, .inr (1, [.ref qT, .int 7, .int 0, .int 0, .int 0, .null])), (qT, .inl (cA, 187, .inl f1)), (qS, .inr (0, [.long 0, .long 0]))] := hD
  refine W.widen (k := 2) (n := 189) (by omega) (by omega) ?_
  refine lv_dup hx hb dX1_init_61 rfl ?_
  have hPc := hP.sub (ws' := [(qS, .inr (0, [.long 0, .long 0]))]) [2] rfl
  have hDc := hD.sub (ws' := [(qS, .inr (0, [.long 0, .long 0]))]) [2] (by decide) rfl
  have hKc := hK.sub (tys' := []) [] rfl
  refine rr_wv (wr := [(h0, .inr (1, [.ref qT, .int 7, .int 0, .int 0, .int 0, .null])), (qT, .inl (cA, 187, .inl f1))]) [2] [0, 1] (va_runIN (As := []) (rest := [.ref qS, .ref h0]) ⟨hx, hb, hml, hown, hts⟩ (c_X0_init l D qS H.size 0 0) ⟨va_cnB 0 hts gX1_init_X0_init_n37 rfl rfl rfl hN (hts (.initialized RX0) (by decide +kernel)) (by decide +kernel) ⟨Nat.le_of_ble_eq_true rfl, Nat.le_of_ble_eq_true rfl⟩, rfl, hts (.instanceMethod yX0_init) (by decide +kernel)⟩ (rr_vS hKc hPc hDc) rfl rfl hl.1 rfl (lv_room (Nat.le_of_ble_eq_true rfl)) dX1_init_62 ⟨Nat.le_of_ble_eq_true rfl, Nat.le_of_ble_eq_true rfl⟩) hS hA hP hD rfl rfl (by decide) (by decide) (by decide) (fun _ => by simp only [rr_wx, rr_wm, List.map_cons, List.map_nil]) (fun _ H locs _ hP hD hS => ?_)
  have hP : va_P D vwCl [(h0, .inr (1, [.ref qT, .int 7, .int 0, .int 0, .int 0, .null])), (qT, .inl (cA, 187, .inl f1)), (qS, .inr (0, [.long 0, .long 0]))] H := hP
  have hD : va_D A [(h0, .inr (1, [.ref qT, .int 7, .int 0, .int 0, .int 0, .null])), (qT, .inl (cA, 187, .inl f1)), (qS, .inr (0, [.long 0, .long 0]))] := hD
  refine va_putF (D := D) (ci := 1) (v := .ref qS) (ty := .object "RangeRules$Span") (C := RX1) (T := TX1) (N := 6) hx hb hts hiX1 tyX1 tyX1_ok nmX1 hown hK hP hD hS 0 rfl rfl 5 (by decide) (hts (.fieldLink RX1 38 "RangeRules" "span" "LRangeRules$Span;") (by decide +kernel)) (fun _ h9 => h9) rfl hin rfl (by decide +kernel) rfl rfl (Nat.le_of_ble_eq_true rfl) dX1_init_65 (fun H locs hP hD hS => ?_)
  have hP : va_P D vwCl [(h0, .inr (1, [.ref qT, .int 7, .int 0, .int 0, .int 0, .ref qS])), (qT, .inl (cA, 187, .inl f1)), (qS, .inr (0, [.long 0, .long 0]))] H := hP
  have hD : va_D A [(h0, .inr (1, [.ref qT, .int 7, .int 0, .int 0, .int 0, .ref qS])), (qT, .inl (cA, 187, .inl f1)), (qS, .inr (0, [.long 0, .long 0]))] := hD
  exact W.vret hx hb hr (fun tt ht hW => ⟨⟨(qT, qS, cA, f1), rfl, hf7, by dsimp only; rw [ht]; exact hP, va_K.moved hW.alike hK, hD⟩, hS.F ht⟩) hS.2.2 dX1_init_68
end
section
set_option maxHeartbeats 1000000 in
set_option maxRecDepth 100000 in
/-- size -/
theorem c_X2_size (l : Launch) (D : va_G) (h0 qT sz : Nat) (cA : ClassId) (f : Nat → Int32) (n t : Nat) (lo hi : Int32)   : Met l yX2_size wsX2_size ({ frames := 0, cells := 0, slots := 0, locals := 0 }) (rr_pR D (rr_wm h0 qT cA f n t lo hi) [(cA, .int)] [.ref h0] sz) (va_Qi (fun r (_ : Unit) => r = nI n) (fun _ _ => True) (va_A [] sz)) 0 0 (va_A [] sz) := by
  refine Met.ofW (cc := cX2_size) (maxL := 1) (ret := (some .int)) (by decide) rfl ?_
  intro p e s m args below meth c s₁ B hml hv
  obtain ⟨rfl, hsz, hP, hK⟩ := hv
  have hx := B.exec
  have hb := B.bytes
  have hr := B.returns
  have hts := atoms_spec (ws := wsX2_size) B.pre
  have hown : s.vm.findClass RX2 = some m.cls := findClass_of_methodNamed B.named
  have hlocks := B.notSynchronized
  subst hsz
  generalize hAe : va_A [] s.heap.size = A
  have hA : ∀ q : Nat, s.heap.size ≤ q → A q := fun q h => by rw [← hAe]; exact Or.inr h
  have hS : va_S A s.heap s.heap [] := va_S.rf
  have hP : va_P D vwCl [(h0, .inr (2, [.ref qT, .int (nI n), .int (nI t), .int lo, .int hi])), (qT, .inl (cA, 187, .inl f))] s.heap := hP
  have hiX2 : ∀ w ∈ wsX20, w ∈ wsX2_size := by decide +kernel
  have hl := lv_entry ([.ref h0]) (n := 1) (Nat.le_of_ble_eq_true rfl)
  rw [lg_entry_eq]
  generalize (lg_sl ([.ref h0]) ++ List.replicate (1 - (lg_sl ([.ref h0])).length) Slot.unset).toArray = ls at hl ⊢
  have hl : lv_has ls 1 [(0, .ref h0)] := hl
  refine lv_aload_n hx hb dX2_size_0 rfl (lv_at hl 0 rfl) ?_
  refine va_get (D := D) (ci := 2) (v := .int (nI n)) (C := RX2) (T := TX2) (N := 5) hx hb hts hiX2 hown hK hP 0 rfl rfl 1 (by decide) (hts (.fieldLink RX2 20 "RangeRulesModel" "thresholds" "I") (by decide +kernel)) (fun _ h9 => h9) rfl dX2_size_1 ?_
  exact W.iret (v := nI n) hx hb hr (fun tt ht hW => ⟨⟨_, (), rfl, rfl, trivial⟩, hS.F ht⟩) hS.2.2 dX2_size_4
set_option maxHeartbeats 1000000 in
set_option maxRecDepth 100000 in
/-- low -/
theorem c_X2_low (l : Launch) (D : va_G) (h0 qT sz : Nat) (cA : ClassId) (f : Nat → Int32) (n t : Nat) (lo hi : Int32)   : Met l yX2_low wsX2_low ({ frames := 0, cells := 0, slots := 0, locals := 0 }) (rr_pR D (rr_wm h0 qT cA f n t lo hi) [(cA, .int)] [.ref h0] sz) (va_Qi (fun r (_ : Unit) => r = lo) (fun _ _ => True) (va_A [] sz)) 0 0 (va_A [] sz) := by
  refine Met.ofW (cc := cX2_low) (maxL := 1) (ret := (some .int)) (by decide) rfl ?_
  intro p e s m args below meth c s₁ B hml hv
  obtain ⟨rfl, hsz, hP, hK⟩ := hv
  have hx := B.exec
  have hb := B.bytes
  have hr := B.returns
  have hts := atoms_spec (ws := wsX2_low) B.pre
  have hown : s.vm.findClass RX2 = some m.cls := findClass_of_methodNamed B.named
  have hlocks := B.notSynchronized
  subst hsz
  generalize hAe : va_A [] s.heap.size = A
  have hA : ∀ q : Nat, s.heap.size ≤ q → A q := fun q h => by rw [← hAe]; exact Or.inr h
  have hS : va_S A s.heap s.heap [] := va_S.rf
  have hP : va_P D vwCl [(h0, .inr (2, [.ref qT, .int (nI n), .int (nI t), .int lo, .int hi])), (qT, .inl (cA, 187, .inl f))] s.heap := hP
  have hiX2 : ∀ w ∈ wsX20, w ∈ wsX2_low := by decide +kernel
  have hl := lv_entry ([.ref h0]) (n := 1) (Nat.le_of_ble_eq_true rfl)
  rw [lg_entry_eq]
  generalize (lg_sl ([.ref h0]) ++ List.replicate (1 - (lg_sl ([.ref h0])).length) Slot.unset).toArray = ls at hl ⊢
  have hl : lv_has ls 1 [(0, .ref h0)] := hl
  refine lv_aload_n hx hb dX2_low_0 rfl (lv_at hl 0 rfl) ?_
  refine va_get (D := D) (ci := 2) (v := .int lo) (C := RX2) (T := TX2) (N := 5) hx hb hts hiX2 hown hK hP 0 rfl rfl 3 (by decide) (hts (.fieldLink RX2 53 "RangeRulesModel" "low" "I") (by decide +kernel)) (fun _ h9 => h9) rfl dX2_low_1 ?_
  exact W.iret (v := lo) hx hb hr (fun tt ht hW => ⟨⟨_, (), rfl, rfl, trivial⟩, hS.F ht⟩) hS.2.2 dX2_low_4
set_option maxHeartbeats 1000000 in
set_option maxRecDepth 100000 in
/-- high -/
theorem c_X2_high (l : Launch) (D : va_G) (h0 qT sz : Nat) (cA : ClassId) (f : Nat → Int32) (n t : Nat) (lo hi : Int32)   : Met l yX2_high wsX2_high ({ frames := 0, cells := 0, slots := 0, locals := 0 }) (rr_pR D (rr_wm h0 qT cA f n t lo hi) [(cA, .int)] [.ref h0] sz) (va_Qi (fun r (_ : Unit) => r = hi) (fun _ _ => True) (va_A [] sz)) 0 0 (va_A [] sz) := by
  refine Met.ofW (cc := cX2_high) (maxL := 1) (ret := (some .int)) (by decide) rfl ?_
  intro p e s m args below meth c s₁ B hml hv
  obtain ⟨rfl, hsz, hP, hK⟩ := hv
  have hx := B.exec
  have hb := B.bytes
  have hr := B.returns
  have hts := atoms_spec (ws := wsX2_high) B.pre
  have hown : s.vm.findClass RX2 = some m.cls := findClass_of_methodNamed B.named
  have hlocks := B.notSynchronized
  subst hsz
  generalize hAe : va_A [] s.heap.size = A
  have hA : ∀ q : Nat, s.heap.size ≤ q → A q := fun q h => by rw [← hAe]; exact Or.inr h
  have hS : va_S A s.heap s.heap [] := va_S.rf
  have hP : va_P D vwCl [(h0, .inr (2, [.ref qT, .int (nI n), .int (nI t), .int lo, .int hi])), (qT, .inl (cA, 187, .inl f))] s.heap := hP
  have hiX2 : ∀ w ∈ wsX20, w ∈ wsX2_high := by decide +kernel
  have hl := lv_entry ([.ref h0]) (n := 1) (Nat.le_of_ble_eq_true rfl)
  rw [lg_entry_eq]
  generalize (lg_sl ([.ref h0]) ++ List.replicate (1 - (lg_sl ([.ref h0])).length) Slot.unset).toArray = ls at hl ⊢
  have hl : lv_has ls 1 [(0, .ref h0)] := hl
  refine lv_aload_n hx hb dX2_high_0 rfl (lv_at hl 0 rfl) ?_
  refine va_get (D := D) (ci := 2) (v := .int hi) (C := RX2) (T := TX2) (N := 5) hx hb hts hiX2 hown hK hP 0 rfl rfl 4 (by decide) (hts (.fieldLink RX2 56 "RangeRulesModel" "high" "I") (by decide +kernel)) (fun _ h9 => h9) rfl dX2_high_1 ?_
  exact W.iret (v := hi) hx hb hr (fun tt ht hW => ⟨⟨_, (), rfl, rfl, trivial⟩, hS.F ht⟩) hS.2.2 dX2_high_4
set_option maxHeartbeats 1000000 in
set_option maxRecDepth 100000 in
/-- down(v) -/
theorem c_X2_down (l : Launch) (D : va_G) (h0 qT sz : Nat) (cA : ClassId) (f : Nat → Int32) (n t : Nat) (lo hi : Int32) (v : Int32) (hn : n ≤ 187) : Met l yX2_down wsX2_down ({ frames := 1, cells := 0, slots := 0, locals := 20 }) (rr_pR D (rr_wm h0 qT cA f n t lo hi) [(cA, .int)] [.ref h0, .int v] sz) (va_Qi (fun r (_ : Unit) => r = rr_dn f v n) (fun _ _ => True) (va_A [] sz)) 0 0 (va_A [] sz) := by
  refine Met.ofW (cc := cX2_down) (maxL := 4) (ret := (some .int)) (by decide) rfl ?_
  intro p e s m args below meth c s₁ B hml hv
  obtain ⟨rfl, hsz, hP, hK⟩ := hv
  have hx := B.exec
  have hb := B.bytes
  have hr := B.returns
  have hts := atoms_spec (ws := wsX2_down) B.pre
  have hown : s.vm.findClass RX2 = some m.cls := findClass_of_methodNamed B.named
  have hlocks := B.notSynchronized
  subst hsz
  generalize hAe : va_A [] s.heap.size = A
  have hA : ∀ q : Nat, s.heap.size ≤ q → A q := fun q h => by rw [← hAe]; exact Or.inr h
  have hS : va_S A s.heap s.heap [] := va_S.rf
  have hP : va_P D vwCl [(h0, .inr (2, [.ref qT, .int (nI n), .int (nI t), .int lo, .int hi])), (qT, .inl (cA, 187, .inl f))] s.heap := hP
  have hiX2 : ∀ w ∈ wsX20, w ∈ wsX2_down := by decide +kernel
  have hl := lv_entry ([.ref h0, .int v]) (n := 4) (Nat.le_of_ble_eq_true rfl)
  rw [lg_entry_eq]
  generalize (lg_sl ([.ref h0, .int v]) ++ List.replicate (4 - (lg_sl ([.ref h0, .int v])).length) Slot.unset).toArray = ls at hl ⊢
  have hl : lv_has ls 4 [(0, .ref h0), (1, .int v)] := hl
  refine lv_ldc (v := (-2147483648)) hx hb hown (hts (.constant RX2 35 (-2147483648)) (by decide +kernel)) dX2_down_0 ?_
  refine lv_istore_n (lv' := [(2, .int ((-2147483648))), (0, .ref h0), (1, .int v)]) hx hb dX2_down_2 rfl hl (by decide) rfl (fun ls hl => ?_)
  refine lv_iconst (v := 0) hx hb dX2_down_3 (by decide) ?_
  refine lv_istore_n (lv' := [(3, .int 0), (2, .int ((-2147483648))), (0, .ref h0), (1, .int v)]) hx hb dX2_down_4 rfl hl (by decide) rfl (fun ls hl => ?_)
  obtain ⟨i, hi0⟩ : ∃ i : Nat, i = 0 := ⟨_, rfl⟩
  replace hl : lv_has ls 4 [(3, .int (nI i)), (2, .int (rr_dn f v i)), (0, .ref h0), (1, .int v)] := by rw [hi0]; exact hl
  obtain ⟨k, hk⟩ : ∃ k : Nat, i + k = n := ⟨n, by omega⟩
  clear hi0
  induction k generalizing i ls with
  | zero =>
    refine lv_iload_n hx hb dX2_down_5 rfl (lv_at hl 0 rfl) ?_
    refine lv_aload_n hx hb dX2_down_6 rfl (lv_at hl 2 rfl) ?_
    refine va_get (D := D) (ci := 2) (v := .int (nI n)) (C := RX2) (T := TX2) (N := 5) hx hb hts hiX2 hown hK hP 0 rfl rfl 1 (by decide) (hts (.fieldLink RX2 20 "RangeRulesModel" "thresholds" "I") (by decide +kernel)) (fun _ h9 => h9) rfl dX2_down_7 ?_
    refine lv_icmp_ge (tgt := 40) hx hb dX2_down_10 (by decide) (fun c10 => ?_) (fun c10 => ?_)
    · skip
      refine lv_iload_n hx hb dX2_down_40 rfl (lv_at hl 1 rfl) ?_
      exact W.iret (v := rr_dn f v i) hx hb hr (fun tt ht hW => ⟨⟨_, (), rfl, by rw [← hk]; rfl, trivial⟩, hS.F ht⟩) hS.2.2 dX2_down_41
    · skip
      exact absurd (nI_le (by omega) (by omega)) c10
  | succ k ih =>
    refine lv_iload_n hx hb dX2_down_5 rfl (lv_at hl 0 rfl) ?_
    refine lv_aload_n hx hb dX2_down_6 rfl (lv_at hl 2 rfl) ?_
    refine va_get (D := D) (ci := 2) (v := .int (nI n)) (C := RX2) (T := TX2) (N := 5) hx hb hts hiX2 hown hK hP 0 rfl rfl 1 (by decide) (hts (.fieldLink RX2 20 "RangeRulesModel" "thresholds" "I") (by decide +kernel)) (fun _ h9 => h9) rfl dX2_down_7 ?_
    refine lv_icmp_ge (tgt := 40) hx hb dX2_down_10 (by decide) (fun c10 => ?_) (fun c10 => ?_)
    · skip
      exact absurd c10 (nI_ge (by omega) (by omega))
    · skip
      refine lv_aload_n hx hb dX2_down_13 rfl (lv_at hl 2 rfl) ?_
      refine va_get (D := D) (ci := 2) (v := .ref qT) (C := RX2) (T := TX2) (N := 5) hx hb hts hiX2 hown hK hP 0 rfl rfl 0 (by decide) (hts (.fieldLink RX2 9 "RangeRulesModel" "threshold" "[I") (by decide +kernel)) (fun _ h9 => h9) rfl dX2_down_14 ?_
      refine lv_iload_n hx hb dX2_down_17 rfl (lv_at hl 0 rfl) ?_
      refine va_iald hx hb hK hP 1 0 rfl rfl (vp_in_nI (by omega) (by omega)) dX2_down_18 ?_
      refine W.eq (congrArg (fun z => F0 m 19 ls (.int z :: [])) (congrArg f (nI_clamp (by omega)))) ?_
      refine lv_iload_n hx hb dX2_down_19 rfl (lv_at hl 3 rfl) ?_
      refine lv_icmp_gt (tgt := 34) hx hb dX2_down_20 (by decide) (fun c20 => ?_) (fun c20 => ?_)
      · skip
        refine lv_iinc (v := nI (i + 1)) (lv' := [(3, .int (nI (i + 1))), (2, .int (rr_dn f v i)), (0, .ref h0), (1, .int v)]) hx hb dX2_down_34 hl (k := 0) rfl (nI_1 i) (by decide) rfl (fun ls hl => ?_)
        refine lv_goto (tgt := 5) hx hb dX2_down_37 (by decide) ?_
        have ee : rr_dn f v (i + 1) = rr_dn f v i := if_neg (c := f i ≤ v ∧ rr_dn f v i < f i) (fun z => absurd z.1 (Int32.not_le.mpr c20))
        refine ih ls (i + 1) ?_ (by omega)
        rw [ee]
        exact lv_sub hl [0, 1, 2, 3] rfl
      · skip
        refine lv_iload_n hx hb dX2_down_23 rfl (lv_at hl 1 rfl) ?_
        refine lv_aload_n hx hb dX2_down_24 rfl (lv_at hl 2 rfl) ?_
        refine va_get (D := D) (ci := 2) (v := .ref qT) (C := RX2) (T := TX2) (N := 5) hx hb hts hiX2 hown hK hP 0 rfl rfl 0 (by decide) (hts (.fieldLink RX2 9 "RangeRulesModel" "threshold" "[I") (by decide +kernel)) (fun _ h9 => h9) rfl dX2_down_25 ?_
        refine lv_iload_n hx hb dX2_down_28 rfl (lv_at hl 0 rfl) ?_
        refine va_iald hx hb hK hP 1 0 rfl rfl (vp_in_nI (by omega) (by omega)) dX2_down_29 ?_
        refine W.eq (congrArg (fun z => F0 m 30 ls (.int z :: [.int (rr_dn f v i)])) (congrArg f (nI_clamp (by omega)))) ?_
        refine va_mmax hx hb (hml.trans hl.1.symm) hown (hts (.methodLink RX2 36 Lib.Math.max.name) (by decide +kernel)) (hts (.static Lib.Math.max.name) (by decide +kernel)) (hts (.initialized "java/lang/Math") (by decide +kernel)) (hts (.code Lib.Math.max.name Lib.Math.max.code 2 (some .int)) (by decide +kernel)) (Nat.le_of_ble_eq_true rfl) (Nat.le_of_ble_eq_true rfl) (Nat.le_of_ble_eq_true rfl) (Nat.le_of_ble_eq_true rfl) dX2_down_30 ?_
        refine W.eq (g2 := F0 m 33 ls [.int (rr_xi (rr_dn f v i) (f i))]) rfl ?_
        refine lv_istore_n (lv' := [(2, .int (rr_xi (rr_dn f v i) (f i))), (3, .int (nI i)), (0, .ref h0), (1, .int v)]) hx hb dX2_down_33 rfl hl (by decide) rfl (fun ls hl => ?_)
        refine lv_iinc (v := nI (i + 1)) (lv' := [(3, .int (nI (i + 1))), (2, .int (rr_xi (rr_dn f v i) (f i))), (0, .ref h0), (1, .int v)]) hx hb dX2_down_34 hl (k := 1) rfl (nI_1 i) (by decide) rfl (fun ls hl => ?_)
        refine lv_goto (tgt := 5) hx hb dX2_down_37 (by decide) ?_
        have ee : rr_dn f v (i + 1) = rr_xi (rr_dn f v i) (f i) := rr_dn_x (Int32.not_lt.mp c20)
        refine ih ls (i + 1) ?_ (by omega)
        rw [ee]
        exact lv_sub hl [0, 1, 2, 3] rfl
set_option maxHeartbeats 1000000 in
set_option maxRecDepth 100000 in
/-- up(v) -/
theorem c_X2_up (l : Launch) (D : va_G) (h0 qT sz : Nat) (cA : ClassId) (f : Nat → Int32) (n t : Nat) (lo hi : Int32) (v : Int32) (hn : n ≤ 187) : Met l yX2_up wsX2_up ({ frames := 1, cells := 0, slots := 0, locals := 20 }) (rr_pR D (rr_wm h0 qT cA f n t lo hi) [(cA, .int)] [.ref h0, .int v] sz) (va_Qi (fun r (_ : Unit) => r = rr_up f v n) (fun _ _ => True) (va_A [] sz)) 0 0 (va_A [] sz) := by
  refine Met.ofW (cc := cX2_up) (maxL := 4) (ret := (some .int)) (by decide) rfl ?_
  intro p e s m args below meth c s₁ B hml hv
  obtain ⟨rfl, hsz, hP, hK⟩ := hv
  have hx := B.exec
  have hb := B.bytes
  have hr := B.returns
  have hts := atoms_spec (ws := wsX2_up) B.pre
  have hown : s.vm.findClass RX2 = some m.cls := findClass_of_methodNamed B.named
  have hlocks := B.notSynchronized
  subst hsz
  generalize hAe : va_A [] s.heap.size = A
  have hA : ∀ q : Nat, s.heap.size ≤ q → A q := fun q h => by rw [← hAe]; exact Or.inr h
  have hS : va_S A s.heap s.heap [] := va_S.rf
  have hP : va_P D vwCl [(h0, .inr (2, [.ref qT, .int (nI n), .int (nI t), .int lo, .int hi])), (qT, .inl (cA, 187, .inl f))] s.heap := hP
  have hiX2 : ∀ w ∈ wsX20, w ∈ wsX2_up := by decide +kernel
  have hl := lv_entry ([.ref h0, .int v]) (n := 4) (Nat.le_of_ble_eq_true rfl)
  rw [lg_entry_eq]
  generalize (lg_sl ([.ref h0, .int v]) ++ List.replicate (4 - (lg_sl ([.ref h0, .int v])).length) Slot.unset).toArray = ls at hl ⊢
  have hl : lv_has ls 4 [(0, .ref h0), (1, .int v)] := hl
  refine lv_ldc (v := 2147483647) hx hb hown (hts (.constant RX2 42 2147483647) (by decide +kernel)) dX2_up_0 ?_
  refine lv_istore_n (lv' := [(2, .int 2147483647), (0, .ref h0), (1, .int v)]) hx hb dX2_up_2 rfl hl (by decide) rfl (fun ls hl => ?_)
  refine lv_iconst (v := 0) hx hb dX2_up_3 (by decide) ?_
  refine lv_istore_n (lv' := [(3, .int 0), (2, .int 2147483647), (0, .ref h0), (1, .int v)]) hx hb dX2_up_4 rfl hl (by decide) rfl (fun ls hl => ?_)
  obtain ⟨i, hi0⟩ : ∃ i : Nat, i = 0 := ⟨_, rfl⟩
  replace hl : lv_has ls 4 [(3, .int (nI i)), (2, .int (rr_up f v i)), (0, .ref h0), (1, .int v)] := by rw [hi0]; exact hl
  obtain ⟨k, hk⟩ : ∃ k : Nat, i + k = n := ⟨n, by omega⟩
  clear hi0
  induction k generalizing i ls with
  | zero =>
    refine lv_iload_n hx hb dX2_up_5 rfl (lv_at hl 0 rfl) ?_
    refine lv_aload_n hx hb dX2_up_6 rfl (lv_at hl 2 rfl) ?_
    refine va_get (D := D) (ci := 2) (v := .int (nI n)) (C := RX2) (T := TX2) (N := 5) hx hb hts hiX2 hown hK hP 0 rfl rfl 1 (by decide) (hts (.fieldLink RX2 20 "RangeRulesModel" "thresholds" "I") (by decide +kernel)) (fun _ h9 => h9) rfl dX2_up_7 ?_
    refine lv_icmp_ge (tgt := 40) hx hb dX2_up_10 (by decide) (fun c10 => ?_) (fun c10 => ?_)
    · skip
      refine lv_iload_n hx hb dX2_up_40 rfl (lv_at hl 1 rfl) ?_
      exact W.iret (v := rr_up f v i) hx hb hr (fun tt ht hW => ⟨⟨_, (), rfl, by rw [← hk]; rfl, trivial⟩, hS.F ht⟩) hS.2.2 dX2_up_41
    · skip
      exact absurd (nI_le (by omega) (by omega)) c10
  | succ k ih =>
    refine lv_iload_n hx hb dX2_up_5 rfl (lv_at hl 0 rfl) ?_
    refine lv_aload_n hx hb dX2_up_6 rfl (lv_at hl 2 rfl) ?_
    refine va_get (D := D) (ci := 2) (v := .int (nI n)) (C := RX2) (T := TX2) (N := 5) hx hb hts hiX2 hown hK hP 0 rfl rfl 1 (by decide) (hts (.fieldLink RX2 20 "RangeRulesModel" "thresholds" "I") (by decide +kernel)) (fun _ h9 => h9) rfl dX2_up_7 ?_
    refine lv_icmp_ge (tgt := 40) hx hb dX2_up_10 (by decide) (fun c10 => ?_) (fun c10 => ?_)
    · skip
      exact absurd c10 (nI_ge (by omega) (by omega))
    · skip
      refine lv_aload_n hx hb dX2_up_13 rfl (lv_at hl 2 rfl) ?_
      refine va_get (D := D) (ci := 2) (v := .ref qT) (C := RX2) (T := TX2) (N := 5) hx hb hts hiX2 hown hK hP 0 rfl rfl 0 (by decide) (hts (.fieldLink RX2 9 "RangeRulesModel" "threshold" "[I") (by decide +kernel)) (fun _ h9 => h9) rfl dX2_up_14 ?_
      refine lv_iload_n hx hb dX2_up_17 rfl (lv_at hl 0 rfl) ?_
      refine va_iald hx hb hK hP 1 0 rfl rfl (vp_in_nI (by omega) (by omega)) dX2_up_18 ?_
      refine W.eq (congrArg (fun z => F0 m 19 ls (.int z :: [])) (congrArg f (nI_clamp (by omega)))) ?_
      refine lv_iload_n hx hb dX2_up_19 rfl (lv_at hl 3 rfl) ?_
      refine lv_icmp_lt (tgt := 34) hx hb dX2_up_20 (by decide) (fun c20 => ?_) (fun c20 => ?_)
      · skip
        refine lv_iinc (v := nI (i + 1)) (lv' := [(3, .int (nI (i + 1))), (2, .int (rr_up f v i)), (0, .ref h0), (1, .int v)]) hx hb dX2_up_34 hl (k := 0) rfl (nI_1 i) (by decide) rfl (fun ls hl => ?_)
        refine lv_goto (tgt := 5) hx hb dX2_up_37 (by decide) ?_
        have ee : rr_up f v (i + 1) = rr_up f v i := if_neg (c := v ≤ f i ∧ f i < rr_up f v i) (fun z => absurd z.1 (Int32.not_le.mpr c20))
        refine ih ls (i + 1) ?_ (by omega)
        rw [ee]
        exact lv_sub hl [0, 1, 2, 3] rfl
      · skip
        refine lv_iload_n hx hb dX2_up_23 rfl (lv_at hl 1 rfl) ?_
        refine lv_aload_n hx hb dX2_up_24 rfl (lv_at hl 2 rfl) ?_
        refine va_get (D := D) (ci := 2) (v := .ref qT) (C := RX2) (T := TX2) (N := 5) hx hb hts hiX2 hown hK hP 0 rfl rfl 0 (by decide) (hts (.fieldLink RX2 9 "RangeRulesModel" "threshold" "[I") (by decide +kernel)) (fun _ h9 => h9) rfl dX2_up_25 ?_
        refine lv_iload_n hx hb dX2_up_28 rfl (lv_at hl 0 rfl) ?_
        refine va_iald hx hb hK hP 1 0 rfl rfl (vp_in_nI (by omega) (by omega)) dX2_up_29 ?_
        refine W.eq (congrArg (fun z => F0 m 30 ls (.int z :: [.int (rr_up f v i)])) (congrArg f (nI_clamp (by omega)))) ?_
        refine va_mmin hx hb (hml.trans hl.1.symm) hown (hts (.methodLink RX2 43 Lib.Math.min.name) (by decide +kernel)) (hts (.static Lib.Math.min.name) (by decide +kernel)) (hts (.initialized "java/lang/Math") (by decide +kernel)) (hts (.code Lib.Math.min.name Lib.Math.min.code 2 (some .int)) (by decide +kernel)) (Nat.le_of_ble_eq_true rfl) (Nat.le_of_ble_eq_true rfl) (Nat.le_of_ble_eq_true rfl) (Nat.le_of_ble_eq_true rfl) dX2_up_30 ?_
        refine W.eq (g2 := F0 m 33 ls [.int (rr_ni (rr_up f v i) (f i))]) rfl ?_
        refine lv_istore_n (lv' := [(2, .int (rr_ni (rr_up f v i) (f i))), (3, .int (nI i)), (0, .ref h0), (1, .int v)]) hx hb dX2_up_33 rfl hl (by decide) rfl (fun ls hl => ?_)
        refine lv_iinc (v := nI (i + 1)) (lv' := [(3, .int (nI (i + 1))), (2, .int (rr_ni (rr_up f v i) (f i))), (0, .ref h0), (1, .int v)]) hx hb dX2_up_34 hl (k := 1) rfl (nI_1 i) (by decide) rfl (fun ls hl => ?_)
        refine lv_goto (tgt := 5) hx hb dX2_up_37 (by decide) ?_
        have ee : rr_up f v (i + 1) = rr_ni (rr_up f v i) (f i) := rr_up_x (Int32.not_lt.mp c20)
        refine ih ls (i + 1) ?_ (by omega)
        rw [ee]
        exact lv_sub hl [0, 1, 2, 3] rfl
set_option maxHeartbeats 1000000 in
set_option maxRecDepth 100000 in
/-- isRange(x, y) -/
theorem c_X2_isRange (l : Launch) (D : va_G) (h0 qT sz : Nat) (cA : ClassId) (f : Nat → Int32) (n t : Nat) (lo hi : Int32) (x y : Int32) (hn : n ≤ 187) (hk : rr_ok f n) : Met l yX2_isRange wsX2_isRange ({ frames := 2, cells := 0, slots := 0, locals := 43 }) (rr_pR D (rr_wm h0 qT cA f n t lo hi) [(cA, .int)] [.ref h0, .int x, .int y] sz) (va_Qi (fun r (_ : Unit) => r = if rr_rg f n x y = true then 1 else 0) (fun _ _ => True) (va_A [] sz)) 0 0 (va_A [] sz) := by
  refine Met.ofW (cc := cX2_isRange) (maxL := 3) (ret := (some .boolean)) (by decide) rfl ?_
  intro p e s m args below meth c s₁ B hml hv
  obtain ⟨rfl, hsz, hP, hK⟩ := hv
  have hx := B.exec
  have hb := B.bytes
  have hr := B.returns
  have hts := atoms_spec (ws := wsX2_isRange) B.pre
  have hown : s.vm.findClass RX2 = some m.cls := findClass_of_methodNamed B.named
  have hlocks := B.notSynchronized
  subst hsz
  generalize hAe : va_A [] s.heap.size = A
  have hA : ∀ q : Nat, s.heap.size ≤ q → A q := fun q h => by rw [← hAe]; exact Or.inr h
  have hS : va_S A s.heap s.heap [] := va_S.rf
  have hP : va_P D vwCl [(h0, .inr (2, [.ref qT, .int (nI n), .int (nI t), .int lo, .int hi])), (qT, .inl (cA, 187, .inl f))] s.heap := hP
  have hiX2 : ∀ w ∈ wsX20, w ∈ wsX2_isRange := by decide +kernel
  have hl := lv_entry ([.ref h0, .int x, .int y]) (n := 3) (Nat.le_of_ble_eq_true rfl)
  rw [lg_entry_eq]
  generalize (lg_sl ([.ref h0, .int x, .int y]) ++ List.replicate (3 - (lg_sl ([.ref h0, .int x, .int y])).length) Slot.unset).toArray = ls at hl ⊢
  have hl : lv_has ls 3 [(0, .ref h0), (1, .int x), (2, .int y)] := hl
  refine lv_iload_n hx hb dX2_isRange_0 rfl (lv_at hl 1 rfl) ?_
  refine lv_iload_n hx hb dX2_isRange_1 rfl (lv_at hl 2 rfl) ?_
  refine lv_icmp_gt (tgt := 27) hx hb dX2_isRange_2 (by decide) (fun c2 => ?_) (fun c2 => ?_)
  · skip
    refine lv_iconst (v := 0) hx hb dX2_isRange_27 (by decide) ?_
    exact W.zret (v := 0) hx hb hr rfl (fun tt ht hW => ⟨⟨_, (), rfl, by rw [if_neg (fun z => by have z := rr_rg_iff.mp z; first | exact absurd z.1 (Int32.not_le.mpr c2) | exact c11 ((rr_dn_iff hk x).mpr z.2.1) | exact c20 ((rr_up_iff hk y).mpr z.2.2))], trivial⟩, hS.F ht⟩) hS.2.2 dX2_isRange_28
  · skip
    refine lv_aload_n hx hb dX2_isRange_5 rfl (lv_at hl 0 rfl) ?_
    refine lv_iload_n hx hb dX2_isRange_6 rfl (lv_at hl 1 rfl) ?_
    refine rr_ri (va_runV (As := [.int x]) (rest := []) ⟨hx, hb, hml, hown, hts⟩ (c_X2_down l D h0 qT s.heap.size cA f n t lo hi x hn) (cwV 1 hts gX2_isRange_X2_down rfl rfl rfl (by decide +kernel) ⟨Nat.le_of_ble_eq_true rfl, Nat.le_of_ble_eq_true rfl⟩) (rr_vR hK hP (va_recv hK hP (ci := 2) (q0 := 0) rfl rfl)) rfl rfl hl.1 rfl (lv_room (Nat.le_of_ble_eq_true rfl)) dX2_isRange_7 ⟨Nat.le_of_ble_eq_true rfl, Nat.le_of_ble_eq_true rfl⟩) hS hA hP (fun r7 H locs e7 hP hS => ?_)
    subst e7
    refine lv_iload_n hx hb dX2_isRange_10 rfl (lv_at hl 1 rfl) ?_
    refine lv_icmp_ne (tgt := 27) hx hb dX2_isRange_11 (by decide) (fun c11 => ?_) (fun c11 => ?_)
    · skip
      refine lv_iconst (v := 0) hx hb dX2_isRange_27 (by decide) ?_
      exact W.zret (v := 0) hx hb hr rfl (fun tt ht hW => ⟨⟨_, (), rfl, by rw [if_neg (fun z => by have z := rr_rg_iff.mp z; first | exact absurd z.1 (Int32.not_le.mpr c2) | exact c11 ((rr_dn_iff hk x).mpr z.2.1) | exact c20 ((rr_up_iff hk y).mpr z.2.2))], trivial⟩, hS.F ht⟩) hS.2.2 dX2_isRange_28
    · skip
      refine lv_aload_n hx hb dX2_isRange_14 rfl (lv_at hl 0 rfl) ?_
      refine lv_iload_n hx hb dX2_isRange_15 rfl (lv_at hl 2 rfl) ?_
      refine rr_ri (va_runV (As := [.int y]) (rest := []) ⟨hx, hb, hml, hown, hts⟩ (c_X2_up l D h0 qT H.size cA f n t lo hi y hn) (cwV 1 hts gX2_isRange_X2_up rfl rfl rfl (by decide +kernel) ⟨Nat.le_of_ble_eq_true rfl, Nat.le_of_ble_eq_true rfl⟩) (rr_vR hK hP (va_recv hK hP (ci := 2) (q0 := 0) rfl rfl)) rfl rfl hl.1 rfl (lv_room (Nat.le_of_ble_eq_true rfl)) dX2_isRange_16 ⟨Nat.le_of_ble_eq_true rfl, Nat.le_of_ble_eq_true rfl⟩) hS hA hP (fun r16 H locs e16 hP hS => ?_)
      subst e16
      refine lv_iload_n hx hb dX2_isRange_19 rfl (lv_at hl 2 rfl) ?_
      refine lv_icmp_ne (tgt := 27) hx hb dX2_isRange_20 (by decide) (fun c20 => ?_) (fun c20 => ?_)
      · skip
        refine lv_iconst (v := 0) hx hb dX2_isRange_27 (by decide) ?_
        exact W.zret (v := 0) hx hb hr rfl (fun tt ht hW => ⟨⟨_, (), rfl, by rw [if_neg (fun z => by have z := rr_rg_iff.mp z; first | exact absurd z.1 (Int32.not_le.mpr c2) | exact c11 ((rr_dn_iff hk x).mpr z.2.1) | exact c20 ((rr_up_iff hk y).mpr z.2.2))], trivial⟩, hS.F ht⟩) hS.2.2 dX2_isRange_28
      · skip
        refine lv_iconst (v := 1) hx hb dX2_isRange_23 (by decide) ?_
        refine lv_goto (tgt := 28) hx hb dX2_isRange_24 (by decide) ?_
        exact W.zret (v := 1) hx hb hr rfl (fun tt ht hW => ⟨⟨_, (), rfl, by rw [if_pos (rr_rg_iff.mpr ⟨Int32.not_lt.mp c2, (rr_dn_iff hk x).mp c11, (rr_up_iff hk y).mp c20⟩)], trivial⟩, hS.F ht⟩) hS.2.2 dX2_isRange_28
set_option maxHeartbeats 1000000 in
set_option maxRecDepth 100000 in
/-- ones(v) -/
theorem c_X2_ones (l : Launch) (sz : Nat) (v : Int32)  : Met l yX2_ones wsX2_ones ({ frames := 0, cells := 0, slots := 0, locals := 0 }) (rr_p0 [.int v] sz) (va_Ql (fun r (_ : Unit) => r = lN (rr_on v 31 0)) (fun _ _ => True) (va_A [] sz)) 0 0 (va_A [] sz) := by
  refine Met.ofW (cc := cX2_ones) (maxL := 3) (ret := (some .long)) (by decide) rfl ?_
  intro p e s m args below meth c s₁ B hml hv
  obtain ⟨rfl, hsz⟩ := hv
  have hx := B.exec
  have hb := B.bytes
  have hr := B.returns
  have hts := atoms_spec (ws := wsX2_ones) B.pre
  have hown : s.vm.findClass RX2 = some m.cls := findClass_of_methodNamed B.named
  have hlocks := B.notSynchronized
  subst hsz
  generalize hAe : va_A [] s.heap.size = A
  have hA : ∀ q : Nat, s.heap.size ≤ q → A q := fun q h => by rw [← hAe]; exact Or.inr h
  have hS : va_S A s.heap s.heap [] := va_S.rf
  have hP : va_P (fun _ => 0, fun _ _ => 0) vwCl [] s.heap := fun k q h => by simp at h
  have hl := lv_entry ([.int v]) (n := 3) (Nat.le_of_ble_eq_true rfl)
  rw [lg_entry_eq]
  generalize (lg_sl ([.int v]) ++ List.replicate (3 - (lg_sl ([.int v])).length) Slot.unset).toArray = ls at hl ⊢
  have hl : lv_has ls 3 [(0, .int v)] := hl
  refine lv_lconst (v := 0) hx hb dX2_ones_0 (by decide) ?_
  refine lv_lstore_n (lv' := [(1, .long 0), (0, .int v)]) hx hb dX2_ones_1 rfl hl (by decide) rfl (fun ls hl => ?_)
  obtain ⟨x, hx0⟩ : ∃ x : Nat, x = 0 := ⟨_, rfl⟩
  obtain ⟨k, hk0⟩ : ∃ k : Nat, k = 31 := ⟨_, rfl⟩
  replace hl : lv_has ls 3 [(1, .long (lN x)), (0, .int v)] := by rw [hx0]; exact hl
  have hjk : (x + 1) * 2 ^ k = 2147483648 := by subst hx0; subst hk0; decide
  have hon : rr_on v 31 0 = rr_on v k x := by rw [hk0, hx0]
  clear hx0 hk0
  have hxb : x < 2147483648 := by have := Nat.le_mul_of_pos_right (x + 1) (Nat.pow_pos (n := k) (show 0 < 2 by decide)); omega
  induction k generalizing x ls with
  | zero =>
    refine lv_lload_n hx hb dX2_ones_2 rfl (lv_at hl 0 rfl) ?_
    refine lv_iload_n hx hb dX2_ones_3 rfl (lv_at hl 1 rfl) ?_
    refine lv_i2l (v := v.toInt64) hx hb dX2_ones_4 rfl ?_
    refine W.lcmp hx hb dX2_ones_5 ?_
    refine lv_if_ge (tgt := 20) hx hb dX2_ones_6 (by decide) (fun c6 => ?_) (fun c6 => ?_)
    · skip
      refine lv_lload_n hx hb dX2_ones_20 rfl (lv_at hl 0 rfl) ?_
      exact W.lret (v := lN x) hx hb hr (fun tt ht hW => ⟨⟨_, (), rfl, by rw [hon]; rfl, trivial⟩, hS.F ht⟩) hS.2.2 dX2_ones_21
    · skip
      exact absurd ((lg_cmp_ge _ _).mpr ((rr_on_c hxb).mpr (fun z => absurd (Int32.lt_iff_toInt_lt.mp z) (by rw [nI_toInt hxb]; have h1 := (rr_bd v).2; simp at hjk; omega)))) c6
  | succ k ih =>
    refine lv_lload_n hx hb dX2_ones_2 rfl (lv_at hl 0 rfl) ?_
    refine lv_iload_n hx hb dX2_ones_3 rfl (lv_at hl 1 rfl) ?_
    refine lv_i2l (v := v.toInt64) hx hb dX2_ones_4 rfl ?_
    refine W.lcmp hx hb dX2_ones_5 ?_
    refine lv_if_ge (tgt := 20) hx hb dX2_ones_6 (by decide) (fun c6 => ?_) (fun c6 => ?_)
    · skip
      refine lv_lload_n hx hb dX2_ones_20 rfl (lv_at hl 0 rfl) ?_
      exact W.lret (v := lN x) hx hb hr (fun tt ht hW => ⟨⟨_, (), rfl, by rw [hon]; exact congrArg lN (if_neg (c := nI x < v) ((rr_on_c hxb).mp ((lg_cmp_ge _ _).mp c6))).symm, trivial⟩, hS.F ht⟩) hS.2.2 dX2_ones_21
    · skip
      refine lv_ldc2 (v := 2) hx hb hown (hts (.constantLong RX2 92 2) (by decide +kernel)) dX2_ones_9 ?_
      refine lv_lload_n hx hb dX2_ones_12 rfl (lv_at hl 0 rfl) ?_
      refine lv_lmul hx hb dX2_ones_13 ?_
      refine lv_lconst (v := 1) hx hb dX2_ones_14 (by decide) ?_
      refine lv_ladd hx hb dX2_ones_15 ?_
      refine W.eq (congrArg (fun z => F0 m 16 ls (.long z :: [])) (show (2 : Int64) * lN x + 1 = lN (2 * x + 1) by rw [show (2 : Int64) = lN 2 from rfl, lN_mul, lN_1])) ?_
      refine lv_lstore_n (lv' := [(1, .long (lN (2 * x + 1))), (0, .int v)]) hx hb dX2_ones_16 rfl hl (by decide) rfl (fun ls hl => ?_)
      refine lv_goto (tgt := 2) hx hb dX2_ones_17 (by decide) ?_
      have h3 : (x + 1) * 2 ^ (k + 1) = (2 * x + 1 + 1) * 2 ^ k := by
        rw [Nat.pow_succ, Nat.mul_comm (2 ^ k) 2, ← Nat.mul_assoc]
        congr 1
        omega
      rw [h3] at hjk
      exact ih ls (2 * x + 1) (lv_sub hl [0, 1] rfl) hjk (by rw [hon]; exact if_pos (c := nI x < v) (Classical.byContradiction (fun z => c6 ((lg_cmp_ge _ _).mpr ((rr_on_c hxb).mpr z))))) (by have := Nat.le_mul_of_pos_right (2 * x + 1 + 1) (Nat.pow_pos (n := k) (show 0 < 2 by decide)); omega)
set_option maxHeartbeats 1000000 in
set_option maxRecDepth 100000 in
/-- add(w) -/
theorem c_X2_add (l : Launch) (D : va_G) (h0 qT sz : Nat) (cA : ClassId) (f : Nat → Int32) (n t : Nat) (lo hi : Int32) (v : Int64) (hn : n < 187) : Met l yX2_add wsX2_add ({ frames := 0, cells := 0, slots := 0, locals := 0 }) (rr_pW D (rr_wm h0 qT cA f n t lo hi) [(cA, .int)] [.ref h0, .long v] sz) (va_Qv (fun (_ : Unit) => True) (fun _ tt => va_P D vwCl (rr_wm h0 qT cA (rr_al f n v).1 (rr_al f n v).2 t lo hi) tt.heap) (va_A (rr_wm h0 qT cA f n t lo hi) sz)) 0 0 (va_A (rr_wm h0 qT cA f n t lo hi) sz) := by
  refine Met.ofW (cc := cX2_add) (maxL := 4) (ret := none) (by decide) rfl ?_
  intro p e s m args below meth c s₁ B hml hv
  obtain ⟨rfl, hsz, hP, hK, hD0⟩ := hv
  have hx := B.exec
  have hb := B.bytes
  have hr := B.returns
  have hts := atoms_spec (ws := wsX2_add) B.pre
  have hown : s.vm.findClass RX2 = some m.cls := findClass_of_methodNamed B.named
  have hlocks := B.notSynchronized
  subst hsz
  have hD := hD0.self (sz := s.heap.size)
  generalize hAe : va_A [(h0, .inr (2, [.ref qT, .int (nI n), .int (nI t), .int lo, .int hi])), (qT, .inl (cA, 187, .inl f))] s.heap.size = A at hD ⊢
  have hA : ∀ q : Nat, s.heap.size ≤ q → A q := fun q h => by rw [← hAe]; exact Or.inr h
  have hS : va_S A s.heap s.heap [] := va_S.rf
  have hP : va_P D vwCl [(h0, .inr (2, [.ref qT, .int (nI n), .int (nI t), .int lo, .int hi])), (qT, .inl (cA, 187, .inl f))] s.heap := hP
  have hiX2 : ∀ w ∈ wsX20, w ∈ wsX2_add := by decide +kernel
  have hl := lv_entry ([.ref h0, .long v]) (n := 4) (Nat.le_of_ble_eq_true rfl)
  rw [lg_entry_eq]
  generalize (lg_sl ([.ref h0, .long v]) ++ List.replicate (4 - (lg_sl ([.ref h0, .long v])).length) Slot.unset).toArray = ls at hl ⊢
  have hl : lv_has ls 4 [(0, .ref h0), (1, .long v)] := hl
  refine lv_lload_n hx hb dX2_add_0 rfl (lv_at hl 1 rfl) ?_
  refine lv_ldc2 (v := (-2147483648)) hx hb hown (hts (.constantLong RX2 23 (-2147483648)) (by decide +kernel)) dX2_add_1 ?_
  refine W.lcmp hx hb dX2_add_4 ?_
  refine lv_if_lt (tgt := 16) hx hb dX2_add_5 (by decide) (fun c5 => ?_) (fun c5 => ?_)
  · skip
    have ee : rr_al f n v = (f, n) := if_neg (fun z => by first | exact absurd z.1 (Int64.not_le.mpr ((lg_cmp_lt _ _).mp c5)) | exact c13 ((lg_cmp_le _ _).mpr z.2))
    exact W.vret hx hb hr (fun tt ht hW => ⟨⟨(), rfl, trivial, by dsimp only; rw [ht, ee]; exact hP⟩, hS.F ht⟩) hS.2.2 dX2_add_16
  · skip
    refine lv_lload_n hx hb dX2_add_8 rfl (lv_at hl 1 rfl) ?_
    refine lv_ldc2 (v := 2147483647) hx hb hown (hts (.constantLong RX2 33 2147483647) (by decide +kernel)) dX2_add_9 ?_
    refine W.lcmp hx hb dX2_add_12 ?_
    refine lv_if_le (tgt := 17) hx hb dX2_add_13 (by decide) (fun c13 => ?_) (fun c13 => ?_)
    · skip
      refine lv_iconst (v := 0) hx hb dX2_add_17 (by decide) ?_
      refine lv_istore_n (lv' := [(3, .int 0), (0, .ref h0), (1, .long v)]) hx hb dX2_add_18 rfl hl (by decide) rfl (fun ls hl => ?_)
      have hv1 : -2147483648 ≤ v := Int64.not_lt.mp (fun z => c5 ((lg_cmp_lt _ _).mpr z))
      have hv2 : v ≤ 2147483647 := (lg_cmp_le _ _).mp c13
      obtain ⟨i, hi0⟩ : ∃ i : Nat, i = 0 := ⟨_, rfl⟩
      replace hl : lv_has ls 4 [(3, .int (nI i)), (0, .ref h0), (1, .long v)] := by rw [hi0]; exact hl
      have hfd : rr_fd f v.toInt32 i = false := by rw [hi0]; rfl
      obtain ⟨k, hk⟩ : ∃ k : Nat, i + k = n := ⟨n, by omega⟩
      clear hi0
      induction k generalizing i ls with
      | zero =>
        refine lv_iload_n hx hb dX2_add_19 rfl (lv_at hl 0 rfl) ?_
        refine lv_aload_n hx hb dX2_add_20 rfl (lv_at hl 1 rfl) ?_
        refine va_get (D := D) (ci := 2) (v := .int (nI n)) (C := RX2) (T := TX2) (N := 5) hx hb hts hiX2 hown hK hP 0 rfl rfl 1 (by decide) (hts (.fieldLink RX2 20 "RangeRulesModel" "thresholds" "I") (by decide +kernel)) (fun _ h9 => h9) rfl dX2_add_21 ?_
        refine lv_icmp_ge (tgt := 46) hx hb dX2_add_24 (by decide) (fun c24 => ?_) (fun c24 => ?_)
        · skip
          refine lv_aload_n hx hb dX2_add_46 rfl (lv_at hl 1 rfl) ?_
          refine va_get (D := D) (ci := 2) (v := .ref qT) (C := RX2) (T := TX2) (N := 5) hx hb hts hiX2 hown hK hP 0 rfl rfl 0 (by decide) (hts (.fieldLink RX2 9 "RangeRulesModel" "threshold" "[I") (by decide +kernel)) (fun _ h9 => h9) rfl dX2_add_47 ?_
          refine lv_aload_n hx hb dX2_add_50 rfl (lv_at hl 1 rfl) ?_
          refine va_get (D := D) (ci := 2) (v := .int (nI n)) (C := RX2) (T := TX2) (N := 5) hx hb hts hiX2 hown hK hP 0 rfl rfl 1 (by decide) (hts (.fieldLink RX2 20 "RangeRulesModel" "thresholds" "I") (by decide +kernel)) (fun _ h9 => h9) rfl dX2_add_51 ?_
          refine lv_lload_n hx hb dX2_add_54 rfl (lv_at hl 2 rfl) ?_
          refine lv_l2i (v := v.toInt32) hx hb dX2_add_55 rfl ?_
          refine va_iast hx hb hK hP hD hS 1 0 rfl rfl (vp_in_nI (by omega) (by omega)) dX2_add_56 (fun H locs hP hD hS => ?_)
          rw [nI_clamp (by omega)] at hP hD
          have hP : va_P D vwCl [(h0, .inr (2, [.ref qT, .int (nI n), .int (nI t), .int lo, .int hi])), (qT, .inl (cA, 187, .inl (upd f n v.toInt32)))] H := hP
          have hD : va_D A [(h0, .inr (2, [.ref qT, .int (nI n), .int (nI t), .int lo, .int hi])), (qT, .inl (cA, 187, .inl (upd f n v.toInt32)))] := hD
          refine lv_aload_n hx hb dX2_add_57 rfl (lv_at hl 1 rfl) ?_
          refine lv_dup hx hb dX2_add_58 rfl ?_
          refine va_get (D := D) (ci := 2) (v := .int (nI n)) (C := RX2) (T := TX2) (N := 5) hx hb hts hiX2 hown hK hP 0 rfl rfl 1 (by decide) (hts (.fieldLink RX2 20 "RangeRulesModel" "thresholds" "I") (by decide +kernel)) (fun _ h9 => h9) rfl dX2_add_59 ?_
          refine lv_iconst (v := 1) hx hb dX2_add_62 (by decide) ?_
          refine lv_iadd hx hb dX2_add_63 ?_
          refine W.eq (congrArg (fun z => F0 m 64 ls (.int z :: [.ref h0])) (nI_1 n)) ?_
          refine va_put (D := D) (ci := 2) (v := .int (nI (n + 1))) (ty := .int) (C := RX2) (T := TX2) (N := 5) hx hb hts hiX2 tyX2 tyX2_ok nmX2 hown hK hP hD hS 0 rfl rfl 1 (by decide) (hts (.fieldLink RX2 20 "RangeRulesModel" "thresholds" "I") (by decide +kernel)) (fun _ h9 => h9) rfl (by decide +kernel) rfl rfl (Nat.le_of_ble_eq_true rfl) dX2_add_64 (fun H locs hP hD hS => ?_)
          have hP : va_P D vwCl [(h0, .inr (2, [.ref qT, .int (nI (n + 1)), .int (nI t), .int lo, .int hi])), (qT, .inl (cA, 187, .inl (upd f n v.toInt32)))] H := hP
          have hD : va_D A [(h0, .inr (2, [.ref qT, .int (nI (n + 1)), .int (nI t), .int lo, .int hi])), (qT, .inl (cA, 187, .inl (upd f n v.toInt32)))] := hD
          have ee : rr_al f n v = (upd f n v.toInt32, n + 1) := (if_pos ⟨hv1, hv2⟩).trans (if_neg (by rw [← hk]; show ¬ rr_fd f v.toInt32 i = true; rw [hfd]; decide))
          exact W.vret hx hb hr (fun tt ht hW => ⟨⟨(), rfl, trivial, by dsimp only; rw [ht, ee]; exact hP⟩, hS.F ht⟩) hS.2.2 dX2_add_67
        · skip
          exact absurd (nI_le (by omega) (by omega)) c24
      | succ k ih =>
        refine lv_iload_n hx hb dX2_add_19 rfl (lv_at hl 0 rfl) ?_
        refine lv_aload_n hx hb dX2_add_20 rfl (lv_at hl 1 rfl) ?_
        refine va_get (D := D) (ci := 2) (v := .int (nI n)) (C := RX2) (T := TX2) (N := 5) hx hb hts hiX2 hown hK hP 0 rfl rfl 1 (by decide) (hts (.fieldLink RX2 20 "RangeRulesModel" "thresholds" "I") (by decide +kernel)) (fun _ h9 => h9) rfl dX2_add_21 ?_
        refine lv_icmp_ge (tgt := 46) hx hb dX2_add_24 (by decide) (fun c24 => ?_) (fun c24 => ?_)
        · skip
          exact absurd c24 (nI_ge (by omega) (by omega))
        · skip
          refine lv_aload_n hx hb dX2_add_27 rfl (lv_at hl 1 rfl) ?_
          refine va_get (D := D) (ci := 2) (v := .ref qT) (C := RX2) (T := TX2) (N := 5) hx hb hts hiX2 hown hK hP 0 rfl rfl 0 (by decide) (hts (.fieldLink RX2 9 "RangeRulesModel" "threshold" "[I") (by decide +kernel)) (fun _ h9 => h9) rfl dX2_add_28 ?_
          refine lv_iload_n hx hb dX2_add_31 rfl (lv_at hl 0 rfl) ?_
          refine va_iald hx hb hK hP 1 0 rfl rfl (vp_in_nI (by omega) (by omega)) dX2_add_32 ?_
          refine W.eq (congrArg (fun z => F0 m 33 ls (.int z :: [])) (congrArg f (nI_clamp (by omega)))) ?_
          refine lv_i2l (v := (f i).toInt64) hx hb dX2_add_33 rfl ?_
          refine lv_lload_n hx hb dX2_add_34 rfl (lv_at hl 2 rfl) ?_
          refine W.lcmp hx hb dX2_add_35 ?_
          refine lv_if_ne (tgt := 40) hx hb dX2_add_36 (by decide) (fun c36 => ?_) (fun c36 => ?_)
          · skip
            refine lv_iinc (v := nI (i + 1)) (lv' := [(3, .int (nI (i + 1))), (0, .ref h0), (1, .long v)]) hx hb dX2_add_40 hl (k := 0) rfl (nI_1 i) (by decide) rfl (fun ls hl => ?_)
            refine lv_goto (tgt := 19) hx hb dX2_add_43 (by decide) ?_
            exact ih ls (i + 1) (lv_sub hl [0, 1, 2] rfl) (by show (rr_fd f v.toInt32 i || decide (f i = v.toInt32)) = false; rw [hfd, decide_eq_false (fun z => c36 ((lg_cmp_eq _ _).mpr ((rr_wi32 hv1 hv2 _).mpr z)))]; rfl) (by omega)
          · skip
            have ee : rr_al f n v = (f, n) := (if_pos ⟨hv1, hv2⟩).trans (if_pos (rr_fd_of (j := i) (by omega) ((rr_wi32 hv1 hv2 _).mp ((lg_cmp_eq _ _).mp c36))))
            exact W.vret hx hb hr (fun tt ht hW => ⟨⟨(), rfl, trivial, by dsimp only; rw [ht, ee]; exact hP⟩, hS.F ht⟩) hS.2.2 dX2_add_39
    · skip
      have ee : rr_al f n v = (f, n) := if_neg (fun z => by first | exact absurd z.1 (Int64.not_le.mpr ((lg_cmp_lt _ _).mp c5)) | exact c13 ((lg_cmp_le _ _).mpr z.2))
      exact W.vret hx hb hr (fun tt ht hW => ⟨⟨(), rfl, trivial, by dsimp only; rw [ht, ee]; exact hP⟩, hS.F ht⟩) hS.2.2 dX2_add_16
end
section
set_option maxHeartbeats 1000000 in
set_option maxRecDepth 100000 in
/-- clear() -/
theorem c_X2_clear (l : Launch) (D : va_G) (h0 qT sz : Nat) (cA : ClassId) (f : Nat → Int32) (n t : Nat) (lo hi : Int32)   : Met l yX2_clear wsX2_clear ({ frames := 1, cells := 0, slots := 0, locals := 30 }) (rr_pW D (rr_wm h0 qT cA f n t lo hi) [(cA, .int)] [.ref h0] sz) (va_Qv (fun (u : Nat → Int32) => ∀ j, j < 7 → u j = rr_first j) (fun u tt => va_P D vwCl (rr_wm h0 qT cA u 7 0 lo hi) tt.heap) (va_A (rr_wm h0 qT cA f n t lo hi) sz)) 0 0 (va_A (rr_wm h0 qT cA f n t lo hi) sz) := by
  refine Met.ofW (cc := cX2_clear) (maxL := 2) (ret := none) (by decide) rfl ?_
  intro p e s m args below meth c s₁ B hml hv
  obtain ⟨rfl, hsz, hP, hK, hD0⟩ := hv
  have hx := B.exec
  have hb := B.bytes
  have hr := B.returns
  have hts := atoms_spec (ws := wsX2_clear) B.pre
  have hown : s.vm.findClass RX2 = some m.cls := findClass_of_methodNamed B.named
  have hlocks := B.notSynchronized
  subst hsz
  have hD := hD0.self (sz := s.heap.size)
  generalize hAe : va_A [(h0, .inr (2, [.ref qT, .int (nI n), .int (nI t), .int lo, .int hi])), (qT, .inl (cA, 187, .inl f))] s.heap.size = A at hD ⊢
  have hA : ∀ q : Nat, s.heap.size ≤ q → A q := fun q h => by rw [← hAe]; exact Or.inr h
  have hS : va_S A s.heap s.heap [] := va_S.rf
  have hP : va_P D vwCl [(h0, .inr (2, [.ref qT, .int (nI n), .int (nI t), .int lo, .int hi])), (qT, .inl (cA, 187, .inl f))] s.heap := hP
  have hiX2 : ∀ w ∈ wsX20, w ∈ wsX2_clear := by decide +kernel
  have hl := lv_entry ([.ref h0]) (n := 2) (Nat.le_of_ble_eq_true rfl)
  rw [lg_entry_eq]
  generalize (lg_sl ([.ref h0]) ++ List.replicate (2 - (lg_sl ([.ref h0])).length) Slot.unset).toArray = ls at hl ⊢
  have hl : lv_has ls 2 [(0, .ref h0)] := hl
  have hp0 : ∀ j, j < 0 → f j = rr_first j := fun j hj => absurd hj (Nat.not_lt_zero j)
  refine lv_aload_n hx hb dX2_clear_0 rfl (lv_at hl 0 rfl) ?_
  refine lv_iconst (v := 0) hx hb dX2_clear_1 (by decide) ?_
  refine va_put (D := D) (ci := 2) (v := .int 0) (ty := .int) (C := RX2) (T := TX2) (N := 5) hx hb hts hiX2 tyX2 tyX2_ok nmX2 hown hK hP hD hS 0 rfl rfl 2 (by decide) (hts (.fieldLink RX2 16 "RangeRulesModel" "times" "I") (by decide +kernel)) (fun _ h9 => h9) rfl (by decide +kernel) rfl rfl (Nat.le_of_ble_eq_true rfl) dX2_clear_2 (fun H locs hP hD hS => ?_)
  have hP : va_P D vwCl [(h0, .inr (2, [.ref qT, .int (nI n), .int 0, .int lo, .int hi])), (qT, .inl (cA, 187, .inl f))] H := hP
  have hD : va_D A [(h0, .inr (2, [.ref qT, .int (nI n), .int 0, .int lo, .int hi])), (qT, .inl (cA, 187, .inl f))] := hD
  have hP : va_P D vwCl [(h0, .inr (2, [.ref qT, .int (nI n), .int (nI 0), .int lo, .int hi])), (qT, .inl (cA, 187, .inl f))] H := hP
  have hD : va_D A [(h0, .inr (2, [.ref qT, .int (nI n), .int (nI 0), .int lo, .int hi])), (qT, .inl (cA, 187, .inl f))] := hD
  refine lv_aload_n hx hb dX2_clear_5 rfl (lv_at hl 0 rfl) ?_
  refine lv_iconst (v := 0) hx hb dX2_clear_6 (by decide) ?_
  refine va_put (D := D) (ci := 2) (v := .int 0) (ty := .int) (C := RX2) (T := TX2) (N := 5) hx hb hts hiX2 tyX2 tyX2_ok nmX2 hown hK hP hD hS 0 rfl rfl 1 (by decide) (hts (.fieldLink RX2 20 "RangeRulesModel" "thresholds" "I") (by decide +kernel)) (fun _ h9 => h9) rfl (by decide +kernel) rfl rfl (Nat.le_of_ble_eq_true rfl) dX2_clear_7 (fun H locs hP hD hS => ?_)
  have hP : va_P D vwCl [(h0, .inr (2, [.ref qT, .int 0, .int (nI 0), .int lo, .int hi])), (qT, .inl (cA, 187, .inl f))] H := hP
  have hD : va_D A [(h0, .inr (2, [.ref qT, .int 0, .int (nI 0), .int lo, .int hi])), (qT, .inl (cA, 187, .inl f))] := hD
  have hP : va_P D vwCl [(h0, .inr (2, [.ref qT, .int (nI 0), .int (nI 0), .int lo, .int hi])), (qT, .inl (cA, 187, .inl f))] H := hP
  have hD : va_D A [(h0, .inr (2, [.ref qT, .int (nI 0), .int (nI 0), .int lo, .int hi])), (qT, .inl (cA, 187, .inl f))] := hD
  refine lv_aload_n hx hb dX2_clear_10 rfl (lv_at hl 0 rfl) ?_
  refine lv_ldc2 (v := (-2147483648)) hx hb hown (hts (.constantLong RX2 23 (-2147483648)) (by decide +kernel)) dX2_clear_11 ?_
  refine rr_wv (wr := []) [0, 1] [] (va_runV (As := [.long ((-2147483648))]) (rest := []) ⟨hx, hb, hml, hown, hts⟩ (c_X2_add l D h0 qT H.size cA f 0 0 lo hi (-2147483648) (by decide)) (cwV 1 hts gX2_clear_X2_add rfl rfl rfl (by decide +kernel) ⟨Nat.le_of_ble_eq_true rfl, Nat.le_of_ble_eq_true rfl⟩) (rr_vW hK hP hD (va_recv hK hP (ci := 2) (q0 := 0) rfl rfl)) rfl rfl hl.1 rfl (lv_room (Nat.le_of_ble_eq_true rfl)) dX2_clear_14 ⟨Nat.le_of_ble_eq_true rfl, Nat.le_of_ble_eq_true rfl⟩) hS hA hP hD rfl rfl (by decide) (by decide) (by decide) (fun _ => by simp only [rr_wx, rr_wm, List.map_cons, List.map_nil]) (fun u14 H locs e14 hP hD hS => ?_)
  have hP : va_P D vwCl [(h0, .inr (2, [.ref qT, .int (nI (rr_al f 0 (-2147483648)).2), .int (nI 0), .int lo, .int hi])), (qT, .inl (cA, 187, .inl ((rr_al f 0 (-2147483648)).1)))] H := hP
  have hD : va_D A [(h0, .inr (2, [.ref qT, .int (nI (rr_al f 0 (-2147483648)).2), .int (nI 0), .int lo, .int hi])), (qT, .inl (cA, 187, .inl ((rr_al f 0 (-2147483648)).1)))] := hD
  obtain ⟨f1, g1, hp1⟩ := rr_c7 (g := f) (w := (-2147483648)) 0 (by decide) hp0 (by decide)
  rw [g1] at hP hD
  have hP : va_P D vwCl [(h0, .inr (2, [.ref qT, .int (nI 1), .int (nI 0), .int lo, .int hi])), (qT, .inl (cA, 187, .inl f1))] H := hP
  have hD : va_D A [(h0, .inr (2, [.ref qT, .int (nI 1), .int (nI 0), .int lo, .int hi])), (qT, .inl (cA, 187, .inl f1))] := hD
  refine lv_aload_n hx hb dX2_clear_17 rfl (lv_at hl 0 rfl) ?_
  refine lv_ldc2 (v := (-2147483647)) hx hb hown (hts (.constantLong RX2 29 (-2147483647)) (by decide +kernel)) dX2_clear_18 ?_
  refine rr_wv (wr := []) [0, 1] [] (va_runV (As := [.long ((-2147483647))]) (rest := []) ⟨hx, hb, hml, hown, hts⟩ (c_X2_add l D h0 qT H.size cA f1 1 0 lo hi (-2147483647) (by decide)) (cwV 1 hts gX2_clear_X2_add rfl rfl rfl (by decide +kernel) ⟨Nat.le_of_ble_eq_true rfl, Nat.le_of_ble_eq_true rfl⟩) (rr_vW hK hP hD (va_recv hK hP (ci := 2) (q0 := 0) rfl rfl)) rfl rfl hl.1 rfl (lv_room (Nat.le_of_ble_eq_true rfl)) dX2_clear_21 ⟨Nat.le_of_ble_eq_true rfl, Nat.le_of_ble_eq_true rfl⟩) hS hA hP hD rfl rfl (by decide) (by decide) (by decide) (fun _ => by simp only [rr_wx, rr_wm, List.map_cons, List.map_nil]) (fun u21 H locs e21 hP hD hS => ?_)
  have hP : va_P D vwCl [(h0, .inr (2, [.ref qT, .int (nI (rr_al f1 1 (-2147483647)).2), .int (nI 0), .int lo, .int hi])), (qT, .inl (cA, 187, .inl ((rr_al f1 1 (-2147483647)).1)))] H := hP
  have hD : va_D A [(h0, .inr (2, [.ref qT, .int (nI (rr_al f1 1 (-2147483647)).2), .int (nI 0), .int lo, .int hi])), (qT, .inl (cA, 187, .inl ((rr_al f1 1 (-2147483647)).1)))] := hD
  obtain ⟨f2, g2, hp2⟩ := rr_c7 (g := f1) (w := (-2147483647)) 1 (by decide) hp1 (by decide)
  rw [g2] at hP hD
  have hP : va_P D vwCl [(h0, .inr (2, [.ref qT, .int (nI 2), .int (nI 0), .int lo, .int hi])), (qT, .inl (cA, 187, .inl f2))] H := hP
  have hD : va_D A [(h0, .inr (2, [.ref qT, .int (nI 2), .int (nI 0), .int lo, .int hi])), (qT, .inl (cA, 187, .inl f2))] := hD
  refine lv_iconst (v := (-1)) hx hb dX2_clear_24 (by decide) ?_
  refine lv_istore_n (lv' := [(1, .int ((-1))), (0, .ref h0)]) hx hb dX2_clear_25 rfl hl (by decide) rfl (fun ls hl => ?_)
  refine lv_iload_n hx hb dX2_clear_26 rfl (lv_at hl 0 rfl) ?_
  refine lv_iconst (v := 2) hx hb dX2_clear_27 (by decide) ?_
  refine lv_icmp_ge (tgt := 43) hx hb dX2_clear_28 (by decide) (fun c28 => ?_) (fun c28 => ?_)
  · skip
    exact absurd c28 (by decide)
  · skip
    refine lv_aload_n hx hb dX2_clear_31 rfl (lv_at hl 1 rfl) ?_
    refine lv_iload_n hx hb dX2_clear_32 rfl (lv_at hl 0 rfl) ?_
    refine lv_i2l (v := (((-1) : Int32).toInt64)) hx hb dX2_clear_33 rfl ?_
    refine rr_wv (wr := []) [0, 1] [] (va_runV (As := [.long ((((-1) : Int32).toInt64))]) (rest := []) ⟨hx, hb, hml, hown, hts⟩ (c_X2_add l D h0 qT H.size cA f2 2 0 lo hi (((-1) : Int32).toInt64) (by decide)) (cwV 1 hts gX2_clear_X2_add rfl rfl rfl (by decide +kernel) ⟨Nat.le_of_ble_eq_true rfl, Nat.le_of_ble_eq_true rfl⟩) (rr_vW hK hP hD (va_recv hK hP (ci := 2) (q0 := 0) rfl rfl)) rfl rfl hl.1 rfl (lv_room (Nat.le_of_ble_eq_true rfl)) dX2_clear_34 ⟨Nat.le_of_ble_eq_true rfl, Nat.le_of_ble_eq_true rfl⟩) hS hA hP hD rfl rfl (by decide) (by decide) (by decide) (fun _ => by simp only [rr_wx, rr_wm, List.map_cons, List.map_nil]) (fun u34 H locs e34 hP hD hS => ?_)
    have hP : va_P D vwCl [(h0, .inr (2, [.ref qT, .int (nI (rr_al f2 2 (((-1) : Int32).toInt64)).2), .int (nI 0), .int lo, .int hi])), (qT, .inl (cA, 187, .inl ((rr_al f2 2 (((-1) : Int32).toInt64)).1)))] H := hP
    have hD : va_D A [(h0, .inr (2, [.ref qT, .int (nI (rr_al f2 2 (((-1) : Int32).toInt64)).2), .int (nI 0), .int lo, .int hi])), (qT, .inl (cA, 187, .inl ((rr_al f2 2 (((-1) : Int32).toInt64)).1)))] := hD
    obtain ⟨f3, g3, hp3⟩ := rr_c7 (g := f2) (w := (((-1) : Int32).toInt64)) 2 (by decide) hp2 (by decide)
    rw [g3] at hP hD
    have hP : va_P D vwCl [(h0, .inr (2, [.ref qT, .int (nI 3), .int (nI 0), .int lo, .int hi])), (qT, .inl (cA, 187, .inl f3))] H := hP
    have hD : va_D A [(h0, .inr (2, [.ref qT, .int (nI 3), .int (nI 0), .int lo, .int hi])), (qT, .inl (cA, 187, .inl f3))] := hD
    refine lv_iinc (v := 0) (lv' := [(1, .int 0), (0, .ref h0)]) hx hb dX2_clear_37 hl (k := 0) rfl (by decide) (by decide) rfl (fun ls hl => ?_)
    refine lv_goto (tgt := 26) hx hb dX2_clear_40 (by decide) ?_
    refine lv_iload_n hx hb dX2_clear_26 rfl (lv_at hl 0 rfl) ?_
    refine lv_iconst (v := 2) hx hb dX2_clear_27 (by decide) ?_
    refine lv_icmp_ge (tgt := 43) hx hb dX2_clear_28 (by decide) (fun c28 => ?_) (fun c28 => ?_)
    · skip
      exact absurd c28 (by decide)
    · skip
      refine lv_aload_n hx hb dX2_clear_31 rfl (lv_at hl 1 rfl) ?_
      refine lv_iload_n hx hb dX2_clear_32 rfl (lv_at hl 0 rfl) ?_
      refine lv_i2l (v := ((0 : Int32).toInt64)) hx hb dX2_clear_33 rfl ?_
      refine rr_wv (wr := []) [0, 1] [] (va_runV (As := [.long (((0 : Int32).toInt64))]) (rest := []) ⟨hx, hb, hml, hown, hts⟩ (c_X2_add l D h0 qT H.size cA f3 3 0 lo hi ((0 : Int32).toInt64) (by decide)) (cwV 1 hts gX2_clear_X2_add rfl rfl rfl (by decide +kernel) ⟨Nat.le_of_ble_eq_true rfl, Nat.le_of_ble_eq_true rfl⟩) (rr_vW hK hP hD (va_recv hK hP (ci := 2) (q0 := 0) rfl rfl)) rfl rfl hl.1 rfl (lv_room (Nat.le_of_ble_eq_true rfl)) dX2_clear_34 ⟨Nat.le_of_ble_eq_true rfl, Nat.le_of_ble_eq_true rfl⟩) hS hA hP hD rfl rfl (by decide) (by decide) (by decide) (fun _ => by simp only [rr_wx, rr_wm, List.map_cons, List.map_nil]) (fun u34 H locs e34 hP hD hS => ?_)
      have hP : va_P D vwCl [(h0, .inr (2, [.ref qT, .int (nI (rr_al f3 3 ((0 : Int32).toInt64)).2), .int (nI 0), .int lo, .int hi])), (qT, .inl (cA, 187, .inl ((rr_al f3 3 ((0 : Int32).toInt64)).1)))] H := hP
      have hD : va_D A [(h0, .inr (2, [.ref qT, .int (nI (rr_al f3 3 ((0 : Int32).toInt64)).2), .int (nI 0), .int lo, .int hi])), (qT, .inl (cA, 187, .inl ((rr_al f3 3 ((0 : Int32).toInt64)).1)))] := hD
      obtain ⟨f4, g4, hp4⟩ := rr_c7 (g := f3) (w := ((0 : Int32).toInt64)) 3 (by decide) hp3 (by decide)
      rw [g4] at hP hD
      have hP : va_P D vwCl [(h0, .inr (2, [.ref qT, .int (nI 4), .int (nI 0), .int lo, .int hi])), (qT, .inl (cA, 187, .inl f4))] H := hP
      have hD : va_D A [(h0, .inr (2, [.ref qT, .int (nI 4), .int (nI 0), .int lo, .int hi])), (qT, .inl (cA, 187, .inl f4))] := hD
      refine lv_iinc (v := 1) (lv' := [(1, .int 1), (0, .ref h0)]) hx hb dX2_clear_37 hl (k := 0) rfl (by decide) (by decide) rfl (fun ls hl => ?_)
      refine lv_goto (tgt := 26) hx hb dX2_clear_40 (by decide) ?_
      refine lv_iload_n hx hb dX2_clear_26 rfl (lv_at hl 0 rfl) ?_
      refine lv_iconst (v := 2) hx hb dX2_clear_27 (by decide) ?_
      refine lv_icmp_ge (tgt := 43) hx hb dX2_clear_28 (by decide) (fun c28 => ?_) (fun c28 => ?_)
      · skip
        exact absurd c28 (by decide)
      · skip
        refine lv_aload_n hx hb dX2_clear_31 rfl (lv_at hl 1 rfl) ?_
        refine lv_iload_n hx hb dX2_clear_32 rfl (lv_at hl 0 rfl) ?_
        refine lv_i2l (v := ((1 : Int32).toInt64)) hx hb dX2_clear_33 rfl ?_
        refine rr_wv (wr := []) [0, 1] [] (va_runV (As := [.long (((1 : Int32).toInt64))]) (rest := []) ⟨hx, hb, hml, hown, hts⟩ (c_X2_add l D h0 qT H.size cA f4 4 0 lo hi ((1 : Int32).toInt64) (by decide)) (cwV 1 hts gX2_clear_X2_add rfl rfl rfl (by decide +kernel) ⟨Nat.le_of_ble_eq_true rfl, Nat.le_of_ble_eq_true rfl⟩) (rr_vW hK hP hD (va_recv hK hP (ci := 2) (q0 := 0) rfl rfl)) rfl rfl hl.1 rfl (lv_room (Nat.le_of_ble_eq_true rfl)) dX2_clear_34 ⟨Nat.le_of_ble_eq_true rfl, Nat.le_of_ble_eq_true rfl⟩) hS hA hP hD rfl rfl (by decide) (by decide) (by decide) (fun _ => by simp only [rr_wx, rr_wm, List.map_cons, List.map_nil]) (fun u34 H locs e34 hP hD hS => ?_)
        have hP : va_P D vwCl [(h0, .inr (2, [.ref qT, .int (nI (rr_al f4 4 ((1 : Int32).toInt64)).2), .int (nI 0), .int lo, .int hi])), (qT, .inl (cA, 187, .inl ((rr_al f4 4 ((1 : Int32).toInt64)).1)))] H := hP
        have hD : va_D A [(h0, .inr (2, [.ref qT, .int (nI (rr_al f4 4 ((1 : Int32).toInt64)).2), .int (nI 0), .int lo, .int hi])), (qT, .inl (cA, 187, .inl ((rr_al f4 4 ((1 : Int32).toInt64)).1)))] := hD
        obtain ⟨f5, g5, hp5⟩ := rr_c7 (g := f4) (w := ((1 : Int32).toInt64)) 4 (by decide) hp4 (by decide)
        rw [g5] at hP hD
        have hP : va_P D vwCl [(h0, .inr (2, [.ref qT, .int (nI 5), .int (nI 0), .int lo, .int hi])), (qT, .inl (cA, 187, .inl f5))] H := hP
        have hD : va_D A [(h0, .inr (2, [.ref qT, .int (nI 5), .int (nI 0), .int lo, .int hi])), (qT, .inl (cA, 187, .inl f5))] := hD
        refine lv_iinc (v := 2) (lv' := [(1, .int 2), (0, .ref h0)]) hx hb dX2_clear_37 hl (k := 0) rfl (by decide) (by decide) rfl (fun ls hl => ?_)
        refine lv_goto (tgt := 26) hx hb dX2_clear_40 (by decide) ?_
        refine lv_iload_n hx hb dX2_clear_26 rfl (lv_at hl 0 rfl) ?_
        refine lv_iconst (v := 2) hx hb dX2_clear_27 (by decide) ?_
        refine lv_icmp_ge (tgt := 43) hx hb dX2_clear_28 (by decide) (fun c28 => ?_) (fun c28 => ?_)
        · skip
          refine lv_aload_n hx hb dX2_clear_43 rfl (lv_at hl 1 rfl) ?_
          refine lv_ldc2 (v := 2147483646) hx hb hown (hts (.constantLong RX2 31 2147483646) (by decide +kernel)) dX2_clear_44 ?_
          refine rr_wv (wr := []) [0, 1] [] (va_runV (As := [.long 2147483646]) (rest := []) ⟨hx, hb, hml, hown, hts⟩ (c_X2_add l D h0 qT H.size cA f5 5 0 lo hi 2147483646 (by decide)) (cwV 1 hts gX2_clear_X2_add rfl rfl rfl (by decide +kernel) ⟨Nat.le_of_ble_eq_true rfl, Nat.le_of_ble_eq_true rfl⟩) (rr_vW hK hP hD (va_recv hK hP (ci := 2) (q0 := 0) rfl rfl)) rfl rfl hl.1 rfl (lv_room (Nat.le_of_ble_eq_true rfl)) dX2_clear_47 ⟨Nat.le_of_ble_eq_true rfl, Nat.le_of_ble_eq_true rfl⟩) hS hA hP hD rfl rfl (by decide) (by decide) (by decide) (fun _ => by simp only [rr_wx, rr_wm, List.map_cons, List.map_nil]) (fun u47 H locs e47 hP hD hS => ?_)
          have hP : va_P D vwCl [(h0, .inr (2, [.ref qT, .int (nI (rr_al f5 5 2147483646).2), .int (nI 0), .int lo, .int hi])), (qT, .inl (cA, 187, .inl ((rr_al f5 5 2147483646).1)))] H := hP
          have hD : va_D A [(h0, .inr (2, [.ref qT, .int (nI (rr_al f5 5 2147483646).2), .int (nI 0), .int lo, .int hi])), (qT, .inl (cA, 187, .inl ((rr_al f5 5 2147483646).1)))] := hD
          obtain ⟨f6, g6, hp6⟩ := rr_c7 (g := f5) (w := 2147483646) 5 (by decide) hp5 (by decide)
          rw [g6] at hP hD
          have hP : va_P D vwCl [(h0, .inr (2, [.ref qT, .int (nI 6), .int (nI 0), .int lo, .int hi])), (qT, .inl (cA, 187, .inl f6))] H := hP
          have hD : va_D A [(h0, .inr (2, [.ref qT, .int (nI 6), .int (nI 0), .int lo, .int hi])), (qT, .inl (cA, 187, .inl f6))] := hD
          refine lv_aload_n hx hb dX2_clear_50 rfl (lv_at hl 1 rfl) ?_
          refine lv_ldc2 (v := 2147483647) hx hb hown (hts (.constantLong RX2 33 2147483647) (by decide +kernel)) dX2_clear_51 ?_
          refine rr_wv (wr := []) [0, 1] [] (va_runV (As := [.long 2147483647]) (rest := []) ⟨hx, hb, hml, hown, hts⟩ (c_X2_add l D h0 qT H.size cA f6 6 0 lo hi 2147483647 (by decide)) (cwV 1 hts gX2_clear_X2_add rfl rfl rfl (by decide +kernel) ⟨Nat.le_of_ble_eq_true rfl, Nat.le_of_ble_eq_true rfl⟩) (rr_vW hK hP hD (va_recv hK hP (ci := 2) (q0 := 0) rfl rfl)) rfl rfl hl.1 rfl (lv_room (Nat.le_of_ble_eq_true rfl)) dX2_clear_54 ⟨Nat.le_of_ble_eq_true rfl, Nat.le_of_ble_eq_true rfl⟩) hS hA hP hD rfl rfl (by decide) (by decide) (by decide) (fun _ => by simp only [rr_wx, rr_wm, List.map_cons, List.map_nil]) (fun u54 H locs e54 hP hD hS => ?_)
          have hP : va_P D vwCl [(h0, .inr (2, [.ref qT, .int (nI (rr_al f6 6 2147483647).2), .int (nI 0), .int lo, .int hi])), (qT, .inl (cA, 187, .inl ((rr_al f6 6 2147483647).1)))] H := hP
          have hD : va_D A [(h0, .inr (2, [.ref qT, .int (nI (rr_al f6 6 2147483647).2), .int (nI 0), .int lo, .int hi])), (qT, .inl (cA, 187, .inl ((rr_al f6 6 2147483647).1)))] := hD
          obtain ⟨f7, g7, hp7⟩ := rr_c7 (g := f6) (w := 2147483647) 6 (by decide) hp6 (by decide)
          rw [g7] at hP hD
          have hP : va_P D vwCl [(h0, .inr (2, [.ref qT, .int (nI 7), .int (nI 0), .int lo, .int hi])), (qT, .inl (cA, 187, .inl f7))] H := hP
          have hD : va_D A [(h0, .inr (2, [.ref qT, .int (nI 7), .int (nI 0), .int lo, .int hi])), (qT, .inl (cA, 187, .inl f7))] := hD
          exact W.vret hx hb hr (fun tt ht hW => ⟨⟨f7, rfl, hp7, by dsimp only; rw [ht]; exact hP⟩, hS.F ht⟩) hS.2.2 dX2_clear_57
        · skip
          exact absurd c28 (by decide)
set_option maxHeartbeats 1000000 in
set_option maxRecDepth 100000 in
/-- around(v) -/
theorem c_X2_around (l : Launch) (D : va_G) (h0 qT sz : Nat) (cA : ClassId) (f : Nat → Int32) (n t : Nat) (lo hi : Int32) (v : Int32) (hk : rr_ok f n) (ht6 : t ≤ 60) (hnt : n ≤ 7 + 3 * t) : Met l yX2_around wsX2_around ({ frames := 1, cells := 0, slots := 0, locals := 30 }) (rr_pW D (rr_wm h0 qT cA f n t lo hi) [(cA, .int)] [.ref h0, .int v] sz) (va_Qi (fun r (_ : Unit) => r = if t = 60 then -1 else nI (rr_ar f n v).2) (fun _ tt => va_P D vwCl (rr_wm h0 qT cA (if t = 60 then f else (rr_ar f n v).1) (if t = 60 then n else (rr_ar f n v).2) (if t = 60 then t else t + 1) lo hi) tt.heap) (va_A (rr_wm h0 qT cA f n t lo hi) sz)) 0 0 (va_A (rr_wm h0 qT cA f n t lo hi) sz) := by
  refine Met.ofW (cc := cX2_around) (maxL := 4) (ret := (some .int)) (by decide) rfl ?_
  intro p e s m args below meth c s₁ B hml hv
  obtain ⟨rfl, hsz, hP, hK, hD0⟩ := hv
  have hx := B.exec
  have hb := B.bytes
  have hr := B.returns
  have hts := atoms_spec (ws := wsX2_around) B.pre
  have hown : s.vm.findClass RX2 = some m.cls := findClass_of_methodNamed B.named
  have hlocks := B.notSynchronized
  subst hsz
  have hD := hD0.self (sz := s.heap.size)
  generalize hAe : va_A [(h0, .inr (2, [.ref qT, .int (nI n), .int (nI t), .int lo, .int hi])), (qT, .inl (cA, 187, .inl f))] s.heap.size = A at hD ⊢
  have hA : ∀ q : Nat, s.heap.size ≤ q → A q := fun q h => by rw [← hAe]; exact Or.inr h
  have hS : va_S A s.heap s.heap [] := va_S.rf
  have hP : va_P D vwCl [(h0, .inr (2, [.ref qT, .int (nI n), .int (nI t), .int lo, .int hi])), (qT, .inl (cA, 187, .inl f))] s.heap := hP
  have hiX2 : ∀ w ∈ wsX20, w ∈ wsX2_around := by decide +kernel
  have hl := lv_entry ([.ref h0, .int v]) (n := 4) (Nat.le_of_ble_eq_true rfl)
  rw [lg_entry_eq]
  generalize (lg_sl ([.ref h0, .int v]) ++ List.replicate (4 - (lg_sl ([.ref h0, .int v])).length) Slot.unset).toArray = ls at hl ⊢
  have hl : lv_has ls 4 [(0, .ref h0), (1, .int v)] := hl
  refine lv_aload_n hx hb dX2_around_0 rfl (lv_at hl 0 rfl) ?_
  refine va_get (D := D) (ci := 2) (v := .int (nI t)) (C := RX2) (T := TX2) (N := 5) hx hb hts hiX2 hown hK hP 0 rfl rfl 2 (by decide) (hts (.fieldLink RX2 16 "RangeRulesModel" "times" "I") (by decide +kernel)) (fun _ h9 => h9) rfl dX2_around_1 ?_
  refine lv_bipush (v := 60) hx hb dX2_around_4 (by decide) ?_
  refine lv_icmp_ne (tgt := 11) hx hb dX2_around_6 (by decide) (fun c6 => ?_) (fun c6 => ?_)
  · skip
    have h7 : ¬ t = 60 := fun z => c6 (by rw [z]; rfl)
    have h6 : t < 60 := by omega
    refine lv_aload_n hx hb dX2_around_11 rfl (lv_at hl 0 rfl) ?_
    refine lv_dup hx hb dX2_around_12 rfl ?_
    refine va_get (D := D) (ci := 2) (v := .int (nI t)) (C := RX2) (T := TX2) (N := 5) hx hb hts hiX2 hown hK hP 0 rfl rfl 2 (by decide) (hts (.fieldLink RX2 16 "RangeRulesModel" "times" "I") (by decide +kernel)) (fun _ h9 => h9) rfl dX2_around_13 ?_
    refine lv_iconst (v := 1) hx hb dX2_around_16 (by decide) ?_
    refine lv_iadd hx hb dX2_around_17 ?_
    refine W.eq (congrArg (fun z => F0 m 18 ls (.int z :: [.ref h0])) (nI_1 t)) ?_
    refine va_put (D := D) (ci := 2) (v := .int (nI (t + 1))) (ty := .int) (C := RX2) (T := TX2) (N := 5) hx hb hts hiX2 tyX2 tyX2_ok nmX2 hown hK hP hD hS 0 rfl rfl 2 (by decide) (hts (.fieldLink RX2 16 "RangeRulesModel" "times" "I") (by decide +kernel)) (fun _ h9 => h9) rfl (by decide +kernel) rfl rfl (Nat.le_of_ble_eq_true rfl) dX2_around_18 (fun H locs hP hD hS => ?_)
    have hP : va_P D vwCl [(h0, .inr (2, [.ref qT, .int (nI n), .int (nI (t + 1)), .int lo, .int hi])), (qT, .inl (cA, 187, .inl f))] H := hP
    have hD : va_D A [(h0, .inr (2, [.ref qT, .int (nI n), .int (nI (t + 1)), .int lo, .int hi])), (qT, .inl (cA, 187, .inl f))] := hD
    refine lv_iload_n hx hb dX2_around_21 rfl (lv_at hl 1 rfl) ?_
    refine lv_i2l (v := v.toInt64) hx hb dX2_around_22 rfl ?_
    refine lv_lconst (v := 1) hx hb dX2_around_23 (by decide) ?_
    refine lv_lsub hx hb dX2_around_24 ?_
    refine lv_lstore_n (lv' := [(2, .long (v.toInt64 - 1)), (0, .ref h0), (1, .int v)]) hx hb dX2_around_25 rfl hl (by decide) rfl (fun ls hl => ?_)
    refine lv_lload_n hx hb dX2_around_26 rfl (lv_at hl 0 rfl) ?_
    refine lv_iload_n hx hb dX2_around_27 rfl (lv_at hl 2 rfl) ?_
    refine lv_i2l (v := v.toInt64) hx hb dX2_around_28 rfl ?_
    refine lv_lconst (v := 1) hx hb dX2_around_29 (by decide) ?_
    refine lv_ladd hx hb dX2_around_30 ?_
    refine W.lcmp hx hb dX2_around_31 ?_
    refine lv_if_gt (tgt := 47) hx hb dX2_around_32 (by decide) (fun c32 => ?_) (fun c32 => ?_)
    · skip
      exact absurd c32 (rr_t1 v)
    · skip
      refine lv_aload_n hx hb dX2_around_35 rfl (lv_at hl 1 rfl) ?_
      refine lv_lload_n hx hb dX2_around_36 rfl (lv_at hl 0 rfl) ?_
      refine rr_wv (wr := []) [0, 1] [] (va_runV (As := [.long (v.toInt64 - 1)]) (rest := []) ⟨hx, hb, hml, hown, hts⟩ (c_X2_add l D h0 qT H.size cA f n (t + 1) lo hi (v.toInt64 - 1) (by omega)) (cwV 1 hts gX2_around_X2_add rfl rfl rfl (by decide +kernel) ⟨Nat.le_of_ble_eq_true rfl, Nat.le_of_ble_eq_true rfl⟩) (rr_vW hK hP hD (va_recv hK hP (ci := 2) (q0 := 0) rfl rfl)) rfl rfl hl.1 rfl (lv_room (Nat.le_of_ble_eq_true rfl)) dX2_around_37 ⟨Nat.le_of_ble_eq_true rfl, Nat.le_of_ble_eq_true rfl⟩) hS hA hP hD rfl rfl (by decide) (by decide) (by decide) (fun _ => by simp only [rr_wx, rr_wm, List.map_cons, List.map_nil]) (fun u37 H locs e37 hP hD hS => ?_)
      have hP : va_P D vwCl [(h0, .inr (2, [.ref qT, .int (nI (rr_al f n (v.toInt64 - 1)).2), .int (nI (t + 1)), .int lo, .int hi])), (qT, .inl (cA, 187, .inl ((rr_al f n (v.toInt64 - 1)).1)))] H := hP
      have hD : va_D A [(h0, .inr (2, [.ref qT, .int (nI (rr_al f n (v.toInt64 - 1)).2), .int (nI (t + 1)), .int lo, .int hi])), (qT, .inl (cA, 187, .inl ((rr_al f n (v.toInt64 - 1)).1)))] := hD
      obtain ⟨f1, n1, g1⟩ : ∃ (fz : Nat → Int32) (nz : Nat), rr_al f n (v.toInt64 - 1) = (fz, nz) := ⟨_, _, rfl⟩
      rw [g1] at hP hD
      obtain ⟨hk1, hq1, hr1⟩ := rr_al_of hk g1
      have hP : va_P D vwCl [(h0, .inr (2, [.ref qT, .int (nI n1), .int (nI (t + 1)), .int lo, .int hi])), (qT, .inl (cA, 187, .inl f1))] H := hP
      have hD : va_D A [(h0, .inr (2, [.ref qT, .int (nI n1), .int (nI (t + 1)), .int lo, .int hi])), (qT, .inl (cA, 187, .inl f1))] := hD
      refine lv_lload_n hx hb dX2_around_40 rfl (lv_at hl 0 rfl) ?_
      refine lv_lconst (v := 1) hx hb dX2_around_41 (by decide) ?_
      refine lv_ladd hx hb dX2_around_42 ?_
      refine W.eq (congrArg (fun z => F0 m 43 ls (.long z :: [])) (Int64.sub_add_cancel _ _)) ?_
      refine lv_lstore_n (lv' := [(2, .long v.toInt64), (0, .ref h0), (1, .int v)]) hx hb dX2_around_43 rfl hl (by decide) rfl (fun ls hl => ?_)
      refine lv_goto (tgt := 26) hx hb dX2_around_44 (by decide) ?_
      refine lv_lload_n hx hb dX2_around_26 rfl (lv_at hl 0 rfl) ?_
      refine lv_iload_n hx hb dX2_around_27 rfl (lv_at hl 2 rfl) ?_
      refine lv_i2l (v := v.toInt64) hx hb dX2_around_28 rfl ?_
      refine lv_lconst (v := 1) hx hb dX2_around_29 (by decide) ?_
      refine lv_ladd hx hb dX2_around_30 ?_
      refine W.lcmp hx hb dX2_around_31 ?_
      refine lv_if_gt (tgt := 47) hx hb dX2_around_32 (by decide) (fun c32 => ?_) (fun c32 => ?_)
      · skip
        exact absurd c32 (rr_t2 v)
      · skip
        refine lv_aload_n hx hb dX2_around_35 rfl (lv_at hl 1 rfl) ?_
        refine lv_lload_n hx hb dX2_around_36 rfl (lv_at hl 0 rfl) ?_
        refine rr_wv (wr := []) [0, 1] [] (va_runV (As := [.long v.toInt64]) (rest := []) ⟨hx, hb, hml, hown, hts⟩ (c_X2_add l D h0 qT H.size cA f1 n1 (t + 1) lo hi v.toInt64 (by omega)) (cwV 1 hts gX2_around_X2_add rfl rfl rfl (by decide +kernel) ⟨Nat.le_of_ble_eq_true rfl, Nat.le_of_ble_eq_true rfl⟩) (rr_vW hK hP hD (va_recv hK hP (ci := 2) (q0 := 0) rfl rfl)) rfl rfl hl.1 rfl (lv_room (Nat.le_of_ble_eq_true rfl)) dX2_around_37 ⟨Nat.le_of_ble_eq_true rfl, Nat.le_of_ble_eq_true rfl⟩) hS hA hP hD rfl rfl (by decide) (by decide) (by decide) (fun _ => by simp only [rr_wx, rr_wm, List.map_cons, List.map_nil]) (fun u37 H locs e37 hP hD hS => ?_)
        have hP : va_P D vwCl [(h0, .inr (2, [.ref qT, .int (nI (rr_al f1 n1 v.toInt64).2), .int (nI (t + 1)), .int lo, .int hi])), (qT, .inl (cA, 187, .inl ((rr_al f1 n1 v.toInt64).1)))] H := hP
        have hD : va_D A [(h0, .inr (2, [.ref qT, .int (nI (rr_al f1 n1 v.toInt64).2), .int (nI (t + 1)), .int lo, .int hi])), (qT, .inl (cA, 187, .inl ((rr_al f1 n1 v.toInt64).1)))] := hD
        obtain ⟨f2, n2, g2⟩ : ∃ (fz : Nat → Int32) (nz : Nat), rr_al f1 n1 v.toInt64 = (fz, nz) := ⟨_, _, rfl⟩
        rw [g2] at hP hD
        obtain ⟨hk2, hq2, hr2⟩ := rr_al_of hk1 g2
        have hP : va_P D vwCl [(h0, .inr (2, [.ref qT, .int (nI n2), .int (nI (t + 1)), .int lo, .int hi])), (qT, .inl (cA, 187, .inl f2))] H := hP
        have hD : va_D A [(h0, .inr (2, [.ref qT, .int (nI n2), .int (nI (t + 1)), .int lo, .int hi])), (qT, .inl (cA, 187, .inl f2))] := hD
        refine lv_lload_n hx hb dX2_around_40 rfl (lv_at hl 0 rfl) ?_
        refine lv_lconst (v := 1) hx hb dX2_around_41 (by decide) ?_
        refine lv_ladd hx hb dX2_around_42 ?_
        refine lv_lstore_n (lv' := [(2, .long (v.toInt64 + 1)), (0, .ref h0), (1, .int v)]) hx hb dX2_around_43 rfl hl (by decide) rfl (fun ls hl => ?_)
        refine lv_goto (tgt := 26) hx hb dX2_around_44 (by decide) ?_
        refine lv_lload_n hx hb dX2_around_26 rfl (lv_at hl 0 rfl) ?_
        refine lv_iload_n hx hb dX2_around_27 rfl (lv_at hl 2 rfl) ?_
        refine lv_i2l (v := v.toInt64) hx hb dX2_around_28 rfl ?_
        refine lv_lconst (v := 1) hx hb dX2_around_29 (by decide) ?_
        refine lv_ladd hx hb dX2_around_30 ?_
        refine W.lcmp hx hb dX2_around_31 ?_
        refine lv_if_gt (tgt := 47) hx hb dX2_around_32 (by decide) (fun c32 => ?_) (fun c32 => ?_)
        · skip
          exact absurd c32 (rr_t3 v)
        · skip
          refine lv_aload_n hx hb dX2_around_35 rfl (lv_at hl 1 rfl) ?_
          refine lv_lload_n hx hb dX2_around_36 rfl (lv_at hl 0 rfl) ?_
          refine rr_wv (wr := []) [0, 1] [] (va_runV (As := [.long (v.toInt64 + 1)]) (rest := []) ⟨hx, hb, hml, hown, hts⟩ (c_X2_add l D h0 qT H.size cA f2 n2 (t + 1) lo hi (v.toInt64 + 1) (by omega)) (cwV 1 hts gX2_around_X2_add rfl rfl rfl (by decide +kernel) ⟨Nat.le_of_ble_eq_true rfl, Nat.le_of_ble_eq_true rfl⟩) (rr_vW hK hP hD (va_recv hK hP (ci := 2) (q0 := 0) rfl rfl)) rfl rfl hl.1 rfl (lv_room (Nat.le_of_ble_eq_true rfl)) dX2_around_37 ⟨Nat.le_of_ble_eq_true rfl, Nat.le_of_ble_eq_true rfl⟩) hS hA hP hD rfl rfl (by decide) (by decide) (by decide) (fun _ => by simp only [rr_wx, rr_wm, List.map_cons, List.map_nil]) (fun u37 H locs e37 hP hD hS => ?_)
          have hP : va_P D vwCl [(h0, .inr (2, [.ref qT, .int (nI (rr_al f2 n2 (v.toInt64 + 1)).2), .int (nI (t + 1)), .int lo, .int hi])), (qT, .inl (cA, 187, .inl ((rr_al f2 n2 (v.toInt64 + 1)).1)))] H := hP
          have hD : va_D A [(h0, .inr (2, [.ref qT, .int (nI (rr_al f2 n2 (v.toInt64 + 1)).2), .int (nI (t + 1)), .int lo, .int hi])), (qT, .inl (cA, 187, .inl ((rr_al f2 n2 (v.toInt64 + 1)).1)))] := hD
          obtain ⟨f3, n3, g3⟩ : ∃ (fz : Nat → Int32) (nz : Nat), rr_al f2 n2 (v.toInt64 + 1) = (fz, nz) := ⟨_, _, rfl⟩
          rw [g3] at hP hD
          obtain ⟨hk3, hq3, hr3⟩ := rr_al_of hk2 g3
          have hP : va_P D vwCl [(h0, .inr (2, [.ref qT, .int (nI n3), .int (nI (t + 1)), .int lo, .int hi])), (qT, .inl (cA, 187, .inl f3))] H := hP
          have hD : va_D A [(h0, .inr (2, [.ref qT, .int (nI n3), .int (nI (t + 1)), .int lo, .int hi])), (qT, .inl (cA, 187, .inl f3))] := hD
          refine lv_lload_n hx hb dX2_around_40 rfl (lv_at hl 0 rfl) ?_
          refine lv_lconst (v := 1) hx hb dX2_around_41 (by decide) ?_
          refine lv_ladd hx hb dX2_around_42 ?_
          refine lv_lstore_n (lv' := [(2, .long ((v.toInt64 + 1) + 1)), (0, .ref h0), (1, .int v)]) hx hb dX2_around_43 rfl hl (by decide) rfl (fun ls hl => ?_)
          refine lv_goto (tgt := 26) hx hb dX2_around_44 (by decide) ?_
          refine lv_lload_n hx hb dX2_around_26 rfl (lv_at hl 0 rfl) ?_
          refine lv_iload_n hx hb dX2_around_27 rfl (lv_at hl 2 rfl) ?_
          refine lv_i2l (v := v.toInt64) hx hb dX2_around_28 rfl ?_
          refine lv_lconst (v := 1) hx hb dX2_around_29 (by decide) ?_
          refine lv_ladd hx hb dX2_around_30 ?_
          refine W.lcmp hx hb dX2_around_31 ?_
          refine lv_if_gt (tgt := 47) hx hb dX2_around_32 (by decide) (fun c32 => ?_) (fun c32 => ?_)
          · skip
            refine lv_aload_n hx hb dX2_around_47 rfl (lv_at hl 1 rfl) ?_
            refine va_get (D := D) (ci := 2) (v := .int (nI n3)) (C := RX2) (T := TX2) (N := 5) hx hb hts hiX2 hown hK hP 0 rfl rfl 1 (by decide) (hts (.fieldLink RX2 20 "RangeRulesModel" "thresholds" "I") (by decide +kernel)) (fun _ h9 => h9) rfl dX2_around_48 ?_
            have ee : rr_ar f n v = (f3, n3) := by
              unfold rr_ar
              rw [g1]
              dsimp only
              rw [g2]
              dsimp only
              rw [g3]
            exact W.iret (v := nI n3) hx hb hr (fun tt ht hW => ⟨⟨_, (), rfl, by rw [if_neg h7, ee], by dsimp only; rw [ht, if_neg h7, if_neg h7, if_neg h7, ee]; exact hP⟩, hS.F ht⟩) hS.2.2 dX2_around_51
          · skip
            exact absurd (rr_t4 v) c32
  · skip
    have h7 : t = 60 := (nI_eq (a := t) (b := 60) (by omega) (by decide)).mp c6
    refine lv_iconst (v := (-1)) hx hb dX2_around_9 (by decide) ?_
    exact W.iret (v := -1) hx hb hr (fun tt ht hW => ⟨⟨_, (), rfl, by rw [if_pos h7], by dsimp only; rw [ht, if_pos h7, if_pos h7, if_pos h7]; exact hP⟩, hS.F ht⟩) hS.2.2 dX2_around_10
set_option maxHeartbeats 1000000 in
set_option maxRecDepth 100000 in
/-- tell(x, y), where x is not above y -/
theorem c_X2_tell (l : Launch) (D : va_G) (h0 qT sz : Nat) (cA : ClassId) (f : Nat → Int32) (n t : Nat) (lo hi : Int32) (x y : Int64) (hn : n ≤ 187) (hxy : x ≤ y) : Met l yX2_tell wsX2_tell ({ frames := 2, cells := 0, slots := 0, locals := 43 }) (rr_pW D (rr_wm h0 qT cA f n t lo hi) [(cA, .int)] [.ref h0, .long x, .long y] sz) (va_Qi (fun r (_ : Unit) => r = 1) (fun _ tt => va_P D vwCl (rr_wm h0 qT cA f n t (rr_tl f n x y).1 (rr_tl f n x y).2) tt.heap) (va_A (rr_wm h0 qT cA f n t lo hi) sz)) 0 0 (va_A (rr_wm h0 qT cA f n t lo hi) sz) := by
  refine Met.ofW (cc := cX2_tell) (maxL := 6) (ret := (some .int)) (by decide) rfl ?_
  intro p e s m args below meth c s₁ B hml hv
  obtain ⟨rfl, hsz, hP, hK, hD0⟩ := hv
  have hx := B.exec
  have hb := B.bytes
  have hr := B.returns
  have hts := atoms_spec (ws := wsX2_tell) B.pre
  have hown : s.vm.findClass RX2 = some m.cls := findClass_of_methodNamed B.named
  have hlocks := B.notSynchronized
  subst hsz
  have hD := hD0.self (sz := s.heap.size)
  generalize hAe : va_A [(h0, .inr (2, [.ref qT, .int (nI n), .int (nI t), .int lo, .int hi])), (qT, .inl (cA, 187, .inl f))] s.heap.size = A at hD ⊢
  have hA : ∀ q : Nat, s.heap.size ≤ q → A q := fun q h => by rw [← hAe]; exact Or.inr h
  have hS : va_S A s.heap s.heap [] := va_S.rf
  have hP : va_P D vwCl [(h0, .inr (2, [.ref qT, .int (nI n), .int (nI t), .int lo, .int hi])), (qT, .inl (cA, 187, .inl f))] s.heap := hP
  have hiX2 : ∀ w ∈ wsX20, w ∈ wsX2_tell := by decide +kernel
  have hl := lv_entry ([.ref h0, .long x, .long y]) (n := 6) (Nat.le_of_ble_eq_true rfl)
  rw [lg_entry_eq]
  generalize (lg_sl ([.ref h0, .long x, .long y]) ++ List.replicate (6 - (lg_sl ([.ref h0, .long x, .long y])).length) Slot.unset).toArray = ls at hl ⊢
  have hl : lv_has ls 6 [(0, .ref h0), (1, .long x), (3, .long y)] := hl
  refine lv_lload_n hx hb dX2_tell_0 rfl (lv_at hl 1 rfl) ?_
  refine lv_ldc2 (v := (-2147483648)) hx hb hown (hts (.constantLong RX2 23 (-2147483648)) (by decide +kernel)) dX2_tell_1 ?_
  refine W.lcmp hx hb dX2_tell_4 ?_
  refine lv_if_lt (tgt := 20) hx hb dX2_tell_5 (by decide) (fun c5 => ?_) (fun c5 => ?_)
  · skip
    refine lv_iconst (v := 0) hx hb dX2_tell_20 (by decide) ?_
    refine lv_istore (lv' := [(5, .int 0), (0, .ref h0), (1, .long x), (3, .long y)]) hx hb dX2_tell_21 hl (by decide) rfl (fun ls hl => ?_)
    refine lv_aload_n hx hb dX2_tell_23 rfl (lv_at hl 1 rfl) ?_
    refine lv_iload hx hb dX2_tell_24 (lv_at hl 0 rfl) ?_
    refine lv_if_eq (tgt := 38) hx hb dX2_tell_26 (by decide) (fun c26 => ?_) (fun c26 => ?_)
    · skip
      refine lv_ldc (v := (-2147483648)) hx hb hown (hts (.constant RX2 35 (-2147483648)) (by decide +kernel)) dX2_tell_38 ?_
      refine va_put (D := D) (ci := 2) (v := .int ((-2147483648))) (ty := .int) (C := RX2) (T := TX2) (N := 5) hx hb hts hiX2 tyX2 tyX2_ok nmX2 hown hK hP hD hS 0 rfl rfl 3 (by decide) (hts (.fieldLink RX2 53 "RangeRulesModel" "low" "I") (by decide +kernel)) (fun _ h9 => h9) rfl (by decide +kernel) rfl rfl (Nat.le_of_ble_eq_true rfl) dX2_tell_40 (fun H locs hP hD hS => ?_)
      have hP : va_P D vwCl [(h0, .inr (2, [.ref qT, .int (nI n), .int (nI t), .int ((-2147483648)), .int hi])), (qT, .inl (cA, 187, .inl f))] H := hP
      have hD : va_D A [(h0, .inr (2, [.ref qT, .int (nI n), .int (nI t), .int ((-2147483648)), .int hi])), (qT, .inl (cA, 187, .inl f))] := hD
      refine lv_aload_n hx hb dX2_tell_43 rfl (lv_at hl 1 rfl) ?_
      refine lv_iload hx hb dX2_tell_44 (lv_at hl 0 rfl) ?_
      refine lv_if_eq (tgt := 58) hx hb dX2_tell_46 (by decide) (fun c46 => ?_) (fun c46 => ?_)
      · skip
        refine lv_ldc (v := 2147483647) hx hb hown (hts (.constant RX2 42 2147483647) (by decide +kernel)) dX2_tell_58 ?_
        refine va_put (D := D) (ci := 2) (v := .int 2147483647) (ty := .int) (C := RX2) (T := TX2) (N := 5) hx hb hts hiX2 tyX2 tyX2_ok nmX2 hown hK hP hD hS 0 rfl rfl 4 (by decide) (hts (.fieldLink RX2 56 "RangeRulesModel" "high" "I") (by decide +kernel)) (fun _ h9 => h9) rfl (by decide +kernel) rfl rfl (Nat.le_of_ble_eq_true rfl) dX2_tell_60 (fun H locs hP hD hS => ?_)
        have hP : va_P D vwCl [(h0, .inr (2, [.ref qT, .int (nI n), .int (nI t), .int ((-2147483648)), .int 2147483647])), (qT, .inl (cA, 187, .inl f))] H := hP
        have hD : va_D A [(h0, .inr (2, [.ref qT, .int (nI n), .int (nI t), .int ((-2147483648)), .int 2147483647])), (qT, .inl (cA, 187, .inl f))] := hD
        refine lv_iconst (v := 1) hx hb dX2_tell_63 (by decide) ?_
        have ee : rr_tl f n x y = (-2147483648, 2147483647) := rr_tl_1 ((lg_cmp_lt _ _).mp c5)
        exact W.iret (v := 1) hx hb hr (fun tt ht hW => ⟨⟨_, (), rfl, rfl, by dsimp only; rw [ht, ee]; exact hP⟩, hS.F ht⟩) hS.2.2 dX2_tell_64
      · skip
        exact absurd c46 (by decide)
    · skip
      exact absurd c26 (by decide)
  · skip
    refine lv_lload_n hx hb dX2_tell_8 rfl (lv_at hl 2 rfl) ?_
    refine lv_ldc2 (v := 2147483647) hx hb hown (hts (.constantLong RX2 33 2147483647) (by decide +kernel)) dX2_tell_9 ?_
    refine W.lcmp hx hb dX2_tell_12 ?_
    refine lv_if_gt (tgt := 20) hx hb dX2_tell_13 (by decide) (fun c13 => ?_) (fun c13 => ?_)
    · skip
      refine lv_iconst (v := 0) hx hb dX2_tell_20 (by decide) ?_
      refine lv_istore (lv' := [(5, .int 0), (0, .ref h0), (1, .long x), (3, .long y)]) hx hb dX2_tell_21 hl (by decide) rfl (fun ls hl => ?_)
      refine lv_aload_n hx hb dX2_tell_23 rfl (lv_at hl 1 rfl) ?_
      refine lv_iload hx hb dX2_tell_24 (lv_at hl 0 rfl) ?_
      refine lv_if_eq (tgt := 38) hx hb dX2_tell_26 (by decide) (fun c26 => ?_) (fun c26 => ?_)
      · skip
        refine lv_ldc (v := (-2147483648)) hx hb hown (hts (.constant RX2 35 (-2147483648)) (by decide +kernel)) dX2_tell_38 ?_
        refine va_put (D := D) (ci := 2) (v := .int ((-2147483648))) (ty := .int) (C := RX2) (T := TX2) (N := 5) hx hb hts hiX2 tyX2 tyX2_ok nmX2 hown hK hP hD hS 0 rfl rfl 3 (by decide) (hts (.fieldLink RX2 53 "RangeRulesModel" "low" "I") (by decide +kernel)) (fun _ h9 => h9) rfl (by decide +kernel) rfl rfl (Nat.le_of_ble_eq_true rfl) dX2_tell_40 (fun H locs hP hD hS => ?_)
        have hP : va_P D vwCl [(h0, .inr (2, [.ref qT, .int (nI n), .int (nI t), .int ((-2147483648)), .int hi])), (qT, .inl (cA, 187, .inl f))] H := hP
        have hD : va_D A [(h0, .inr (2, [.ref qT, .int (nI n), .int (nI t), .int ((-2147483648)), .int hi])), (qT, .inl (cA, 187, .inl f))] := hD
        refine lv_aload_n hx hb dX2_tell_43 rfl (lv_at hl 1 rfl) ?_
        refine lv_iload hx hb dX2_tell_44 (lv_at hl 0 rfl) ?_
        refine lv_if_eq (tgt := 58) hx hb dX2_tell_46 (by decide) (fun c46 => ?_) (fun c46 => ?_)
        · skip
          refine lv_ldc (v := 2147483647) hx hb hown (hts (.constant RX2 42 2147483647) (by decide +kernel)) dX2_tell_58 ?_
          refine va_put (D := D) (ci := 2) (v := .int 2147483647) (ty := .int) (C := RX2) (T := TX2) (N := 5) hx hb hts hiX2 tyX2 tyX2_ok nmX2 hown hK hP hD hS 0 rfl rfl 4 (by decide) (hts (.fieldLink RX2 56 "RangeRulesModel" "high" "I") (by decide +kernel)) (fun _ h9 => h9) rfl (by decide +kernel) rfl rfl (Nat.le_of_ble_eq_true rfl) dX2_tell_60 (fun H locs hP hD hS => ?_)
          have hP : va_P D vwCl [(h0, .inr (2, [.ref qT, .int (nI n), .int (nI t), .int ((-2147483648)), .int 2147483647])), (qT, .inl (cA, 187, .inl f))] H := hP
          have hD : va_D A [(h0, .inr (2, [.ref qT, .int (nI n), .int (nI t), .int ((-2147483648)), .int 2147483647])), (qT, .inl (cA, 187, .inl f))] := hD
          refine lv_iconst (v := 1) hx hb dX2_tell_63 (by decide) ?_
          have ee : rr_tl f n x y = (-2147483648, 2147483647) := rr_tl_2 ((lg_cmp_gt _ _).mp c13)
          exact W.iret (v := 1) hx hb hr (fun tt ht hW => ⟨⟨_, (), rfl, rfl, by dsimp only; rw [ht, ee]; exact hP⟩, hS.F ht⟩) hS.2.2 dX2_tell_64
        · skip
          exact absurd c46 (by decide)
      · skip
        exact absurd c26 (by decide)
    · skip
      refine lv_iconst (v := 1) hx hb dX2_tell_16 (by decide) ?_
      refine lv_goto (tgt := 21) hx hb dX2_tell_17 (by decide) ?_
      refine lv_istore (lv' := [(5, .int 1), (0, .ref h0), (1, .long x), (3, .long y)]) hx hb dX2_tell_21 hl (by decide) rfl (fun ls hl => ?_)
      refine lv_aload_n hx hb dX2_tell_23 rfl (lv_at hl 1 rfl) ?_
      refine lv_iload hx hb dX2_tell_24 (lv_at hl 0 rfl) ?_
      refine lv_if_eq (tgt := 38) hx hb dX2_tell_26 (by decide) (fun c26 => ?_) (fun c26 => ?_)
      · skip
        exact absurd c26 (by decide)
      · skip
        refine lv_aload_n hx hb dX2_tell_29 rfl (lv_at hl 1 rfl) ?_
        refine lv_lload_n hx hb dX2_tell_30 rfl (lv_at hl 2 rfl) ?_
        refine lv_l2i (v := x.toInt32) hx hb dX2_tell_31 rfl ?_
        refine rr_ri (va_runV (As := [.int x.toInt32]) (rest := [.ref h0]) ⟨hx, hb, hml, hown, hts⟩ (c_X2_down l D h0 qT s.heap.size cA f n t lo hi x.toInt32 hn) (cwV 1 hts gX2_tell_X2_down rfl rfl rfl (by decide +kernel) ⟨Nat.le_of_ble_eq_true rfl, Nat.le_of_ble_eq_true rfl⟩) (rr_vR hK hP (va_recv hK hP (ci := 2) (q0 := 0) rfl rfl)) rfl rfl hl.1 rfl (lv_room (Nat.le_of_ble_eq_true rfl)) dX2_tell_32 ⟨Nat.le_of_ble_eq_true rfl, Nat.le_of_ble_eq_true rfl⟩) hS hA hP (fun r32 H locs e32 hP hS => ?_)
        subst e32
        refine lv_goto (tgt := 40) hx hb dX2_tell_35 (by decide) ?_
        refine va_put (D := D) (ci := 2) (v := .int (rr_dn f x.toInt32 n)) (ty := .int) (C := RX2) (T := TX2) (N := 5) hx hb hts hiX2 tyX2 tyX2_ok nmX2 hown hK hP hD hS 0 rfl rfl 3 (by decide) (hts (.fieldLink RX2 53 "RangeRulesModel" "low" "I") (by decide +kernel)) (fun _ h9 => h9) rfl (by decide +kernel) rfl rfl (Nat.le_of_ble_eq_true rfl) dX2_tell_40 (fun H locs hP hD hS => ?_)
        have hP : va_P D vwCl [(h0, .inr (2, [.ref qT, .int (nI n), .int (nI t), .int (rr_dn f x.toInt32 n), .int hi])), (qT, .inl (cA, 187, .inl f))] H := hP
        have hD : va_D A [(h0, .inr (2, [.ref qT, .int (nI n), .int (nI t), .int (rr_dn f x.toInt32 n), .int hi])), (qT, .inl (cA, 187, .inl f))] := hD
        refine lv_aload_n hx hb dX2_tell_43 rfl (lv_at hl 1 rfl) ?_
        refine lv_iload hx hb dX2_tell_44 (lv_at hl 0 rfl) ?_
        refine lv_if_eq (tgt := 58) hx hb dX2_tell_46 (by decide) (fun c46 => ?_) (fun c46 => ?_)
        · skip
          exact absurd c46 (by decide)
        · skip
          refine lv_aload_n hx hb dX2_tell_49 rfl (lv_at hl 1 rfl) ?_
          refine lv_lload_n hx hb dX2_tell_50 rfl (lv_at hl 3 rfl) ?_
          refine lv_l2i (v := y.toInt32) hx hb dX2_tell_51 rfl ?_
          refine rr_ri (va_runV (As := [.int y.toInt32]) (rest := [.ref h0]) ⟨hx, hb, hml, hown, hts⟩ (c_X2_up l D h0 qT H.size cA f n t (rr_dn f x.toInt32 n) hi y.toInt32 hn) (cwV 1 hts gX2_tell_X2_up rfl rfl rfl (by decide +kernel) ⟨Nat.le_of_ble_eq_true rfl, Nat.le_of_ble_eq_true rfl⟩) (rr_vR hK hP (va_recv hK hP (ci := 2) (q0 := 0) rfl rfl)) rfl rfl hl.1 rfl (lv_room (Nat.le_of_ble_eq_true rfl)) dX2_tell_52 ⟨Nat.le_of_ble_eq_true rfl, Nat.le_of_ble_eq_true rfl⟩) hS hA hP (fun r52 H locs e52 hP hS => ?_)
          subst e52
          refine lv_goto (tgt := 60) hx hb dX2_tell_55 (by decide) ?_
          refine va_put (D := D) (ci := 2) (v := .int (rr_up f y.toInt32 n)) (ty := .int) (C := RX2) (T := TX2) (N := 5) hx hb hts hiX2 tyX2 tyX2_ok nmX2 hown hK hP hD hS 0 rfl rfl 4 (by decide) (hts (.fieldLink RX2 56 "RangeRulesModel" "high" "I") (by decide +kernel)) (fun _ h9 => h9) rfl (by decide +kernel) rfl rfl (Nat.le_of_ble_eq_true rfl) dX2_tell_60 (fun H locs hP hD hS => ?_)
          have hP : va_P D vwCl [(h0, .inr (2, [.ref qT, .int (nI n), .int (nI t), .int (rr_dn f x.toInt32 n), .int (rr_up f y.toInt32 n)])), (qT, .inl (cA, 187, .inl f))] H := hP
          have hD : va_D A [(h0, .inr (2, [.ref qT, .int (nI n), .int (nI t), .int (rr_dn f x.toInt32 n), .int (rr_up f y.toInt32 n)])), (qT, .inl (cA, 187, .inl f))] := hD
          refine lv_iconst (v := 1) hx hb dX2_tell_63 (by decide) ?_
          have ee : rr_tl f n x y = (rr_dn f x.toInt32 n, rr_up f y.toInt32 n) := rr_tl_t hxy (Int64.not_lt.mp (fun z => c5 ((lg_cmp_lt _ _).mpr z))) (Int64.not_lt.mp (fun z => c13 ((lg_cmp_gt _ _).mpr z)))
          exact W.iret (v := 1) hx hb hr (fun tt ht hW => ⟨⟨_, (), rfl, rfl, by dsimp only; rw [ht, ee]; exact hP⟩, hS.F ht⟩) hS.2.2 dX2_tell_64
set_option maxHeartbeats 1000000 in
set_option maxRecDepth 100000 in
/-- tellAll() -/
theorem c_X2_tellAll (l : Launch) (D : va_G) (h0 qT sz : Nat) (cA : ClassId) (f : Nat → Int32) (n t : Nat) (lo hi : Int32)  (hn : n ≤ 187) : Met l yX2_tellAll wsX2_tellAll ({ frames := 3, cells := 0, slots := 0, locals := 68 }) (rr_pW D (rr_wm h0 qT cA f n t lo hi) [(cA, .int)] [.ref h0] sz) (va_Qi (fun r (_ : Unit) => r = 1) (fun _ tt => va_P D vwCl (rr_wm h0 qT cA f n t (-2147483648) 2147483647) tt.heap) (va_A (rr_wm h0 qT cA f n t lo hi) sz)) 0 0 (va_A (rr_wm h0 qT cA f n t lo hi) sz) := by
  refine Met.ofW (cc := cX2_tellAll) (maxL := 1) (ret := (some .int)) (by decide) rfl ?_
  intro p e s m args below meth c s₁ B hml hv
  obtain ⟨rfl, hsz, hP, hK, hD0⟩ := hv
  have hx := B.exec
  have hb := B.bytes
  have hr := B.returns
  have hts := atoms_spec (ws := wsX2_tellAll) B.pre
  have hown : s.vm.findClass RX2 = some m.cls := findClass_of_methodNamed B.named
  have hlocks := B.notSynchronized
  subst hsz
  have hD := hD0.self (sz := s.heap.size)
  generalize hAe : va_A [(h0, .inr (2, [.ref qT, .int (nI n), .int (nI t), .int lo, .int hi])), (qT, .inl (cA, 187, .inl f))] s.heap.size = A at hD ⊢
  have hA : ∀ q : Nat, s.heap.size ≤ q → A q := fun q h => by rw [← hAe]; exact Or.inr h
  have hS : va_S A s.heap s.heap [] := va_S.rf
  have hP : va_P D vwCl [(h0, .inr (2, [.ref qT, .int (nI n), .int (nI t), .int lo, .int hi])), (qT, .inl (cA, 187, .inl f))] s.heap := hP
  have hiX2 : ∀ w ∈ wsX20, w ∈ wsX2_tellAll := by decide +kernel
  have hl := lv_entry ([.ref h0]) (n := 1) (Nat.le_of_ble_eq_true rfl)
  rw [lg_entry_eq]
  generalize (lg_sl ([.ref h0]) ++ List.replicate (1 - (lg_sl ([.ref h0])).length) Slot.unset).toArray = ls at hl ⊢
  have hl : lv_has ls 1 [(0, .ref h0)] := hl
  refine lv_aload_n hx hb dX2_tellAll_0 rfl (lv_at hl 0 rfl) ?_
  refine lv_ldc2 (v := (-2147483648)) hx hb hown (hts (.constantLong RX2 23 (-2147483648)) (by decide +kernel)) dX2_tellAll_1 ?_
  refine lv_ldc2 (v := 2147483647) hx hb hown (hts (.constantLong RX2 33 2147483647) (by decide +kernel)) dX2_tellAll_4 ?_
  refine rr_wi (wr := []) [0, 1] [] (va_runV (As := [.long ((-2147483648)), .long 2147483647]) (rest := []) ⟨hx, hb, hml, hown, hts⟩ (c_X2_tell l D h0 qT s.heap.size cA f n t lo hi (-2147483648) 2147483647 hn (by decide)) (cwV 2 hts gX2_tellAll_X2_tell rfl rfl rfl (by decide +kernel) ⟨Nat.le_of_ble_eq_true rfl, Nat.le_of_ble_eq_true rfl⟩) (rr_vW hK hP hD (va_recv hK hP (ci := 2) (q0 := 0) rfl rfl)) rfl rfl hl.1 rfl (lv_room (Nat.le_of_ble_eq_true rfl)) dX2_tellAll_7 ⟨Nat.le_of_ble_eq_true rfl, Nat.le_of_ble_eq_true rfl⟩) hS hA hP hD rfl rfl (by decide) (by decide) (by decide) (fun _ => by simp only [rr_wx, rr_wm, List.map_cons, List.map_nil]) (fun r7 u7 H locs e7 hP hD hS => ?_)
  have hP : va_P D vwCl [(h0, .inr (2, [.ref qT, .int (nI n), .int (nI t), .int ((rr_tl f n (-2147483648) 2147483647).1), .int ((rr_tl f n (-2147483648) 2147483647).2)])), (qT, .inl (cA, 187, .inl f))] H := hP
  have hD : va_D A [(h0, .inr (2, [.ref qT, .int (nI n), .int (nI t), .int ((rr_tl f n (-2147483648) 2147483647).1), .int ((rr_tl f n (-2147483648) 2147483647).2)])), (qT, .inl (cA, 187, .inl f))] := hD
  subst e7
  rw [rr_tl_all] at hP
  exact W.iret (v := 1) hx hb hr (fun tt ht hW => ⟨⟨_, (), rfl, rfl, by dsimp only; rw [ht]; exact hP⟩, hS.F ht⟩) hS.2.2 dX2_tellAll_10
set_option maxHeartbeats 1000000 in
set_option maxRecDepth 100000 in
/-- tellLeast -/
theorem c_X2_tellLeast (l : Launch) (D : va_G) (h0 qT sz : Nat) (cA : ClassId) (f : Nat → Int32) (n t : Nat) (lo hi : Int32) (x1 x2 x3 x4 : Int64) (hn : n ≤ 187) : Met l yX2_tellLeast wsX2_tellLeast ({ frames := 3, cells := 0, slots := 0, locals := 68 }) (rr_pW D (rr_wm h0 qT cA f n t lo hi) [(cA, .int)] [.ref h0, .long x1, .long x2, .long x3, .long x4] sz) (va_Qi (fun r (_ : Unit) => r = 1) (fun _ tt => va_P D vwCl (rr_wm h0 qT cA f n t (rr_tl f n (rr_mn (rr_mn x1 x2) (rr_mn x3 x4)) (rr_mx (rr_mx x1 x2) (rr_mx x3 x4))).1 (rr_tl f n (rr_mn (rr_mn x1 x2) (rr_mn x3 x4)) (rr_mx (rr_mx x1 x2) (rr_mx x3 x4))).2) tt.heap) (va_A (rr_wm h0 qT cA f n t lo hi) sz)) 0 0 (va_A (rr_wm h0 qT cA f n t lo hi) sz) := by
  refine Met.ofW (cc := cX2_tellLeast) (maxL := 9) (ret := (some .int)) (by decide) rfl ?_
  intro p e s m args below meth c s₁ B hml hv
  obtain ⟨rfl, hsz, hP, hK, hD0⟩ := hv
  have hx := B.exec
  have hb := B.bytes
  have hr := B.returns
  have hts := atoms_spec (ws := wsX2_tellLeast) B.pre
  have hown : s.vm.findClass RX2 = some m.cls := findClass_of_methodNamed B.named
  have hlocks := B.notSynchronized
  subst hsz
  have hD := hD0.self (sz := s.heap.size)
  generalize hAe : va_A [(h0, .inr (2, [.ref qT, .int (nI n), .int (nI t), .int lo, .int hi])), (qT, .inl (cA, 187, .inl f))] s.heap.size = A at hD ⊢
  have hA : ∀ q : Nat, s.heap.size ≤ q → A q := fun q h => by rw [← hAe]; exact Or.inr h
  have hS : va_S A s.heap s.heap [] := va_S.rf
  have hP : va_P D vwCl [(h0, .inr (2, [.ref qT, .int (nI n), .int (nI t), .int lo, .int hi])), (qT, .inl (cA, 187, .inl f))] s.heap := hP
  have hiX2 : ∀ w ∈ wsX20, w ∈ wsX2_tellLeast := by decide +kernel
  have hl := lv_entry ([.ref h0, .long x1, .long x2, .long x3, .long x4]) (n := 9) (Nat.le_of_ble_eq_true rfl)
  rw [lg_entry_eq]
  generalize (lg_sl ([.ref h0, .long x1, .long x2, .long x3, .long x4]) ++ List.replicate (9 - (lg_sl ([.ref h0, .long x1, .long x2, .long x3, .long x4])).length) Slot.unset).toArray = ls at hl ⊢
  have hl : lv_has ls 9 [(0, .ref h0), (1, .long x1), (3, .long x2), (5, .long x3), (7, .long x4)] := hl
  refine lv_aload_n hx hb dX2_tellLeast_0 rfl (lv_at hl 0 rfl) ?_
  refine lv_lload_n hx hb dX2_tellLeast_1 rfl (lv_at hl 1 rfl) ?_
  refine lv_lload_n hx hb dX2_tellLeast_2 rfl (lv_at hl 2 rfl) ?_
  refine va_mmin_long hx hb (hml.trans hl.1.symm) hown (hts (.methodLink RX2 63 Lib.MathLoose.min_long.x) (by decide +kernel)) (hts (.static Lib.MathLoose.min_long.x) (by decide +kernel)) (hts (.initialized "java/lang/Math") (by decide +kernel)) (hts (.code Lib.MathLoose.min_long.x Lib.MathLoose.min_long.code 4 (some .long)) (by decide +kernel)) (Nat.le_of_ble_eq_true rfl) (Nat.le_of_ble_eq_true rfl) (Nat.le_of_ble_eq_true rfl) (Nat.le_of_ble_eq_true rfl) dX2_tellLeast_3 ?_
  refine W.eq (g2 := F0 m 6 ls [.long (rr_mn x1 x2), .ref h0]) rfl ?_
  refine lv_lload hx hb dX2_tellLeast_6 (lv_at hl 3 rfl) ?_
  refine lv_lload hx hb dX2_tellLeast_8 (lv_at hl 4 rfl) ?_
  refine va_mmin_long hx hb (hml.trans hl.1.symm) hown (hts (.methodLink RX2 63 Lib.MathLoose.min_long.x) (by decide +kernel)) (hts (.static Lib.MathLoose.min_long.x) (by decide +kernel)) (hts (.initialized "java/lang/Math") (by decide +kernel)) (hts (.code Lib.MathLoose.min_long.x Lib.MathLoose.min_long.code 4 (some .long)) (by decide +kernel)) (Nat.le_of_ble_eq_true rfl) (Nat.le_of_ble_eq_true rfl) (Nat.le_of_ble_eq_true rfl) (Nat.le_of_ble_eq_true rfl) dX2_tellLeast_10 ?_
  refine W.eq (g2 := F0 m 13 ls [.long (rr_mn x3 x4), .long (rr_mn x1 x2), .ref h0]) rfl ?_
  refine va_mmin_long hx hb (hml.trans hl.1.symm) hown (hts (.methodLink RX2 63 Lib.MathLoose.min_long.x) (by decide +kernel)) (hts (.static Lib.MathLoose.min_long.x) (by decide +kernel)) (hts (.initialized "java/lang/Math") (by decide +kernel)) (hts (.code Lib.MathLoose.min_long.x Lib.MathLoose.min_long.code 4 (some .long)) (by decide +kernel)) (Nat.le_of_ble_eq_true rfl) (Nat.le_of_ble_eq_true rfl) (Nat.le_of_ble_eq_true rfl) (Nat.le_of_ble_eq_true rfl) dX2_tellLeast_13 ?_
  refine W.eq (g2 := F0 m 16 ls [.long (rr_mn (rr_mn x1 x2) (rr_mn x3 x4)), .ref h0]) rfl ?_
  refine lv_lload_n hx hb dX2_tellLeast_16 rfl (lv_at hl 1 rfl) ?_
  refine lv_lload_n hx hb dX2_tellLeast_17 rfl (lv_at hl 2 rfl) ?_
  refine va_mmax_long hx hb (hml.trans hl.1.symm) hown (hts (.methodLink RX2 66 Lib.MathLoose.max_long.x) (by decide +kernel)) (hts (.static Lib.MathLoose.max_long.x) (by decide +kernel)) (hts (.initialized "java/lang/Math") (by decide +kernel)) (hts (.code Lib.MathLoose.max_long.x Lib.MathLoose.max_long.code 4 (some .long)) (by decide +kernel)) (Nat.le_of_ble_eq_true rfl) (Nat.le_of_ble_eq_true rfl) (Nat.le_of_ble_eq_true rfl) (Nat.le_of_ble_eq_true rfl) dX2_tellLeast_18 ?_
  refine W.eq (g2 := F0 m 21 ls [.long (rr_mx x1 x2), .long (rr_mn (rr_mn x1 x2) (rr_mn x3 x4)), .ref h0]) rfl ?_
  refine lv_lload hx hb dX2_tellLeast_21 (lv_at hl 3 rfl) ?_
  refine lv_lload hx hb dX2_tellLeast_23 (lv_at hl 4 rfl) ?_
  refine va_mmax_long hx hb (hml.trans hl.1.symm) hown (hts (.methodLink RX2 66 Lib.MathLoose.max_long.x) (by decide +kernel)) (hts (.static Lib.MathLoose.max_long.x) (by decide +kernel)) (hts (.initialized "java/lang/Math") (by decide +kernel)) (hts (.code Lib.MathLoose.max_long.x Lib.MathLoose.max_long.code 4 (some .long)) (by decide +kernel)) (Nat.le_of_ble_eq_true rfl) (Nat.le_of_ble_eq_true rfl) (Nat.le_of_ble_eq_true rfl) (Nat.le_of_ble_eq_true rfl) dX2_tellLeast_25 ?_
  refine W.eq (g2 := F0 m 28 ls [.long (rr_mx x3 x4), .long (rr_mx x1 x2), .long (rr_mn (rr_mn x1 x2) (rr_mn x3 x4)), .ref h0]) rfl ?_
  refine va_mmax_long hx hb (hml.trans hl.1.symm) hown (hts (.methodLink RX2 66 Lib.MathLoose.max_long.x) (by decide +kernel)) (hts (.static Lib.MathLoose.max_long.x) (by decide +kernel)) (hts (.initialized "java/lang/Math") (by decide +kernel)) (hts (.code Lib.MathLoose.max_long.x Lib.MathLoose.max_long.code 4 (some .long)) (by decide +kernel)) (Nat.le_of_ble_eq_true rfl) (Nat.le_of_ble_eq_true rfl) (Nat.le_of_ble_eq_true rfl) (Nat.le_of_ble_eq_true rfl) dX2_tellLeast_28 ?_
  refine W.eq (g2 := F0 m 31 ls [.long (rr_mx (rr_mx x1 x2) (rr_mx x3 x4)), .long (rr_mn (rr_mn x1 x2) (rr_mn x3 x4)), .ref h0]) rfl ?_
  refine rr_wi (wr := []) [0, 1] [] (va_runV (As := [.long (rr_mn (rr_mn x1 x2) (rr_mn x3 x4)), .long (rr_mx (rr_mx x1 x2) (rr_mx x3 x4))]) (rest := []) ⟨hx, hb, hml, hown, hts⟩ (c_X2_tell l D h0 qT s.heap.size cA f n t lo hi (rr_mn (rr_mn x1 x2) (rr_mn x3 x4)) (rr_mx (rr_mx x1 x2) (rr_mx x3 x4)) hn (rr_le2 _ _ _ _)) (cwV 2 hts gX2_tellLeast_X2_tell rfl rfl rfl (by decide +kernel) ⟨Nat.le_of_ble_eq_true rfl, Nat.le_of_ble_eq_true rfl⟩) (rr_vW hK hP hD (va_recv hK hP (ci := 2) (q0 := 0) rfl rfl)) rfl rfl hl.1 rfl (lv_room (Nat.le_of_ble_eq_true rfl)) dX2_tellLeast_31 ⟨Nat.le_of_ble_eq_true rfl, Nat.le_of_ble_eq_true rfl⟩) hS hA hP hD rfl rfl (by decide) (by decide) (by decide) (fun _ => by simp only [rr_wx, rr_wm, List.map_cons, List.map_nil]) (fun r31 u31 H locs e31 hP hD hS => ?_)
  have hP : va_P D vwCl [(h0, .inr (2, [.ref qT, .int (nI n), .int (nI t), .int ((rr_tl f n (rr_mn (rr_mn x1 x2) (rr_mn x3 x4)) (rr_mx (rr_mx x1 x2) (rr_mx x3 x4))).1), .int ((rr_tl f n (rr_mn (rr_mn x1 x2) (rr_mn x3 x4)) (rr_mx (rr_mx x1 x2) (rr_mx x3 x4))).2)])), (qT, .inl (cA, 187, .inl f))] H := hP
  have hD : va_D A [(h0, .inr (2, [.ref qT, .int (nI n), .int (nI t), .int ((rr_tl f n (rr_mn (rr_mn x1 x2) (rr_mn x3 x4)) (rr_mx (rr_mx x1 x2) (rr_mx x3 x4))).1), .int ((rr_tl f n (rr_mn (rr_mn x1 x2) (rr_mn x3 x4)) (rr_mx (rr_mx x1 x2) (rr_mx x3 x4))).2)])), (qT, .inl (cA, 187, .inl f))] := hD
  subst e31
  exact W.iret (v := 1) hx hb hr (fun tt ht hW => ⟨⟨_, (), rfl, rfl, by dsimp only; rw [ht]; exact hP⟩, hS.F ht⟩) hS.2.2 dX2_tellLeast_34
set_option maxHeartbeats 1000000 in
set_option maxRecDepth 100000 in
/-- negate(x, y) -/
theorem c_X2_negate (l : Launch) (D : va_G) (h0 qT sz : Nat) (cA : ClassId) (f : Nat → Int32) (n t : Nat) (lo hi : Int32) (x1 x2 : Int32) (hn : n ≤ 187) (hk : rr_ok f n) : Met l yX2_negate wsX2_negate ({ frames := 3, cells := 0, slots := 0, locals := 68 }) (rr_pW D (rr_wm h0 qT cA f n t lo hi) [(cA, .int)] [.ref h0, .int x1, .int x2] sz) (va_Qi (fun r (_ : Unit) => r = (rr_ng f n lo hi x1 x2).1) (fun _ tt => va_P D vwCl (rr_wm h0 qT cA f n t (rr_ng f n lo hi x1 x2).2.1 (rr_ng f n lo hi x1 x2).2.2) tt.heap) (va_A (rr_wm h0 qT cA f n t lo hi) sz)) 0 0 (va_A (rr_wm h0 qT cA f n t lo hi) sz) := by
  refine Met.ofW (cc := cX2_negate) (maxL := 4) (ret := (some .boolean)) (by decide) rfl ?_
  intro p e s m args below meth c s₁ B hml hv
  obtain ⟨rfl, hsz, hP, hK, hD0⟩ := hv
  have hx := B.exec
  have hb := B.bytes
  have hr := B.returns
  have hts := atoms_spec (ws := wsX2_negate) B.pre
  have hown : s.vm.findClass RX2 = some m.cls := findClass_of_methodNamed B.named
  have hlocks := B.notSynchronized
  subst hsz
  have hD := hD0.self (sz := s.heap.size)
  generalize hAe : va_A [(h0, .inr (2, [.ref qT, .int (nI n), .int (nI t), .int lo, .int hi])), (qT, .inl (cA, 187, .inl f))] s.heap.size = A at hD ⊢
  have hA : ∀ q : Nat, s.heap.size ≤ q → A q := fun q h => by rw [← hAe]; exact Or.inr h
  have hS : va_S A s.heap s.heap [] := va_S.rf
  have hP : va_P D vwCl [(h0, .inr (2, [.ref qT, .int (nI n), .int (nI t), .int lo, .int hi])), (qT, .inl (cA, 187, .inl f))] s.heap := hP
  have hiX2 : ∀ w ∈ wsX20, w ∈ wsX2_negate := by decide +kernel
  have hl := lv_entry ([.ref h0, .int x1, .int x2]) (n := 4) (Nat.le_of_ble_eq_true rfl)
  rw [lg_entry_eq]
  generalize (lg_sl ([.ref h0, .int x1, .int x2]) ++ List.replicate (4 - (lg_sl ([.ref h0, .int x1, .int x2])).length) Slot.unset).toArray = ls at hl ⊢
  have hl : lv_has ls 4 [(0, .ref h0), (1, .int x1), (2, .int x2)] := hl
  refine lv_aload_n hx hb dX2_negate_0 rfl (lv_at hl 0 rfl) ?_
  refine lv_iload_n hx hb dX2_negate_1 rfl (lv_at hl 1 rfl) ?_
  refine lv_iload_n hx hb dX2_negate_2 rfl (lv_at hl 2 rfl) ?_
  refine rr_ri (va_runV (As := [.int x1, .int x2]) (rest := []) ⟨hx, hb, hml, hown, hts⟩ (c_X2_isRange l D h0 qT s.heap.size cA f n t lo hi x1 x2 hn hk) (cwV 2 hts gX2_negate_X2_isRange rfl rfl rfl (by decide +kernel) ⟨Nat.le_of_ble_eq_true rfl, Nat.le_of_ble_eq_true rfl⟩) (rr_vR hK hP (va_recv hK hP (ci := 2) (q0 := 0) rfl rfl)) rfl rfl hl.1 rfl (lv_room (Nat.le_of_ble_eq_true rfl)) dX2_negate_3 ⟨Nat.le_of_ble_eq_true rfl, Nat.le_of_ble_eq_true rfl⟩) hS hA hP (fun r3 H locs e3 hP hS => ?_)
  by_cases b3 : rr_rg f n x1 x2 = true
  · rw [if_pos b3] at e3
    subst e3
    refine lv_if_ne (tgt := 11) hx hb dX2_negate_6 (by decide) (fun c6 => ?_) (fun c6 => ?_)
    · skip
      refine lv_aload_n hx hb dX2_negate_11 rfl (lv_at hl 0 rfl) ?_
      refine lv_iload_n hx hb dX2_negate_12 rfl (lv_at hl 2 rfl) ?_
      refine lv_i2l (v := x2.toInt64) hx hb dX2_negate_13 rfl ?_
      refine lv_lneg hx hb dX2_negate_14 ?_
      refine lv_iload_n hx hb dX2_negate_15 rfl (lv_at hl 1 rfl) ?_
      refine lv_i2l (v := x1.toInt64) hx hb dX2_negate_16 rfl ?_
      refine lv_lneg hx hb dX2_negate_17 ?_
      refine rr_wi (wr := []) [0, 1] [] (va_runV (As := [.long (-x2.toInt64), .long (-x1.toInt64)]) (rest := []) ⟨hx, hb, hml, hown, hts⟩ (c_X2_tell l D h0 qT H.size cA f n t lo hi (-x2.toInt64) (-x1.toInt64) hn (rr_leN (rr_rg_iff.mp b3).1)) (cwV 2 hts gX2_negate_X2_tell rfl rfl rfl (by decide +kernel) ⟨Nat.le_of_ble_eq_true rfl, Nat.le_of_ble_eq_true rfl⟩) (rr_vW hK hP hD (va_recv hK hP (ci := 2) (q0 := 0) rfl rfl)) rfl rfl hl.1 rfl (lv_room (Nat.le_of_ble_eq_true rfl)) dX2_negate_18 ⟨Nat.le_of_ble_eq_true rfl, Nat.le_of_ble_eq_true rfl⟩) hS hA hP hD rfl rfl (by decide) (by decide) (by decide) (fun _ => by simp only [rr_wx, rr_wm, List.map_cons, List.map_nil]) (fun r18 u18 H locs e18 hP hD hS => ?_)
      have hP : va_P D vwCl [(h0, .inr (2, [.ref qT, .int (nI n), .int (nI t), .int ((rr_tl f n (-x2.toInt64) (-x1.toInt64)).1), .int ((rr_tl f n (-x2.toInt64) (-x1.toInt64)).2)])), (qT, .inl (cA, 187, .inl f))] H := hP
      have hD : va_D A [(h0, .inr (2, [.ref qT, .int (nI n), .int (nI t), .int ((rr_tl f n (-x2.toInt64) (-x1.toInt64)).1), .int ((rr_tl f n (-x2.toInt64) (-x1.toInt64)).2)])), (qT, .inl (cA, 187, .inl f))] := hD
      subst e18
      refine lv_istore_n (lv' := [(3, .int 1), (0, .ref h0), (1, .int x1), (2, .int x2)]) hx hb dX2_negate_21 rfl hl (by decide) rfl (fun ls hl => ?_)
      refine lv_iload_n hx hb dX2_negate_22 rfl (lv_at hl 0 rfl) ?_
      refine lv_iconst (v := 1) hx hb dX2_negate_23 (by decide) ?_
      refine lv_icmp_ne (tgt := 31) hx hb dX2_negate_24 (by decide) (fun c24 => ?_) (fun c24 => ?_)
      · skip
        exact absurd c24 (by decide)
      · skip
        refine lv_iconst (v := 1) hx hb dX2_negate_27 (by decide) ?_
        refine lv_goto (tgt := 32) hx hb dX2_negate_28 (by decide) ?_
        have ee : (rr_ng f n lo hi x1 x2) = (1, rr_tl f n (-x2.toInt64) (-x1.toInt64)) := if_pos b3
        exact W.zret (v := 1) hx hb hr rfl (fun tt ht hW => ⟨⟨_, (), rfl, by rw [ee], by dsimp only; rw [ht, ee]; exact hP⟩, hS.F ht⟩) hS.2.2 dX2_negate_32
    · skip
      exact absurd c6 (by decide)
  · rw [if_neg b3] at e3
    subst e3
    refine lv_if_ne (tgt := 11) hx hb dX2_negate_6 (by decide) (fun c6 => ?_) (fun c6 => ?_)
    · skip
      exact absurd c6 (by decide)
    · skip
      refine lv_iconst (v := 0) hx hb dX2_negate_9 (by decide) ?_
      have ee : (rr_ng f n lo hi x1 x2) = (0, lo, hi) := if_neg b3
      exact W.zret (v := 0) hx hb hr rfl (fun tt ht hW => ⟨⟨_, (), rfl, by rw [ee], by dsimp only; rw [ht, ee]; exact hP⟩, hS.F ht⟩) hS.2.2 dX2_negate_10
set_option maxHeartbeats 1000000 in
set_option maxRecDepth 100000 in
/-- rest -/
theorem c_X2_rest (l : Launch) (D : va_G) (h0 qT sz : Nat) (cA : ClassId) (f : Nat → Int32) (n t : Nat) (lo hi : Int32) (x1 x2 x3 x4 : Int32) (hn : n ≤ 187) (hlh : x1 ≤ x2) : Met l yX2_rest wsX2_rest ({ frames := 3, cells := 0, slots := 0, locals := 68 }) (rr_pW D (rr_wm h0 qT cA f n t lo hi) [(cA, .int)] [.ref h0, .int x1, .int x2, .long x3.toInt64, .long x4.toInt64] sz) (va_Qi (fun r (_ : Unit) => r = (if x3 = 0 ∧ x4 = 0 then ((0 : Int32), lo, hi) else ((1 : Int32), rr_tl f n (rr_rs x1.toInt64 x2.toInt64 x3.toInt64 x4.toInt64).1 (rr_rs x1.toInt64 x2.toInt64 x3.toInt64 x4.toInt64).2)).1) (fun _ tt => va_P D vwCl (rr_wm h0 qT cA f n t (if x3 = 0 ∧ x4 = 0 then ((0 : Int32), lo, hi) else ((1 : Int32), rr_tl f n (rr_rs x1.toInt64 x2.toInt64 x3.toInt64 x4.toInt64).1 (rr_rs x1.toInt64 x2.toInt64 x3.toInt64 x4.toInt64).2)).2.1 (if x3 = 0 ∧ x4 = 0 then ((0 : Int32), lo, hi) else ((1 : Int32), rr_tl f n (rr_rs x1.toInt64 x2.toInt64 x3.toInt64 x4.toInt64).1 (rr_rs x1.toInt64 x2.toInt64 x3.toInt64 x4.toInt64).2)).2.2) tt.heap) (va_A (rr_wm h0 qT cA f n t lo hi) sz)) 0 0 (va_A (rr_wm h0 qT cA f n t lo hi) sz) := by
  refine Met.ofW (cc := cX2_rest) (maxL := 9) (ret := (some .int)) (by decide) rfl ?_
  intro p e s m args below meth c s₁ B hml hv
  obtain ⟨rfl, hsz, hP, hK, hD0⟩ := hv
  have hx := B.exec
  have hb := B.bytes
  have hr := B.returns
  have hts := atoms_spec (ws := wsX2_rest) B.pre
  have hown : s.vm.findClass RX2 = some m.cls := findClass_of_methodNamed B.named
  have hlocks := B.notSynchronized
  subst hsz
  have hD := hD0.self (sz := s.heap.size)
  generalize hAe : va_A [(h0, .inr (2, [.ref qT, .int (nI n), .int (nI t), .int lo, .int hi])), (qT, .inl (cA, 187, .inl f))] s.heap.size = A at hD ⊢
  have hA : ∀ q : Nat, s.heap.size ≤ q → A q := fun q h => by rw [← hAe]; exact Or.inr h
  have hS : va_S A s.heap s.heap [] := va_S.rf
  have hP : va_P D vwCl [(h0, .inr (2, [.ref qT, .int (nI n), .int (nI t), .int lo, .int hi])), (qT, .inl (cA, 187, .inl f))] s.heap := hP
  have hiX2 : ∀ w ∈ wsX20, w ∈ wsX2_rest := by decide +kernel
  have hl := lv_entry ([.ref h0, .int x1, .int x2, .long x3.toInt64, .long x4.toInt64]) (n := 9) (Nat.le_of_ble_eq_true rfl)
  rw [lg_entry_eq]
  generalize (lg_sl ([.ref h0, .int x1, .int x2, .long x3.toInt64, .long x4.toInt64]) ++ List.replicate (9 - (lg_sl ([.ref h0, .int x1, .int x2, .long x3.toInt64, .long x4.toInt64])).length) Slot.unset).toArray = ls at hl ⊢
  have hl : lv_has ls 9 [(0, .ref h0), (1, .int x1), (2, .int x2), (3, .long x3.toInt64), (5, .long x4.toInt64)] := hl
  refine lv_lload_n hx hb dX2_rest_0 rfl (lv_at hl 3 rfl) ?_
  refine lv_lconst (v := 0) hx hb dX2_rest_1 (by decide) ?_
  refine W.lcmp hx hb dX2_rest_2 ?_
  refine lv_if_ne (tgt := 15) hx hb dX2_rest_3 (by decide) (fun c3 => ?_) (fun c3 => ?_)
  · skip
    have hz : ¬ (x3 = 0 ∧ x4 = 0) := (fun z => c3 ((lg_cmp_eq _ _).mpr (rr_z64.mpr z.1)))
    refine lv_lload_n hx hb dX2_rest_15 rfl (lv_at hl 3 rfl) ?_
    refine va_mabs_long hx hb (hml.trans hl.1.symm) hown (hts (.methodLink RX2 100 Lib.MathLoose.abs_long.x) (by decide +kernel)) (hts (.static Lib.MathLoose.abs_long.x) (by decide +kernel)) (hts (.initialized "java/lang/Math") (by decide +kernel)) (hts (.code Lib.MathLoose.abs_long.x Lib.MathLoose.abs_long.code 2 (some .long)) (by decide +kernel)) (Nat.le_of_ble_eq_true rfl) (Nat.le_of_ble_eq_true rfl) (Nat.le_of_ble_eq_true rfl) (Nat.le_of_ble_eq_true rfl) dX2_rest_16 ?_
    refine W.eq (g2 := F0 m 19 ls [.long (rr_ab x3.toInt64)]) rfl ?_
    refine lv_lload hx hb dX2_rest_19 (lv_at hl 4 rfl) ?_
    refine va_mabs_long hx hb (hml.trans hl.1.symm) hown (hts (.methodLink RX2 100 Lib.MathLoose.abs_long.x) (by decide +kernel)) (hts (.static Lib.MathLoose.abs_long.x) (by decide +kernel)) (hts (.initialized "java/lang/Math") (by decide +kernel)) (hts (.code Lib.MathLoose.abs_long.x Lib.MathLoose.abs_long.code 2 (some .long)) (by decide +kernel)) (Nat.le_of_ble_eq_true rfl) (Nat.le_of_ble_eq_true rfl) (Nat.le_of_ble_eq_true rfl) (Nat.le_of_ble_eq_true rfl) dX2_rest_21 ?_
    refine W.eq (g2 := F0 m 24 ls [.long (rr_ab x4.toInt64), .long (rr_ab x3.toInt64)]) rfl ?_
    refine va_mmax_long hx hb (hml.trans hl.1.symm) hown (hts (.methodLink RX2 66 Lib.MathLoose.max_long.x) (by decide +kernel)) (hts (.static Lib.MathLoose.max_long.x) (by decide +kernel)) (hts (.initialized "java/lang/Math") (by decide +kernel)) (hts (.code Lib.MathLoose.max_long.x Lib.MathLoose.max_long.code 4 (some .long)) (by decide +kernel)) (Nat.le_of_ble_eq_true rfl) (Nat.le_of_ble_eq_true rfl) (Nat.le_of_ble_eq_true rfl) (Nat.le_of_ble_eq_true rfl) dX2_rest_24 ?_
    refine W.eq (g2 := F0 m 27 ls [.long (rr_mx (rr_ab x3.toInt64) (rr_ab x4.toInt64))]) rfl ?_
    refine lv_lconst (v := 1) hx hb dX2_rest_27 (by decide) ?_
    refine lv_lsub hx hb dX2_rest_28 ?_
    refine lv_lstore (lv' := [(7, .long ((rr_mx (rr_ab x3.toInt64) (rr_ab x4.toInt64)) - 1)), (0, .ref h0), (1, .int x1), (2, .int x2), (3, .long x3.toInt64), (5, .long x4.toInt64)]) hx hb dX2_rest_29 hl (by decide) rfl (fun ls hl => ?_)
    refine lv_iload_n hx hb dX2_rest_31 rfl (lv_at hl 2 rfl) ?_
    refine lv_if_lt (tgt := 48) hx hb dX2_rest_32 (by decide) (fun c32 => ?_) (fun c32 => ?_)
    · skip
      refine lv_aload_n hx hb dX2_rest_48 rfl (lv_at hl 1 rfl) ?_
      refine lv_iload_n hx hb dX2_rest_49 rfl (lv_at hl 2 rfl) ?_
      refine lv_i2l (v := x1.toInt64) hx hb dX2_rest_50 rfl ?_
      refine lv_lload hx hb dX2_rest_51 (lv_at hl 0 rfl) ?_
      refine lv_lneg hx hb dX2_rest_53 ?_
      refine va_mmax_long hx hb (hml.trans hl.1.symm) hown (hts (.methodLink RX2 66 Lib.MathLoose.max_long.x) (by decide +kernel)) (hts (.static Lib.MathLoose.max_long.x) (by decide +kernel)) (hts (.initialized "java/lang/Math") (by decide +kernel)) (hts (.code Lib.MathLoose.max_long.x Lib.MathLoose.max_long.code 4 (some .long)) (by decide +kernel)) (Nat.le_of_ble_eq_true rfl) (Nat.le_of_ble_eq_true rfl) (Nat.le_of_ble_eq_true rfl) (Nat.le_of_ble_eq_true rfl) dX2_rest_54 ?_
      refine W.eq (g2 := F0 m 57 ls [.long (rr_mx x1.toInt64 (-((rr_mx (rr_ab x3.toInt64) (rr_ab x4.toInt64)) - 1))), .ref h0]) rfl ?_
      refine lv_iload_n hx hb dX2_rest_57 rfl (lv_at hl 3 rfl) ?_
      refine lv_if_gt (tgt := 65) hx hb dX2_rest_58 (by decide) (fun c58 => ?_) (fun c58 => ?_)
      · skip
        refine lv_iload_n hx hb dX2_rest_65 rfl (lv_at hl 3 rfl) ?_
        refine lv_i2l (v := x2.toInt64) hx hb dX2_rest_66 rfl ?_
        refine lv_lload hx hb dX2_rest_67 (lv_at hl 0 rfl) ?_
        refine va_mmin_long hx hb (hml.trans hl.1.symm) hown (hts (.methodLink RX2 63 Lib.MathLoose.min_long.x) (by decide +kernel)) (hts (.static Lib.MathLoose.min_long.x) (by decide +kernel)) (hts (.initialized "java/lang/Math") (by decide +kernel)) (hts (.code Lib.MathLoose.min_long.x Lib.MathLoose.min_long.code 4 (some .long)) (by decide +kernel)) (Nat.le_of_ble_eq_true rfl) (Nat.le_of_ble_eq_true rfl) (Nat.le_of_ble_eq_true rfl) (Nat.le_of_ble_eq_true rfl) dX2_rest_69 ?_
        refine W.eq (g2 := F0 m 72 ls [.long (rr_mn x2.toInt64 ((rr_mx (rr_ab x3.toInt64) (rr_ab x4.toInt64)) - 1)), .long (rr_mx x1.toInt64 (-((rr_mx (rr_ab x3.toInt64) (rr_ab x4.toInt64)) - 1))), .ref h0]) rfl ?_
        have er : (rr_rs x1.toInt64 x2.toInt64 x3.toInt64 x4.toInt64) = (rr_mx x1.toInt64 (-(rr_mx (rr_ab x3.toInt64) (rr_ab x4.toInt64) - 1)), rr_mn x2.toInt64 (rr_mx (rr_ab x3.toInt64) (rr_ab x4.toInt64) - 1)) := (if_neg (fun z => rr_ge64.mp z c32)).trans (if_neg (fun z => rr_le64.mp z c58))
        have hz2 := rr_le4 hlh hz
        rw [er] at hz2
        refine rr_wi (wr := []) [0, 1] [] (va_runV (As := [.long (rr_mx x1.toInt64 (-((rr_mx (rr_ab x3.toInt64) (rr_ab x4.toInt64)) - 1))), .long (rr_mn x2.toInt64 ((rr_mx (rr_ab x3.toInt64) (rr_ab x4.toInt64)) - 1))]) (rest := []) ⟨hx, hb, hml, hown, hts⟩ (c_X2_tell l D h0 qT s.heap.size cA f n t lo hi (rr_mx x1.toInt64 (-((rr_mx (rr_ab x3.toInt64) (rr_ab x4.toInt64)) - 1))) (rr_mn x2.toInt64 ((rr_mx (rr_ab x3.toInt64) (rr_ab x4.toInt64)) - 1)) hn hz2) (cwV 2 hts gX2_rest_X2_tell rfl rfl rfl (by decide +kernel) ⟨Nat.le_of_ble_eq_true rfl, Nat.le_of_ble_eq_true rfl⟩) (rr_vW hK hP hD (va_recv hK hP (ci := 2) (q0 := 0) rfl rfl)) rfl rfl hl.1 rfl (lv_room (Nat.le_of_ble_eq_true rfl)) dX2_rest_72 ⟨Nat.le_of_ble_eq_true rfl, Nat.le_of_ble_eq_true rfl⟩) hS hA hP hD rfl rfl (by decide) (by decide) (by decide) (fun _ => by simp only [rr_wx, rr_wm, List.map_cons, List.map_nil]) (fun r72 u72 H locs e72 hP hD hS => ?_)
        have hP : va_P D vwCl [(h0, .inr (2, [.ref qT, .int (nI n), .int (nI t), .int ((rr_tl f n (rr_mx x1.toInt64 (-((rr_mx (rr_ab x3.toInt64) (rr_ab x4.toInt64)) - 1))) (rr_mn x2.toInt64 ((rr_mx (rr_ab x3.toInt64) (rr_ab x4.toInt64)) - 1))).1), .int ((rr_tl f n (rr_mx x1.toInt64 (-((rr_mx (rr_ab x3.toInt64) (rr_ab x4.toInt64)) - 1))) (rr_mn x2.toInt64 ((rr_mx (rr_ab x3.toInt64) (rr_ab x4.toInt64)) - 1))).2)])), (qT, .inl (cA, 187, .inl f))] H := hP
        have hD : va_D A [(h0, .inr (2, [.ref qT, .int (nI n), .int (nI t), .int ((rr_tl f n (rr_mx x1.toInt64 (-((rr_mx (rr_ab x3.toInt64) (rr_ab x4.toInt64)) - 1))) (rr_mn x2.toInt64 ((rr_mx (rr_ab x3.toInt64) (rr_ab x4.toInt64)) - 1))).1), .int ((rr_tl f n (rr_mx x1.toInt64 (-((rr_mx (rr_ab x3.toInt64) (rr_ab x4.toInt64)) - 1))) (rr_mn x2.toInt64 ((rr_mx (rr_ab x3.toInt64) (rr_ab x4.toInt64)) - 1))).2)])), (qT, .inl (cA, 187, .inl f))] := hD
        subst e72
        have ee : (if x3 = 0 ∧ x4 = 0 then ((0 : Int32), lo, hi) else ((1 : Int32), rr_tl f n (rr_rs x1.toInt64 x2.toInt64 x3.toInt64 x4.toInt64).1 (rr_rs x1.toInt64 x2.toInt64 x3.toInt64 x4.toInt64).2)) = ((1 : Int32), rr_tl f n (rr_rs x1.toInt64 x2.toInt64 x3.toInt64 x4.toInt64).1 (rr_rs x1.toInt64 x2.toInt64 x3.toInt64 x4.toInt64).2) := if_neg hz
        rw [er] at ee
        exact W.iret (v := 1) hx hb hr (fun tt ht hW => ⟨⟨_, (), rfl, by rw [er, ee], by dsimp only; rw [ht, er, ee]; exact hP⟩, hS.F ht⟩) hS.2.2 dX2_rest_75
      · skip
        refine lv_lconst (v := 0) hx hb dX2_rest_61 (by decide) ?_
        refine lv_goto (tgt := 72) hx hb dX2_rest_62 (by decide) ?_
        have er : (rr_rs x1.toInt64 x2.toInt64 x3.toInt64 x4.toInt64) = (rr_mx x1.toInt64 (-(rr_mx (rr_ab x3.toInt64) (rr_ab x4.toInt64) - 1)), 0) := (if_neg (fun z => rr_ge64.mp z c32)).trans (if_pos (rr_le64.mpr c58))
        have hz2 := rr_le4 hlh hz
        rw [er] at hz2
        refine rr_wi (wr := []) [0, 1] [] (va_runV (As := [.long (rr_mx x1.toInt64 (-((rr_mx (rr_ab x3.toInt64) (rr_ab x4.toInt64)) - 1))), .long 0]) (rest := []) ⟨hx, hb, hml, hown, hts⟩ (c_X2_tell l D h0 qT s.heap.size cA f n t lo hi (rr_mx x1.toInt64 (-((rr_mx (rr_ab x3.toInt64) (rr_ab x4.toInt64)) - 1))) 0 hn hz2) (cwV 2 hts gX2_rest_X2_tell rfl rfl rfl (by decide +kernel) ⟨Nat.le_of_ble_eq_true rfl, Nat.le_of_ble_eq_true rfl⟩) (rr_vW hK hP hD (va_recv hK hP (ci := 2) (q0 := 0) rfl rfl)) rfl rfl hl.1 rfl (lv_room (Nat.le_of_ble_eq_true rfl)) dX2_rest_72 ⟨Nat.le_of_ble_eq_true rfl, Nat.le_of_ble_eq_true rfl⟩) hS hA hP hD rfl rfl (by decide) (by decide) (by decide) (fun _ => by simp only [rr_wx, rr_wm, List.map_cons, List.map_nil]) (fun r72 u72 H locs e72 hP hD hS => ?_)
        have hP : va_P D vwCl [(h0, .inr (2, [.ref qT, .int (nI n), .int (nI t), .int ((rr_tl f n (rr_mx x1.toInt64 (-((rr_mx (rr_ab x3.toInt64) (rr_ab x4.toInt64)) - 1))) 0).1), .int ((rr_tl f n (rr_mx x1.toInt64 (-((rr_mx (rr_ab x3.toInt64) (rr_ab x4.toInt64)) - 1))) 0).2)])), (qT, .inl (cA, 187, .inl f))] H := hP
        have hD : va_D A [(h0, .inr (2, [.ref qT, .int (nI n), .int (nI t), .int ((rr_tl f n (rr_mx x1.toInt64 (-((rr_mx (rr_ab x3.toInt64) (rr_ab x4.toInt64)) - 1))) 0).1), .int ((rr_tl f n (rr_mx x1.toInt64 (-((rr_mx (rr_ab x3.toInt64) (rr_ab x4.toInt64)) - 1))) 0).2)])), (qT, .inl (cA, 187, .inl f))] := hD
        subst e72
        have ee : (if x3 = 0 ∧ x4 = 0 then ((0 : Int32), lo, hi) else ((1 : Int32), rr_tl f n (rr_rs x1.toInt64 x2.toInt64 x3.toInt64 x4.toInt64).1 (rr_rs x1.toInt64 x2.toInt64 x3.toInt64 x4.toInt64).2)) = ((1 : Int32), rr_tl f n (rr_rs x1.toInt64 x2.toInt64 x3.toInt64 x4.toInt64).1 (rr_rs x1.toInt64 x2.toInt64 x3.toInt64 x4.toInt64).2) := if_neg hz
        rw [er] at ee
        exact W.iret (v := 1) hx hb hr (fun tt ht hW => ⟨⟨_, (), rfl, by rw [er, ee], by dsimp only; rw [ht, er, ee]; exact hP⟩, hS.F ht⟩) hS.2.2 dX2_rest_75
    · skip
      refine lv_aload_n hx hb dX2_rest_35 rfl (lv_at hl 1 rfl) ?_
      refine lv_lconst (v := 0) hx hb dX2_rest_36 (by decide) ?_
      refine lv_iload_n hx hb dX2_rest_37 rfl (lv_at hl 3 rfl) ?_
      refine lv_i2l (v := x2.toInt64) hx hb dX2_rest_38 rfl ?_
      refine lv_lload hx hb dX2_rest_39 (lv_at hl 0 rfl) ?_
      refine va_mmin_long hx hb (hml.trans hl.1.symm) hown (hts (.methodLink RX2 63 Lib.MathLoose.min_long.x) (by decide +kernel)) (hts (.static Lib.MathLoose.min_long.x) (by decide +kernel)) (hts (.initialized "java/lang/Math") (by decide +kernel)) (hts (.code Lib.MathLoose.min_long.x Lib.MathLoose.min_long.code 4 (some .long)) (by decide +kernel)) (Nat.le_of_ble_eq_true rfl) (Nat.le_of_ble_eq_true rfl) (Nat.le_of_ble_eq_true rfl) (Nat.le_of_ble_eq_true rfl) dX2_rest_41 ?_
      refine W.eq (g2 := F0 m 44 ls [.long (rr_mn x2.toInt64 ((rr_mx (rr_ab x3.toInt64) (rr_ab x4.toInt64)) - 1)), .long 0, .ref h0]) rfl ?_
      have er : (rr_rs x1.toInt64 x2.toInt64 x3.toInt64 x4.toInt64) = (0, rr_mn x2.toInt64 (rr_mx (rr_ab x3.toInt64) (rr_ab x4.toInt64) - 1)) := if_pos (rr_ge64.mpr c32)
      have hz2 := rr_le4 hlh hz
      rw [er] at hz2
      refine rr_wi (wr := []) [0, 1] [] (va_runV (As := [.long 0, .long (rr_mn x2.toInt64 ((rr_mx (rr_ab x3.toInt64) (rr_ab x4.toInt64)) - 1))]) (rest := []) ⟨hx, hb, hml, hown, hts⟩ (c_X2_tell l D h0 qT s.heap.size cA f n t lo hi 0 (rr_mn x2.toInt64 ((rr_mx (rr_ab x3.toInt64) (rr_ab x4.toInt64)) - 1)) hn hz2) (cwV 2 hts gX2_rest_X2_tell rfl rfl rfl (by decide +kernel) ⟨Nat.le_of_ble_eq_true rfl, Nat.le_of_ble_eq_true rfl⟩) (rr_vW hK hP hD (va_recv hK hP (ci := 2) (q0 := 0) rfl rfl)) rfl rfl hl.1 rfl (lv_room (Nat.le_of_ble_eq_true rfl)) dX2_rest_44 ⟨Nat.le_of_ble_eq_true rfl, Nat.le_of_ble_eq_true rfl⟩) hS hA hP hD rfl rfl (by decide) (by decide) (by decide) (fun _ => by simp only [rr_wx, rr_wm, List.map_cons, List.map_nil]) (fun r44 u44 H locs e44 hP hD hS => ?_)
      have hP : va_P D vwCl [(h0, .inr (2, [.ref qT, .int (nI n), .int (nI t), .int ((rr_tl f n 0 (rr_mn x2.toInt64 ((rr_mx (rr_ab x3.toInt64) (rr_ab x4.toInt64)) - 1))).1), .int ((rr_tl f n 0 (rr_mn x2.toInt64 ((rr_mx (rr_ab x3.toInt64) (rr_ab x4.toInt64)) - 1))).2)])), (qT, .inl (cA, 187, .inl f))] H := hP
      have hD : va_D A [(h0, .inr (2, [.ref qT, .int (nI n), .int (nI t), .int ((rr_tl f n 0 (rr_mn x2.toInt64 ((rr_mx (rr_ab x3.toInt64) (rr_ab x4.toInt64)) - 1))).1), .int ((rr_tl f n 0 (rr_mn x2.toInt64 ((rr_mx (rr_ab x3.toInt64) (rr_ab x4.toInt64)) - 1))).2)])), (qT, .inl (cA, 187, .inl f))] := hD
      subst e44
      have ee : (if x3 = 0 ∧ x4 = 0 then ((0 : Int32), lo, hi) else ((1 : Int32), rr_tl f n (rr_rs x1.toInt64 x2.toInt64 x3.toInt64 x4.toInt64).1 (rr_rs x1.toInt64 x2.toInt64 x3.toInt64 x4.toInt64).2)) = ((1 : Int32), rr_tl f n (rr_rs x1.toInt64 x2.toInt64 x3.toInt64 x4.toInt64).1 (rr_rs x1.toInt64 x2.toInt64 x3.toInt64 x4.toInt64).2) := if_neg hz
      rw [er] at ee
      exact W.iret (v := 1) hx hb hr (fun tt ht hW => ⟨⟨_, (), rfl, by rw [er, ee], by dsimp only; rw [ht, er, ee]; exact hP⟩, hS.F ht⟩) hS.2.2 dX2_rest_47
  · skip
    refine lv_lload hx hb dX2_rest_6 (lv_at hl 4 rfl) ?_
    refine lv_lconst (v := 0) hx hb dX2_rest_8 (by decide) ?_
    refine W.lcmp hx hb dX2_rest_9 ?_
    refine lv_if_ne (tgt := 15) hx hb dX2_rest_10 (by decide) (fun c10 => ?_) (fun c10 => ?_)
    · skip
      have hz : ¬ (x3 = 0 ∧ x4 = 0) := (fun z => c10 ((lg_cmp_eq _ _).mpr (rr_z64.mpr z.2)))
      refine lv_lload_n hx hb dX2_rest_15 rfl (lv_at hl 3 rfl) ?_
      refine va_mabs_long hx hb (hml.trans hl.1.symm) hown (hts (.methodLink RX2 100 Lib.MathLoose.abs_long.x) (by decide +kernel)) (hts (.static Lib.MathLoose.abs_long.x) (by decide +kernel)) (hts (.initialized "java/lang/Math") (by decide +kernel)) (hts (.code Lib.MathLoose.abs_long.x Lib.MathLoose.abs_long.code 2 (some .long)) (by decide +kernel)) (Nat.le_of_ble_eq_true rfl) (Nat.le_of_ble_eq_true rfl) (Nat.le_of_ble_eq_true rfl) (Nat.le_of_ble_eq_true rfl) dX2_rest_16 ?_
      refine W.eq (g2 := F0 m 19 ls [.long (rr_ab x3.toInt64)]) rfl ?_
      refine lv_lload hx hb dX2_rest_19 (lv_at hl 4 rfl) ?_
      refine va_mabs_long hx hb (hml.trans hl.1.symm) hown (hts (.methodLink RX2 100 Lib.MathLoose.abs_long.x) (by decide +kernel)) (hts (.static Lib.MathLoose.abs_long.x) (by decide +kernel)) (hts (.initialized "java/lang/Math") (by decide +kernel)) (hts (.code Lib.MathLoose.abs_long.x Lib.MathLoose.abs_long.code 2 (some .long)) (by decide +kernel)) (Nat.le_of_ble_eq_true rfl) (Nat.le_of_ble_eq_true rfl) (Nat.le_of_ble_eq_true rfl) (Nat.le_of_ble_eq_true rfl) dX2_rest_21 ?_
      refine W.eq (g2 := F0 m 24 ls [.long (rr_ab x4.toInt64), .long (rr_ab x3.toInt64)]) rfl ?_
      refine va_mmax_long hx hb (hml.trans hl.1.symm) hown (hts (.methodLink RX2 66 Lib.MathLoose.max_long.x) (by decide +kernel)) (hts (.static Lib.MathLoose.max_long.x) (by decide +kernel)) (hts (.initialized "java/lang/Math") (by decide +kernel)) (hts (.code Lib.MathLoose.max_long.x Lib.MathLoose.max_long.code 4 (some .long)) (by decide +kernel)) (Nat.le_of_ble_eq_true rfl) (Nat.le_of_ble_eq_true rfl) (Nat.le_of_ble_eq_true rfl) (Nat.le_of_ble_eq_true rfl) dX2_rest_24 ?_
      refine W.eq (g2 := F0 m 27 ls [.long (rr_mx (rr_ab x3.toInt64) (rr_ab x4.toInt64))]) rfl ?_
      refine lv_lconst (v := 1) hx hb dX2_rest_27 (by decide) ?_
      refine lv_lsub hx hb dX2_rest_28 ?_
      refine lv_lstore (lv' := [(7, .long ((rr_mx (rr_ab x3.toInt64) (rr_ab x4.toInt64)) - 1)), (0, .ref h0), (1, .int x1), (2, .int x2), (3, .long x3.toInt64), (5, .long x4.toInt64)]) hx hb dX2_rest_29 hl (by decide) rfl (fun ls hl => ?_)
      refine lv_iload_n hx hb dX2_rest_31 rfl (lv_at hl 2 rfl) ?_
      refine lv_if_lt (tgt := 48) hx hb dX2_rest_32 (by decide) (fun c32 => ?_) (fun c32 => ?_)
      · skip
        refine lv_aload_n hx hb dX2_rest_48 rfl (lv_at hl 1 rfl) ?_
        refine lv_iload_n hx hb dX2_rest_49 rfl (lv_at hl 2 rfl) ?_
        refine lv_i2l (v := x1.toInt64) hx hb dX2_rest_50 rfl ?_
        refine lv_lload hx hb dX2_rest_51 (lv_at hl 0 rfl) ?_
        refine lv_lneg hx hb dX2_rest_53 ?_
        refine va_mmax_long hx hb (hml.trans hl.1.symm) hown (hts (.methodLink RX2 66 Lib.MathLoose.max_long.x) (by decide +kernel)) (hts (.static Lib.MathLoose.max_long.x) (by decide +kernel)) (hts (.initialized "java/lang/Math") (by decide +kernel)) (hts (.code Lib.MathLoose.max_long.x Lib.MathLoose.max_long.code 4 (some .long)) (by decide +kernel)) (Nat.le_of_ble_eq_true rfl) (Nat.le_of_ble_eq_true rfl) (Nat.le_of_ble_eq_true rfl) (Nat.le_of_ble_eq_true rfl) dX2_rest_54 ?_
        refine W.eq (g2 := F0 m 57 ls [.long (rr_mx x1.toInt64 (-((rr_mx (rr_ab x3.toInt64) (rr_ab x4.toInt64)) - 1))), .ref h0]) rfl ?_
        refine lv_iload_n hx hb dX2_rest_57 rfl (lv_at hl 3 rfl) ?_
        refine lv_if_gt (tgt := 65) hx hb dX2_rest_58 (by decide) (fun c58 => ?_) (fun c58 => ?_)
        · skip
          refine lv_iload_n hx hb dX2_rest_65 rfl (lv_at hl 3 rfl) ?_
          refine lv_i2l (v := x2.toInt64) hx hb dX2_rest_66 rfl ?_
          refine lv_lload hx hb dX2_rest_67 (lv_at hl 0 rfl) ?_
          refine va_mmin_long hx hb (hml.trans hl.1.symm) hown (hts (.methodLink RX2 63 Lib.MathLoose.min_long.x) (by decide +kernel)) (hts (.static Lib.MathLoose.min_long.x) (by decide +kernel)) (hts (.initialized "java/lang/Math") (by decide +kernel)) (hts (.code Lib.MathLoose.min_long.x Lib.MathLoose.min_long.code 4 (some .long)) (by decide +kernel)) (Nat.le_of_ble_eq_true rfl) (Nat.le_of_ble_eq_true rfl) (Nat.le_of_ble_eq_true rfl) (Nat.le_of_ble_eq_true rfl) dX2_rest_69 ?_
          refine W.eq (g2 := F0 m 72 ls [.long (rr_mn x2.toInt64 ((rr_mx (rr_ab x3.toInt64) (rr_ab x4.toInt64)) - 1)), .long (rr_mx x1.toInt64 (-((rr_mx (rr_ab x3.toInt64) (rr_ab x4.toInt64)) - 1))), .ref h0]) rfl ?_
          have er : (rr_rs x1.toInt64 x2.toInt64 x3.toInt64 x4.toInt64) = (rr_mx x1.toInt64 (-(rr_mx (rr_ab x3.toInt64) (rr_ab x4.toInt64) - 1)), rr_mn x2.toInt64 (rr_mx (rr_ab x3.toInt64) (rr_ab x4.toInt64) - 1)) := (if_neg (fun z => rr_ge64.mp z c32)).trans (if_neg (fun z => rr_le64.mp z c58))
          have hz2 := rr_le4 hlh hz
          rw [er] at hz2
          refine rr_wi (wr := []) [0, 1] [] (va_runV (As := [.long (rr_mx x1.toInt64 (-((rr_mx (rr_ab x3.toInt64) (rr_ab x4.toInt64)) - 1))), .long (rr_mn x2.toInt64 ((rr_mx (rr_ab x3.toInt64) (rr_ab x4.toInt64)) - 1))]) (rest := []) ⟨hx, hb, hml, hown, hts⟩ (c_X2_tell l D h0 qT s.heap.size cA f n t lo hi (rr_mx x1.toInt64 (-((rr_mx (rr_ab x3.toInt64) (rr_ab x4.toInt64)) - 1))) (rr_mn x2.toInt64 ((rr_mx (rr_ab x3.toInt64) (rr_ab x4.toInt64)) - 1)) hn hz2) (cwV 2 hts gX2_rest_X2_tell rfl rfl rfl (by decide +kernel) ⟨Nat.le_of_ble_eq_true rfl, Nat.le_of_ble_eq_true rfl⟩) (rr_vW hK hP hD (va_recv hK hP (ci := 2) (q0 := 0) rfl rfl)) rfl rfl hl.1 rfl (lv_room (Nat.le_of_ble_eq_true rfl)) dX2_rest_72 ⟨Nat.le_of_ble_eq_true rfl, Nat.le_of_ble_eq_true rfl⟩) hS hA hP hD rfl rfl (by decide) (by decide) (by decide) (fun _ => by simp only [rr_wx, rr_wm, List.map_cons, List.map_nil]) (fun r72 u72 H locs e72 hP hD hS => ?_)
          have hP : va_P D vwCl [(h0, .inr (2, [.ref qT, .int (nI n), .int (nI t), .int ((rr_tl f n (rr_mx x1.toInt64 (-((rr_mx (rr_ab x3.toInt64) (rr_ab x4.toInt64)) - 1))) (rr_mn x2.toInt64 ((rr_mx (rr_ab x3.toInt64) (rr_ab x4.toInt64)) - 1))).1), .int ((rr_tl f n (rr_mx x1.toInt64 (-((rr_mx (rr_ab x3.toInt64) (rr_ab x4.toInt64)) - 1))) (rr_mn x2.toInt64 ((rr_mx (rr_ab x3.toInt64) (rr_ab x4.toInt64)) - 1))).2)])), (qT, .inl (cA, 187, .inl f))] H := hP
          have hD : va_D A [(h0, .inr (2, [.ref qT, .int (nI n), .int (nI t), .int ((rr_tl f n (rr_mx x1.toInt64 (-((rr_mx (rr_ab x3.toInt64) (rr_ab x4.toInt64)) - 1))) (rr_mn x2.toInt64 ((rr_mx (rr_ab x3.toInt64) (rr_ab x4.toInt64)) - 1))).1), .int ((rr_tl f n (rr_mx x1.toInt64 (-((rr_mx (rr_ab x3.toInt64) (rr_ab x4.toInt64)) - 1))) (rr_mn x2.toInt64 ((rr_mx (rr_ab x3.toInt64) (rr_ab x4.toInt64)) - 1))).2)])), (qT, .inl (cA, 187, .inl f))] := hD
          subst e72
          have ee : (if x3 = 0 ∧ x4 = 0 then ((0 : Int32), lo, hi) else ((1 : Int32), rr_tl f n (rr_rs x1.toInt64 x2.toInt64 x3.toInt64 x4.toInt64).1 (rr_rs x1.toInt64 x2.toInt64 x3.toInt64 x4.toInt64).2)) = ((1 : Int32), rr_tl f n (rr_rs x1.toInt64 x2.toInt64 x3.toInt64 x4.toInt64).1 (rr_rs x1.toInt64 x2.toInt64 x3.toInt64 x4.toInt64).2) := if_neg hz
          rw [er] at ee
          exact W.iret (v := 1) hx hb hr (fun tt ht hW => ⟨⟨_, (), rfl, by rw [er, ee], by dsimp only; rw [ht, er, ee]; exact hP⟩, hS.F ht⟩) hS.2.2 dX2_rest_75
        · skip
          refine lv_lconst (v := 0) hx hb dX2_rest_61 (by decide) ?_
          refine lv_goto (tgt := 72) hx hb dX2_rest_62 (by decide) ?_
          have er : (rr_rs x1.toInt64 x2.toInt64 x3.toInt64 x4.toInt64) = (rr_mx x1.toInt64 (-(rr_mx (rr_ab x3.toInt64) (rr_ab x4.toInt64) - 1)), 0) := (if_neg (fun z => rr_ge64.mp z c32)).trans (if_pos (rr_le64.mpr c58))
          have hz2 := rr_le4 hlh hz
          rw [er] at hz2
          refine rr_wi (wr := []) [0, 1] [] (va_runV (As := [.long (rr_mx x1.toInt64 (-((rr_mx (rr_ab x3.toInt64) (rr_ab x4.toInt64)) - 1))), .long 0]) (rest := []) ⟨hx, hb, hml, hown, hts⟩ (c_X2_tell l D h0 qT s.heap.size cA f n t lo hi (rr_mx x1.toInt64 (-((rr_mx (rr_ab x3.toInt64) (rr_ab x4.toInt64)) - 1))) 0 hn hz2) (cwV 2 hts gX2_rest_X2_tell rfl rfl rfl (by decide +kernel) ⟨Nat.le_of_ble_eq_true rfl, Nat.le_of_ble_eq_true rfl⟩) (rr_vW hK hP hD (va_recv hK hP (ci := 2) (q0 := 0) rfl rfl)) rfl rfl hl.1 rfl (lv_room (Nat.le_of_ble_eq_true rfl)) dX2_rest_72 ⟨Nat.le_of_ble_eq_true rfl, Nat.le_of_ble_eq_true rfl⟩) hS hA hP hD rfl rfl (by decide) (by decide) (by decide) (fun _ => by simp only [rr_wx, rr_wm, List.map_cons, List.map_nil]) (fun r72 u72 H locs e72 hP hD hS => ?_)
          have hP : va_P D vwCl [(h0, .inr (2, [.ref qT, .int (nI n), .int (nI t), .int ((rr_tl f n (rr_mx x1.toInt64 (-((rr_mx (rr_ab x3.toInt64) (rr_ab x4.toInt64)) - 1))) 0).1), .int ((rr_tl f n (rr_mx x1.toInt64 (-((rr_mx (rr_ab x3.toInt64) (rr_ab x4.toInt64)) - 1))) 0).2)])), (qT, .inl (cA, 187, .inl f))] H := hP
          have hD : va_D A [(h0, .inr (2, [.ref qT, .int (nI n), .int (nI t), .int ((rr_tl f n (rr_mx x1.toInt64 (-((rr_mx (rr_ab x3.toInt64) (rr_ab x4.toInt64)) - 1))) 0).1), .int ((rr_tl f n (rr_mx x1.toInt64 (-((rr_mx (rr_ab x3.toInt64) (rr_ab x4.toInt64)) - 1))) 0).2)])), (qT, .inl (cA, 187, .inl f))] := hD
          subst e72
          have ee : (if x3 = 0 ∧ x4 = 0 then ((0 : Int32), lo, hi) else ((1 : Int32), rr_tl f n (rr_rs x1.toInt64 x2.toInt64 x3.toInt64 x4.toInt64).1 (rr_rs x1.toInt64 x2.toInt64 x3.toInt64 x4.toInt64).2)) = ((1 : Int32), rr_tl f n (rr_rs x1.toInt64 x2.toInt64 x3.toInt64 x4.toInt64).1 (rr_rs x1.toInt64 x2.toInt64 x3.toInt64 x4.toInt64).2) := if_neg hz
          rw [er] at ee
          exact W.iret (v := 1) hx hb hr (fun tt ht hW => ⟨⟨_, (), rfl, by rw [er, ee], by dsimp only; rw [ht, er, ee]; exact hP⟩, hS.F ht⟩) hS.2.2 dX2_rest_75
      · skip
        refine lv_aload_n hx hb dX2_rest_35 rfl (lv_at hl 1 rfl) ?_
        refine lv_lconst (v := 0) hx hb dX2_rest_36 (by decide) ?_
        refine lv_iload_n hx hb dX2_rest_37 rfl (lv_at hl 3 rfl) ?_
        refine lv_i2l (v := x2.toInt64) hx hb dX2_rest_38 rfl ?_
        refine lv_lload hx hb dX2_rest_39 (lv_at hl 0 rfl) ?_
        refine va_mmin_long hx hb (hml.trans hl.1.symm) hown (hts (.methodLink RX2 63 Lib.MathLoose.min_long.x) (by decide +kernel)) (hts (.static Lib.MathLoose.min_long.x) (by decide +kernel)) (hts (.initialized "java/lang/Math") (by decide +kernel)) (hts (.code Lib.MathLoose.min_long.x Lib.MathLoose.min_long.code 4 (some .long)) (by decide +kernel)) (Nat.le_of_ble_eq_true rfl) (Nat.le_of_ble_eq_true rfl) (Nat.le_of_ble_eq_true rfl) (Nat.le_of_ble_eq_true rfl) dX2_rest_41 ?_
        refine W.eq (g2 := F0 m 44 ls [.long (rr_mn x2.toInt64 ((rr_mx (rr_ab x3.toInt64) (rr_ab x4.toInt64)) - 1)), .long 0, .ref h0]) rfl ?_
        have er : (rr_rs x1.toInt64 x2.toInt64 x3.toInt64 x4.toInt64) = (0, rr_mn x2.toInt64 (rr_mx (rr_ab x3.toInt64) (rr_ab x4.toInt64) - 1)) := if_pos (rr_ge64.mpr c32)
        have hz2 := rr_le4 hlh hz
        rw [er] at hz2
        refine rr_wi (wr := []) [0, 1] [] (va_runV (As := [.long 0, .long (rr_mn x2.toInt64 ((rr_mx (rr_ab x3.toInt64) (rr_ab x4.toInt64)) - 1))]) (rest := []) ⟨hx, hb, hml, hown, hts⟩ (c_X2_tell l D h0 qT s.heap.size cA f n t lo hi 0 (rr_mn x2.toInt64 ((rr_mx (rr_ab x3.toInt64) (rr_ab x4.toInt64)) - 1)) hn hz2) (cwV 2 hts gX2_rest_X2_tell rfl rfl rfl (by decide +kernel) ⟨Nat.le_of_ble_eq_true rfl, Nat.le_of_ble_eq_true rfl⟩) (rr_vW hK hP hD (va_recv hK hP (ci := 2) (q0 := 0) rfl rfl)) rfl rfl hl.1 rfl (lv_room (Nat.le_of_ble_eq_true rfl)) dX2_rest_44 ⟨Nat.le_of_ble_eq_true rfl, Nat.le_of_ble_eq_true rfl⟩) hS hA hP hD rfl rfl (by decide) (by decide) (by decide) (fun _ => by simp only [rr_wx, rr_wm, List.map_cons, List.map_nil]) (fun r44 u44 H locs e44 hP hD hS => ?_)
        have hP : va_P D vwCl [(h0, .inr (2, [.ref qT, .int (nI n), .int (nI t), .int ((rr_tl f n 0 (rr_mn x2.toInt64 ((rr_mx (rr_ab x3.toInt64) (rr_ab x4.toInt64)) - 1))).1), .int ((rr_tl f n 0 (rr_mn x2.toInt64 ((rr_mx (rr_ab x3.toInt64) (rr_ab x4.toInt64)) - 1))).2)])), (qT, .inl (cA, 187, .inl f))] H := hP
        have hD : va_D A [(h0, .inr (2, [.ref qT, .int (nI n), .int (nI t), .int ((rr_tl f n 0 (rr_mn x2.toInt64 ((rr_mx (rr_ab x3.toInt64) (rr_ab x4.toInt64)) - 1))).1), .int ((rr_tl f n 0 (rr_mn x2.toInt64 ((rr_mx (rr_ab x3.toInt64) (rr_ab x4.toInt64)) - 1))).2)])), (qT, .inl (cA, 187, .inl f))] := hD
        subst e44
        have ee : (if x3 = 0 ∧ x4 = 0 then ((0 : Int32), lo, hi) else ((1 : Int32), rr_tl f n (rr_rs x1.toInt64 x2.toInt64 x3.toInt64 x4.toInt64).1 (rr_rs x1.toInt64 x2.toInt64 x3.toInt64 x4.toInt64).2)) = ((1 : Int32), rr_tl f n (rr_rs x1.toInt64 x2.toInt64 x3.toInt64 x4.toInt64).1 (rr_rs x1.toInt64 x2.toInt64 x3.toInt64 x4.toInt64).2) := if_neg hz
        rw [er] at ee
        exact W.iret (v := 1) hx hb hr (fun tt ht hW => ⟨⟨_, (), rfl, by rw [er, ee], by dsimp only; rw [ht, er, ee]; exact hP⟩, hS.F ht⟩) hS.2.2 dX2_rest_47
    · skip
      refine lv_iconst (v := 0) hx hb dX2_rest_13 (by decide) ?_
      have ee : (if x3 = 0 ∧ x4 = 0 then ((0 : Int32), lo, hi) else ((1 : Int32), rr_tl f n (rr_rs x1.toInt64 x2.toInt64 x3.toInt64 x4.toInt64).1 (rr_rs x1.toInt64 x2.toInt64 x3.toInt64 x4.toInt64).2)) = ((0 : Int32), lo, hi) := if_pos ⟨rr_z64.mp ((lg_cmp_eq _ _).mp c3), rr_z64.mp ((lg_cmp_eq _ _).mp c10)⟩
      exact W.iret (v := 0) hx hb hr (fun tt ht hW => ⟨⟨_, (), rfl, by first | rw [ee] | (rw [er, ee]), by dsimp only; rw [ht, ee]; exact hP⟩, hS.F ht⟩) hS.2.2 dX2_rest_14
end
section
theorem rr_qm_skip {c : Bool} {l h d : Int64} {z : Int64 × Int64} (hc : c = false) : rr_qm c l h d z = z := by rw [hc]; rfl
theorem rr_qm_take {c : Bool} {l h d : Int64} {z : Int64 × Int64} (hc : c = true) : rr_qm c l h d z = (rr_mn z.1 (rr_mn (l / d) (h / d)), rr_mx z.2 (rr_mx (l / d) (h / d))) := by rw [hc]; rfl
theorem rr_qc_0 {m n d : Int64} (h : d = 0) : rr_qc m n d = false := decide_eq_false (fun z => z.1 h)
theorem rr_qc_t {m n d : Int64} (h0 : ¬ d = 0) (h1 : m ≤ d) (h2 : d ≤ n) : rr_qc m n d = true := decide_eq_true ⟨h0, h1, h2⟩
set_option maxHeartbeats 1000000 in
set_option maxRecDepth 100000 in
/-- one divisor of quotient: taken, or passed over -/
theorem rr_qstep {p : Program} {l : Launch} {e : Env} {s : State} {m : MethodId} {args : Array Value} {below : List Frame} {meth : Method} {c : Code} {H : Heap} {locs : List Loc} {Q : State → Prop} (hx : p.tables.exec = Jvm.exec) (hb : c.code = cX2_quotient) (hml : c.maxLocals = 12) (hown : s.vm.findClass RX2 = some m.cls) (hts : ∀ w ∈ wsX2_quotient, w.before args s = true) {h0 : Nat} {x1 x2 x3 x4 k : Int32} {d : Int64} {z : Int64 × Int64} {ls : Array Slot} (hl : lv_has ls 12 [(10, .long d), (9, .int k), (7, .long z.2), (5, .long z.1), (0, .ref h0), (1, .int x1), (2, .int x2), (3, .int x3), (4, .int x4)]) (next : ∀ ls : Array Slot, lv_has ls 12 [(9, .int k), (7, .long ((rr_qm (rr_qc x3.toInt64 x4.toInt64 d) x1.toInt64 x2.toInt64 d z).2)), (5, .long ((rr_qm (rr_qc x3.toInt64 x4.toInt64 d) x1.toInt64 x2.toInt64 d z).1)), (0, .ref h0), (1, .int x1), (2, .int x2), (3, .int x3), (4, .int x4)] → W p l e (headSpec wsX2_quotient ({ frames := 3, cells := 0, slots := 0, locals := 68 })).room s m args below meth c H locs 0 0 Q (F0 m 118 ls [])) : W p l e (headSpec wsX2_quotient ({ frames := 3, cells := 0, slots := 0, locals := 68 })).room s m args below meth c H locs 0 0 Q (F0 m 51 ls []) := by
  refine lv_lload hx hb dX2_quotient_51 (lv_at hl 0 rfl) ?_
  refine lv_lconst (v := 0) hx hb dX2_quotient_53 (by decide) ?_
  refine W.lcmp hx hb dX2_quotient_54 ?_
  refine lv_if_eq (tgt := 118) hx hb dX2_quotient_55 (by decide) (fun c55 => ?_) (fun c55 => ?_)
  · skip
    have ee : (rr_qm (rr_qc x3.toInt64 x4.toInt64 d) x1.toInt64 x2.toInt64 d z) = z := rr_qm_skip (rr_qc_0 ((lg_cmp_eq _ _).mp c55))
    refine next ls ?_
    rw [ee]
    exact lv_sub hl [1, 2, 3, 4, 5, 6, 7, 8] rfl
  · skip
    refine lv_lload hx hb dX2_quotient_58 (lv_at hl 0 rfl) ?_
    refine lv_iload_n hx hb dX2_quotient_60 rfl (lv_at hl 7 rfl) ?_
    refine lv_i2l (v := x3.toInt64) hx hb dX2_quotient_61 rfl ?_
    refine W.lcmp hx hb dX2_quotient_62 ?_
    refine lv_if_lt (tgt := 118) hx hb dX2_quotient_63 (by decide) (fun c63 => ?_) (fun c63 => ?_)
    · skip
      have ee : (rr_qm (rr_qc x3.toInt64 x4.toInt64 d) x1.toInt64 x2.toInt64 d z) = z := rr_qm_skip (rr_qc_lo ((lg_cmp_lt _ _).mp c63))
      refine next ls ?_
      rw [ee]
      exact lv_sub hl [1, 2, 3, 4, 5, 6, 7, 8] rfl
    · skip
      refine lv_lload hx hb dX2_quotient_66 (lv_at hl 0 rfl) ?_
      refine lv_iload hx hb dX2_quotient_68 (lv_at hl 8 rfl) ?_
      refine lv_i2l (v := x4.toInt64) hx hb dX2_quotient_70 rfl ?_
      refine W.lcmp hx hb dX2_quotient_71 ?_
      refine lv_if_le (tgt := 78) hx hb dX2_quotient_72 (by decide) (fun c72 => ?_) (fun c72 => ?_)
      · skip
        refine lv_lload hx hb dX2_quotient_78 (lv_at hl 3 rfl) ?_
        refine lv_iload_n hx hb dX2_quotient_80 rfl (lv_at hl 5 rfl) ?_
        refine lv_i2l (v := x1.toInt64) hx hb dX2_quotient_81 rfl ?_
        refine lv_lload hx hb dX2_quotient_82 (lv_at hl 0 rfl) ?_
        refine lv_ldiv hx hb dX2_quotient_84 (fun z => c55 ((lg_cmp_eq _ _).mpr z)) ?_
        refine lv_iload_n hx hb dX2_quotient_85 rfl (lv_at hl 6 rfl) ?_
        refine lv_i2l (v := x2.toInt64) hx hb dX2_quotient_86 rfl ?_
        refine lv_lload hx hb dX2_quotient_87 (lv_at hl 0 rfl) ?_
        refine lv_ldiv hx hb dX2_quotient_89 (fun z => c55 ((lg_cmp_eq _ _).mpr z)) ?_
        refine va_mmin_long hx hb (hml.trans hl.1.symm) hown (hts (.methodLink RX2 63 Lib.MathLoose.min_long.x) (by decide +kernel)) (hts (.static Lib.MathLoose.min_long.x) (by decide +kernel)) (hts (.initialized "java/lang/Math") (by decide +kernel)) (hts (.code Lib.MathLoose.min_long.x Lib.MathLoose.min_long.code 4 (some .long)) (by decide +kernel)) (Nat.le_of_ble_eq_true rfl) (Nat.le_of_ble_eq_true rfl) (Nat.le_of_ble_eq_true rfl) (Nat.le_of_ble_eq_true rfl) dX2_quotient_90 ?_
        refine W.eq (g2 := F0 m 93 ls [.long (rr_mn (x1.toInt64 / d) (x2.toInt64 / d)), .long z.1]) rfl ?_
        refine va_mmin_long hx hb (hml.trans hl.1.symm) hown (hts (.methodLink RX2 63 Lib.MathLoose.min_long.x) (by decide +kernel)) (hts (.static Lib.MathLoose.min_long.x) (by decide +kernel)) (hts (.initialized "java/lang/Math") (by decide +kernel)) (hts (.code Lib.MathLoose.min_long.x Lib.MathLoose.min_long.code 4 (some .long)) (by decide +kernel)) (Nat.le_of_ble_eq_true rfl) (Nat.le_of_ble_eq_true rfl) (Nat.le_of_ble_eq_true rfl) (Nat.le_of_ble_eq_true rfl) dX2_quotient_93 ?_
        refine W.eq (g2 := F0 m 96 ls [.long (rr_mn z.1 (rr_mn (x1.toInt64 / d) (x2.toInt64 / d)))]) rfl ?_
        refine lv_lstore (lv' := [(5, .long (rr_mn z.1 (rr_mn (x1.toInt64 / d) (x2.toInt64 / d)))), (10, .long d), (9, .int k), (7, .long z.2), (0, .ref h0), (1, .int x1), (2, .int x2), (3, .int x3), (4, .int x4)]) hx hb dX2_quotient_96 hl (by decide) rfl (fun ls hl => ?_)
        refine lv_lload hx hb dX2_quotient_98 (lv_at hl 3 rfl) ?_
        refine lv_iload_n hx hb dX2_quotient_100 rfl (lv_at hl 5 rfl) ?_
        refine lv_i2l (v := x1.toInt64) hx hb dX2_quotient_101 rfl ?_
        refine lv_lload hx hb dX2_quotient_102 (lv_at hl 1 rfl) ?_
        refine lv_ldiv hx hb dX2_quotient_104 (fun z => c55 ((lg_cmp_eq _ _).mpr z)) ?_
        refine lv_iload_n hx hb dX2_quotient_105 rfl (lv_at hl 6 rfl) ?_
        refine lv_i2l (v := x2.toInt64) hx hb dX2_quotient_106 rfl ?_
        refine lv_lload hx hb dX2_quotient_107 (lv_at hl 1 rfl) ?_
        refine lv_ldiv hx hb dX2_quotient_109 (fun z => c55 ((lg_cmp_eq _ _).mpr z)) ?_
        refine va_mmax_long hx hb (hml.trans hl.1.symm) hown (hts (.methodLink RX2 66 Lib.MathLoose.max_long.x) (by decide +kernel)) (hts (.static Lib.MathLoose.max_long.x) (by decide +kernel)) (hts (.initialized "java/lang/Math") (by decide +kernel)) (hts (.code Lib.MathLoose.max_long.x Lib.MathLoose.max_long.code 4 (some .long)) (by decide +kernel)) (Nat.le_of_ble_eq_true rfl) (Nat.le_of_ble_eq_true rfl) (Nat.le_of_ble_eq_true rfl) (Nat.le_of_ble_eq_true rfl) dX2_quotient_110 ?_
        refine W.eq (g2 := F0 m 113 ls [.long (rr_mx (x1.toInt64 / d) (x2.toInt64 / d)), .long z.2]) rfl ?_
        refine va_mmax_long hx hb (hml.trans hl.1.symm) hown (hts (.methodLink RX2 66 Lib.MathLoose.max_long.x) (by decide +kernel)) (hts (.static Lib.MathLoose.max_long.x) (by decide +kernel)) (hts (.initialized "java/lang/Math") (by decide +kernel)) (hts (.code Lib.MathLoose.max_long.x Lib.MathLoose.max_long.code 4 (some .long)) (by decide +kernel)) (Nat.le_of_ble_eq_true rfl) (Nat.le_of_ble_eq_true rfl) (Nat.le_of_ble_eq_true rfl) (Nat.le_of_ble_eq_true rfl) dX2_quotient_113 ?_
        refine W.eq (g2 := F0 m 116 ls [.long (rr_mx z.2 (rr_mx (x1.toInt64 / d) (x2.toInt64 / d)))]) rfl ?_
        refine lv_lstore (lv' := [(7, .long (rr_mx z.2 (rr_mx (x1.toInt64 / d) (x2.toInt64 / d)))), (5, .long (rr_mn z.1 (rr_mn (x1.toInt64 / d) (x2.toInt64 / d)))), (10, .long d), (9, .int k), (0, .ref h0), (1, .int x1), (2, .int x2), (3, .int x3), (4, .int x4)]) hx hb dX2_quotient_116 hl (by decide) rfl (fun ls hl => ?_)
        have ee : (rr_qm (rr_qc x3.toInt64 x4.toInt64 d) x1.toInt64 x2.toInt64 d z) = (rr_mn z.1 (rr_mn (x1.toInt64 / d) (x2.toInt64 / d)), rr_mx z.2 (rr_mx (x1.toInt64 / d) (x2.toInt64 / d))) := rr_qm_take (rr_qc_t (fun z => c55 ((lg_cmp_eq _ _).mpr z)) (Int64.not_lt.mp (fun z => c63 ((lg_cmp_lt _ _).mpr z))) ((lg_cmp_le _ _).mp c72))
        refine next ls ?_
        rw [ee]
        exact lv_sub hl [3, 0, 1, 4, 5, 6, 7, 8] rfl
      · skip
        refine lv_goto (tgt := 118) hx hb dX2_quotient_75 (by decide) ?_
        have ee : (rr_qm (rr_qc x3.toInt64 x4.toInt64 d) x1.toInt64 x2.toInt64 d z) = z := rr_qm_skip (rr_qc_hi (Int64.not_le.mp (fun z => c72 ((lg_cmp_le _ _).mpr z))))
        refine next ls ?_
        rw [ee]
        exact lv_sub hl [1, 2, 3, 4, 5, 6, 7, 8] rfl
set_option maxHeartbeats 1000000 in
set_option maxRecDepth 100000 in
/-- quotient -/
theorem c_X2_quotient (l : Launch) (D : va_G) (h0 qT sz : Nat) (cA : ClassId) (f : Nat → Int32) (n t : Nat) (lo hi : Int32) (x1 x2 x3 x4 : Int32) (hn : n ≤ 187) (hmn : x3 ≤ x4) : Met l yX2_quotient wsX2_quotient ({ frames := 3, cells := 0, slots := 0, locals := 68 }) (rr_pW D (rr_wm h0 qT cA f n t lo hi) [(cA, .int)] [.ref h0, .int x1, .int x2, .int x3, .int x4] sz) (va_Qi (fun r (_ : Unit) => r = (if x3 = 0 ∧ x4 = 0 then ((0 : Int32), lo, hi) else ((1 : Int32), rr_tl f n (rr_qs x1.toInt64 x2.toInt64 x3.toInt64 x4.toInt64).1 (rr_qs x1.toInt64 x2.toInt64 x3.toInt64 x4.toInt64).2)).1) (fun _ tt => va_P D vwCl (rr_wm h0 qT cA f n t (if x3 = 0 ∧ x4 = 0 then ((0 : Int32), lo, hi) else ((1 : Int32), rr_tl f n (rr_qs x1.toInt64 x2.toInt64 x3.toInt64 x4.toInt64).1 (rr_qs x1.toInt64 x2.toInt64 x3.toInt64 x4.toInt64).2)).2.1 (if x3 = 0 ∧ x4 = 0 then ((0 : Int32), lo, hi) else ((1 : Int32), rr_tl f n (rr_qs x1.toInt64 x2.toInt64 x3.toInt64 x4.toInt64).1 (rr_qs x1.toInt64 x2.toInt64 x3.toInt64 x4.toInt64).2)).2.2) tt.heap) (va_A (rr_wm h0 qT cA f n t lo hi) sz)) 0 0 (va_A (rr_wm h0 qT cA f n t lo hi) sz) := by
  refine Met.ofW (cc := cX2_quotient) (maxL := 12) (ret := (some .int)) (by decide) rfl ?_
  intro p e s m args below meth c s₁ B hml hv
  obtain ⟨rfl, hsz, hP, hK, hD0⟩ := hv
  have hx := B.exec
  have hb := B.bytes
  have hr := B.returns
  have hts := atoms_spec (ws := wsX2_quotient) B.pre
  have hown : s.vm.findClass RX2 = some m.cls := findClass_of_methodNamed B.named
  have hlocks := B.notSynchronized
  subst hsz
  have hD := hD0.self (sz := s.heap.size)
  generalize hAe : va_A [(h0, .inr (2, [.ref qT, .int (nI n), .int (nI t), .int lo, .int hi])), (qT, .inl (cA, 187, .inl f))] s.heap.size = A at hD ⊢
  have hA : ∀ q : Nat, s.heap.size ≤ q → A q := fun q h => by rw [← hAe]; exact Or.inr h
  have hS : va_S A s.heap s.heap [] := va_S.rf
  have hP : va_P D vwCl [(h0, .inr (2, [.ref qT, .int (nI n), .int (nI t), .int lo, .int hi])), (qT, .inl (cA, 187, .inl f))] s.heap := hP
  have hiX2 : ∀ w ∈ wsX20, w ∈ wsX2_quotient := by decide +kernel
  have hl := lv_entry ([.ref h0, .int x1, .int x2, .int x3, .int x4]) (n := 12) (Nat.le_of_ble_eq_true rfl)
  rw [lg_entry_eq]
  generalize (lg_sl ([.ref h0, .int x1, .int x2, .int x3, .int x4]) ++ List.replicate (12 - (lg_sl ([.ref h0, .int x1, .int x2, .int x3, .int x4])).length) Slot.unset).toArray = ls at hl ⊢
  have hl : lv_has ls 12 [(0, .ref h0), (1, .int x1), (2, .int x2), (3, .int x3), (4, .int x4)] := hl
  refine lv_ldc2 (v := 9223372036854775807) hx hb hown (hts (.constantLong RX2 96 9223372036854775807) (by decide +kernel)) dX2_quotient_0 ?_
  refine lv_lstore (lv' := [(5, .long 9223372036854775807), (0, .ref h0), (1, .int x1), (2, .int x2), (3, .int x3), (4, .int x4)]) hx hb dX2_quotient_3 hl (by decide) rfl (fun ls hl => ?_)
  refine lv_ldc2 (v := (-9223372036854775808)) hx hb hown (hts (.constantLong RX2 98 (-9223372036854775808)) (by decide +kernel)) dX2_quotient_5 ?_
  refine lv_lstore (lv' := [(7, .long ((-9223372036854775808))), (5, .long 9223372036854775807), (0, .ref h0), (1, .int x1), (2, .int x2), (3, .int x3), (4, .int x4)]) hx hb dX2_quotient_8 hl (by decide) rfl (fun ls hl => ?_)
  refine lv_iconst (v := 0) hx hb dX2_quotient_10 (by decide) ?_
  refine lv_istore (lv' := [(9, .int 0), (7, .long ((-9223372036854775808))), (5, .long 9223372036854775807), (0, .ref h0), (1, .int x1), (2, .int x2), (3, .int x3), (4, .int x4)]) hx hb dX2_quotient_11 hl (by decide) rfl (fun ls hl => ?_)
  refine lv_iload hx hb dX2_quotient_13 (lv_at hl 0 rfl) ?_
  refine lv_iconst (v := 4) hx hb dX2_quotient_15 (by decide) ?_
  refine lv_icmp_ge (tgt := 124) hx hb dX2_quotient_16 (by decide) (fun c16 => ?_) (fun c16 => ?_)
  · skip
    exact absurd c16 (by decide)
  · skip
    refine lv_iload hx hb dX2_quotient_19 (lv_at hl 0 rfl) ?_
    refine lv_iconst (v := 2) hx hb dX2_quotient_21 (by decide) ?_
    refine lv_icmp_ge (tgt := 35) hx hb dX2_quotient_22 (by decide) (fun c22 => ?_) (fun c22 => ?_)
    · skip
      exact absurd c22 (by decide)
    · skip
      refine lv_iconst (v := 2) hx hb dX2_quotient_25 (by decide) ?_
      refine lv_iload hx hb dX2_quotient_26 (lv_at hl 0 rfl) ?_
      refine lv_imul hx hb dX2_quotient_28 ?_
      refine lv_iconst (v := 1) hx hb dX2_quotient_29 (by decide) ?_
      refine lv_isub hx hb dX2_quotient_30 ?_
      refine W.eq (congrArg (fun z => F0 m 31 ls (.int z :: [])) (show (2 : Int32) * 0 - 1 = (-1) by decide)) ?_
      refine lv_i2l (v := (((-1) : Int32).toInt64)) hx hb dX2_quotient_31 rfl ?_
      refine lv_goto (tgt := 49) hx hb dX2_quotient_32 (by decide) ?_
      refine W.eq (congrArg (fun z => F0 m 49 ls (.long z :: [])) (show (((-1) : Int32).toInt64) = (-1) by decide)) ?_
      refine lv_lstore (lv' := [(10, .long ((-1))), (9, .int 0), (7, .long ((-9223372036854775808))), (5, .long 9223372036854775807), (0, .ref h0), (1, .int x1), (2, .int x2), (3, .int x3), (4, .int x4)]) hx hb dX2_quotient_49 hl (by decide) rfl (fun ls hl => ?_)
      refine rr_qstep (z := rr_q0) (d := (-1)) hx hb hml hown hts (lv_sub hl [0, 1, 2, 3, 4, 5, 6, 7, 8] rfl) (fun ls hl => ?_)
      obtain ⟨z1, g1⟩ : ∃ z, z = rr_qm (rr_qc x3.toInt64 x4.toInt64 (-1)) x1.toInt64 x2.toInt64 (-1) rr_q0 := ⟨_, rfl⟩
      rw [← g1] at hl
      have hl : lv_has ls 12 [(9, .int 0), (7, .long z1.2), (5, .long z1.1), (0, .ref h0), (1, .int x1), (2, .int x2), (3, .int x3), (4, .int x4)] := hl
      refine lv_iinc (v := 1) (lv' := [(9, .int 1), (7, .long z1.2), (5, .long z1.1), (0, .ref h0), (1, .int x1), (2, .int x2), (3, .int x3), (4, .int x4)]) hx hb dX2_quotient_118 hl (k := 0) rfl (by decide) (by decide) rfl (fun ls hl => ?_)
      refine lv_goto (tgt := 13) hx hb dX2_quotient_121 (by decide) ?_
      refine lv_iload hx hb dX2_quotient_13 (lv_at hl 0 rfl) ?_
      refine lv_iconst (v := 4) hx hb dX2_quotient_15 (by decide) ?_
      refine lv_icmp_ge (tgt := 124) hx hb dX2_quotient_16 (by decide) (fun c16 => ?_) (fun c16 => ?_)
      · skip
        exact absurd c16 (by decide)
      · skip
        refine lv_iload hx hb dX2_quotient_19 (lv_at hl 0 rfl) ?_
        refine lv_iconst (v := 2) hx hb dX2_quotient_21 (by decide) ?_
        refine lv_icmp_ge (tgt := 35) hx hb dX2_quotient_22 (by decide) (fun c22 => ?_) (fun c22 => ?_)
        · skip
          exact absurd c22 (by decide)
        · skip
          refine lv_iconst (v := 2) hx hb dX2_quotient_25 (by decide) ?_
          refine lv_iload hx hb dX2_quotient_26 (lv_at hl 0 rfl) ?_
          refine lv_imul hx hb dX2_quotient_28 ?_
          refine lv_iconst (v := 1) hx hb dX2_quotient_29 (by decide) ?_
          refine lv_isub hx hb dX2_quotient_30 ?_
          refine W.eq (congrArg (fun z => F0 m 31 ls (.int z :: [])) (show (2 : Int32) * 1 - 1 = 1 by decide)) ?_
          refine lv_i2l (v := ((1 : Int32).toInt64)) hx hb dX2_quotient_31 rfl ?_
          refine lv_goto (tgt := 49) hx hb dX2_quotient_32 (by decide) ?_
          refine W.eq (congrArg (fun z => F0 m 49 ls (.long z :: [])) (show ((1 : Int32).toInt64) = 1 by decide)) ?_
          refine lv_lstore (lv' := [(10, .long 1), (9, .int 1), (7, .long z1.2), (5, .long z1.1), (0, .ref h0), (1, .int x1), (2, .int x2), (3, .int x3), (4, .int x4)]) hx hb dX2_quotient_49 hl (by decide) rfl (fun ls hl => ?_)
          refine rr_qstep (z := z1) (d := 1) hx hb hml hown hts (lv_sub hl [0, 1, 2, 3, 4, 5, 6, 7, 8] rfl) (fun ls hl => ?_)
          obtain ⟨z2, g2⟩ : ∃ z, z = rr_qm (rr_qc x3.toInt64 x4.toInt64 1) x1.toInt64 x2.toInt64 1 z1 := ⟨_, rfl⟩
          rw [← g2] at hl
          have hl : lv_has ls 12 [(9, .int 1), (7, .long z2.2), (5, .long z2.1), (0, .ref h0), (1, .int x1), (2, .int x2), (3, .int x3), (4, .int x4)] := hl
          refine lv_iinc (v := 2) (lv' := [(9, .int 2), (7, .long z2.2), (5, .long z2.1), (0, .ref h0), (1, .int x1), (2, .int x2), (3, .int x3), (4, .int x4)]) hx hb dX2_quotient_118 hl (k := 0) rfl (by decide) (by decide) rfl (fun ls hl => ?_)
          refine lv_goto (tgt := 13) hx hb dX2_quotient_121 (by decide) ?_
          refine lv_iload hx hb dX2_quotient_13 (lv_at hl 0 rfl) ?_
          refine lv_iconst (v := 4) hx hb dX2_quotient_15 (by decide) ?_
          refine lv_icmp_ge (tgt := 124) hx hb dX2_quotient_16 (by decide) (fun c16 => ?_) (fun c16 => ?_)
          · skip
            exact absurd c16 (by decide)
          · skip
            refine lv_iload hx hb dX2_quotient_19 (lv_at hl 0 rfl) ?_
            refine lv_iconst (v := 2) hx hb dX2_quotient_21 (by decide) ?_
            refine lv_icmp_ge (tgt := 35) hx hb dX2_quotient_22 (by decide) (fun c22 => ?_) (fun c22 => ?_)
            · skip
              refine lv_iload hx hb dX2_quotient_35 (lv_at hl 0 rfl) ?_
              refine lv_iconst (v := 2) hx hb dX2_quotient_37 (by decide) ?_
              refine lv_icmp_ne (tgt := 46) hx hb dX2_quotient_38 (by decide) (fun c38 => ?_) (fun c38 => ?_)
              · skip
                exact absurd c38 (by decide)
              · skip
                refine lv_iload_n hx hb dX2_quotient_41 rfl (lv_at hl 6 rfl) ?_
                refine lv_i2l (v := x3.toInt64) hx hb dX2_quotient_42 rfl ?_
                refine lv_goto (tgt := 49) hx hb dX2_quotient_43 (by decide) ?_
                refine lv_lstore (lv' := [(10, .long x3.toInt64), (9, .int 2), (7, .long z2.2), (5, .long z2.1), (0, .ref h0), (1, .int x1), (2, .int x2), (3, .int x3), (4, .int x4)]) hx hb dX2_quotient_49 hl (by decide) rfl (fun ls hl => ?_)
                refine rr_qstep (z := z2) (d := x3.toInt64) hx hb hml hown hts (lv_sub hl [0, 1, 2, 3, 4, 5, 6, 7, 8] rfl) (fun ls hl => ?_)
                obtain ⟨z3, g3⟩ : ∃ z, z = rr_qm (rr_qc x3.toInt64 x4.toInt64 x3.toInt64) x1.toInt64 x2.toInt64 x3.toInt64 z2 := ⟨_, rfl⟩
                rw [← g3] at hl
                have hl : lv_has ls 12 [(9, .int 2), (7, .long z3.2), (5, .long z3.1), (0, .ref h0), (1, .int x1), (2, .int x2), (3, .int x3), (4, .int x4)] := hl
                refine lv_iinc (v := 3) (lv' := [(9, .int 3), (7, .long z3.2), (5, .long z3.1), (0, .ref h0), (1, .int x1), (2, .int x2), (3, .int x3), (4, .int x4)]) hx hb dX2_quotient_118 hl (k := 0) rfl (by decide) (by decide) rfl (fun ls hl => ?_)
                refine lv_goto (tgt := 13) hx hb dX2_quotient_121 (by decide) ?_
                refine lv_iload hx hb dX2_quotient_13 (lv_at hl 0 rfl) ?_
                refine lv_iconst (v := 4) hx hb dX2_quotient_15 (by decide) ?_
                refine lv_icmp_ge (tgt := 124) hx hb dX2_quotient_16 (by decide) (fun c16 => ?_) (fun c16 => ?_)
                · skip
                  exact absurd c16 (by decide)
                · skip
                  refine lv_iload hx hb dX2_quotient_19 (lv_at hl 0 rfl) ?_
                  refine lv_iconst (v := 2) hx hb dX2_quotient_21 (by decide) ?_
                  refine lv_icmp_ge (tgt := 35) hx hb dX2_quotient_22 (by decide) (fun c22 => ?_) (fun c22 => ?_)
                  · skip
                    refine lv_iload hx hb dX2_quotient_35 (lv_at hl 0 rfl) ?_
                    refine lv_iconst (v := 2) hx hb dX2_quotient_37 (by decide) ?_
                    refine lv_icmp_ne (tgt := 46) hx hb dX2_quotient_38 (by decide) (fun c38 => ?_) (fun c38 => ?_)
                    · skip
                      refine lv_iload hx hb dX2_quotient_46 (lv_at hl 7 rfl) ?_
                      refine lv_i2l (v := x4.toInt64) hx hb dX2_quotient_48 rfl ?_
                      refine lv_lstore (lv' := [(10, .long x4.toInt64), (9, .int 3), (7, .long z3.2), (5, .long z3.1), (0, .ref h0), (1, .int x1), (2, .int x2), (3, .int x3), (4, .int x4)]) hx hb dX2_quotient_49 hl (by decide) rfl (fun ls hl => ?_)
                      refine rr_qstep (z := z3) (d := x4.toInt64) hx hb hml hown hts (lv_sub hl [0, 1, 2, 3, 4, 5, 6, 7, 8] rfl) (fun ls hl => ?_)
                      obtain ⟨z4, g4⟩ : ∃ z, z = rr_qm (rr_qc x3.toInt64 x4.toInt64 x4.toInt64) x1.toInt64 x2.toInt64 x4.toInt64 z3 := ⟨_, rfl⟩
                      rw [← g4] at hl
                      have hl : lv_has ls 12 [(9, .int 3), (7, .long z4.2), (5, .long z4.1), (0, .ref h0), (1, .int x1), (2, .int x2), (3, .int x3), (4, .int x4)] := hl
                      refine lv_iinc (v := 4) (lv' := [(9, .int 4), (7, .long z4.2), (5, .long z4.1), (0, .ref h0), (1, .int x1), (2, .int x2), (3, .int x3), (4, .int x4)]) hx hb dX2_quotient_118 hl (k := 0) rfl (by decide) (by decide) rfl (fun ls hl => ?_)
                      refine lv_goto (tgt := 13) hx hb dX2_quotient_121 (by decide) ?_
                      refine lv_iload hx hb dX2_quotient_13 (lv_at hl 0 rfl) ?_
                      refine lv_iconst (v := 4) hx hb dX2_quotient_15 (by decide) ?_
                      refine lv_icmp_ge (tgt := 124) hx hb dX2_quotient_16 (by decide) (fun c16 => ?_) (fun c16 => ?_)
                      · skip
                        have eq : (rr_qs x1.toInt64 x2.toInt64 x3.toInt64 x4.toInt64) = z4 := by
                          rw [g4, g3, g2, g1]
                          rfl
                        refine lv_lload hx hb dX2_quotient_124 (lv_at hl 2 rfl) ?_
                        refine lv_lload hx hb dX2_quotient_126 (lv_at hl 1 rfl) ?_
                        refine W.lcmp hx hb dX2_quotient_128 ?_
                        refine lv_if_le (tgt := 136) hx hb dX2_quotient_129 (by decide) (fun c129 => ?_) (fun c129 => ?_)
                        · skip
                          refine lv_aload_n hx hb dX2_quotient_136 rfl (lv_at hl 3 rfl) ?_
                          refine lv_lload hx hb dX2_quotient_137 (lv_at hl 2 rfl) ?_
                          refine lv_lload hx hb dX2_quotient_139 (lv_at hl 1 rfl) ?_
                          refine rr_wi (wr := []) [0, 1] [] (va_runV (As := [.long z4.1, .long z4.2]) (rest := []) ⟨hx, hb, hml, hown, hts⟩ (c_X2_tell l D h0 qT s.heap.size cA f n t lo hi z4.1 z4.2 hn ((lg_cmp_le _ _).mp c129)) (cwV 2 hts gX2_quotient_X2_tell rfl rfl rfl (by decide +kernel) ⟨Nat.le_of_ble_eq_true rfl, Nat.le_of_ble_eq_true rfl⟩) (rr_vW hK hP hD (va_recv hK hP (ci := 2) (q0 := 0) rfl rfl)) rfl rfl hl.1 rfl (lv_room (Nat.le_of_ble_eq_true rfl)) dX2_quotient_141 ⟨Nat.le_of_ble_eq_true rfl, Nat.le_of_ble_eq_true rfl⟩) hS hA hP hD rfl rfl (by decide) (by decide) (by decide) (fun _ => by simp only [rr_wx, rr_wm, List.map_cons, List.map_nil]) (fun r141 u141 H locs e141 hP hD hS => ?_)
                          have hP : va_P D vwCl [(h0, .inr (2, [.ref qT, .int (nI n), .int (nI t), .int ((rr_tl f n z4.1 z4.2).1), .int ((rr_tl f n z4.1 z4.2).2)])), (qT, .inl (cA, 187, .inl f))] H := hP
                          have hD : va_D A [(h0, .inr (2, [.ref qT, .int (nI n), .int (nI t), .int ((rr_tl f n z4.1 z4.2).1), .int ((rr_tl f n z4.1 z4.2).2)])), (qT, .inl (cA, 187, .inl f))] := hD
                          subst e141
                          have hz : ¬ (x3 = 0 ∧ x4 = 0) := fun h => absurd ((lg_cmp_le _ _).mp c129) (by rw [← eq, h.1, h.2]; show ¬ (rr_qs _ _ 0 0).1 ≤ (rr_qs _ _ 0 0).2; rw [rr_qs_0]; decide)
                          have ee : (if x3 = 0 ∧ x4 = 0 then ((0 : Int32), lo, hi) else ((1 : Int32), rr_tl f n (rr_qs x1.toInt64 x2.toInt64 x3.toInt64 x4.toInt64).1 (rr_qs x1.toInt64 x2.toInt64 x3.toInt64 x4.toInt64).2)) = ((1 : Int32), rr_tl f n (rr_qs x1.toInt64 x2.toInt64 x3.toInt64 x4.toInt64).1 (rr_qs x1.toInt64 x2.toInt64 x3.toInt64 x4.toInt64).2) := if_neg hz
                          rw [← eq] at hP
                          exact W.iret (v := 1) hx hb hr (fun tt ht hW => ⟨⟨_, (), rfl, by rw [ee], by dsimp only; rw [ht, ee]; exact hP⟩, hS.F ht⟩) hS.2.2 dX2_quotient_144
                        · skip
                          refine lv_iconst (v := 0) hx hb dX2_quotient_132 (by decide) ?_
                          refine lv_goto (tgt := 144) hx hb dX2_quotient_133 (by decide) ?_
                          have hz : x3 = 0 ∧ x4 = 0 := Classical.byContradiction (fun h => c129 ((lg_cmp_le _ _).mpr (by rw [← eq]; exact rr_qs_le (rr_64 hmn) (fun y => h ⟨rr_z64.mp y.1, rr_z64.mp y.2⟩))))
                          have ee : (if x3 = 0 ∧ x4 = 0 then ((0 : Int32), lo, hi) else ((1 : Int32), rr_tl f n (rr_qs x1.toInt64 x2.toInt64 x3.toInt64 x4.toInt64).1 (rr_qs x1.toInt64 x2.toInt64 x3.toInt64 x4.toInt64).2)) = ((0 : Int32), lo, hi) := if_pos hz
                          exact W.iret (v := 0) hx hb hr (fun tt ht hW => ⟨⟨_, (), rfl, by rw [ee], by dsimp only; rw [ht, ee]; exact hP⟩, hS.F ht⟩) hS.2.2 dX2_quotient_144
                      · skip
                        exact absurd c16 (by decide)
                    · skip
                      exact absurd c38 (by decide)
                  · skip
                    exact absurd c22 (by decide)
            · skip
              exact absurd c22 (by decide)
end
section
set_option maxHeartbeats 1000000 in
set_option maxRecDepth 100000 in
/-- work(op, x1, x2, x3, x4) -/
theorem c_X2_work (l : Launch) (D : va_G) (h0 qT sz : Nat) (cA : ClassId) (f : Nat → Int32) (n t : Nat) (lo hi : Int32) (op x1 x2 x3 x4 : Int32) (hn : n ≤ 187) (hk : rr_ok f n) : Met l yX2_work wsX2_work ({ frames := 4, cells := 0, slots := 0, locals := 99 }) (rr_pW D (rr_wm h0 qT cA f n t lo hi) [(cA, .int)] [.ref h0, .int op, .int x1, .int x2, .int x3, .int x4] sz) (va_Qi (fun r (_ : Unit) => r = (rr_wk f n lo hi op x1 x2 x3 x4).1) (fun _ tt => va_P D vwCl (rr_wm h0 qT cA f n t (rr_wk f n lo hi op x1 x2 x3 x4).2.1 (rr_wk f n lo hi op x1 x2 x3 x4).2.2) tt.heap) (va_A (rr_wm h0 qT cA f n t lo hi) sz)) 0 0 (va_A (rr_wm h0 qT cA f n t lo hi) sz) := by
  refine Met.ofW (cc := cX2_work) (maxL := 8) (ret := (some .int)) (by decide) rfl ?_
  intro p e s m args below meth c s₁ B hml hv
  obtain ⟨rfl, hsz, hP, hK, hD0⟩ := hv
  have hx := B.exec
  have hb := B.bytes
  have hr := B.returns
  have hts := atoms_spec (ws := wsX2_work) B.pre
  have hown : s.vm.findClass RX2 = some m.cls := findClass_of_methodNamed B.named
  have hlocks := B.notSynchronized
  subst hsz
  have hD := hD0.self (sz := s.heap.size)
  generalize hAe : va_A [(h0, .inr (2, [.ref qT, .int (nI n), .int (nI t), .int lo, .int hi])), (qT, .inl (cA, 187, .inl f))] s.heap.size = A at hD ⊢
  have hA : ∀ q : Nat, s.heap.size ≤ q → A q := fun q h => by rw [← hAe]; exact Or.inr h
  have hS : va_S A s.heap s.heap [] := va_S.rf
  have hP : va_P D vwCl [(h0, .inr (2, [.ref qT, .int (nI n), .int (nI t), .int lo, .int hi])), (qT, .inl (cA, 187, .inl f))] s.heap := hP
  have hiX2 : ∀ w ∈ wsX20, w ∈ wsX2_work := by decide +kernel
  have hl := lv_entry ([.ref h0, .int op, .int x1, .int x2, .int x3, .int x4]) (n := 8) (Nat.le_of_ble_eq_true rfl)
  rw [lg_entry_eq]
  generalize (lg_sl ([.ref h0, .int op, .int x1, .int x2, .int x3, .int x4]) ++ List.replicate (8 - (lg_sl ([.ref h0, .int op, .int x1, .int x2, .int x3, .int x4])).length) Slot.unset).toArray = ls at hl ⊢
  have hl : lv_has ls 8 [(0, .ref h0), (1, .int op), (2, .int x1), (3, .int x2), (4, .int x3), (5, .int x4)] := hl
  refine lv_iload_n hx hb dX2_work_0 rfl (lv_at hl 1 rfl) ?_
  refine lv_if_lt (tgt := 30) hx hb dX2_work_1 (by decide) (fun c1 => ?_) (fun c1 => ?_)
  · skip
    refine lv_iconst (v := (-1)) hx hb dX2_work_30 (by decide) ?_
    have ee : (rr_wk f n lo hi op x1 x2 x3 x4) = (-1, lo, hi) := if_neg (fun z => by first | exact z.1.1 c1 | exact z.1.2 c7 | exact b13 z.2.1 | exact b24 z.2.2)
    exact W.iret (v := (-1)) hx hb hr (fun tt ht hW => ⟨⟨_, (), rfl, by rw [ee], by dsimp only; rw [ht, ee]; exact hP⟩, hS.F ht⟩) hS.2.2 dX2_work_31
  · skip
    refine lv_iload_n hx hb dX2_work_4 rfl (lv_at hl 1 rfl) ?_
    refine lv_bipush (v := 9) hx hb dX2_work_5 (by decide) ?_
    refine lv_icmp_gt (tgt := 30) hx hb dX2_work_7 (by decide) (fun c7 => ?_) (fun c7 => ?_)
    · skip
      refine lv_iconst (v := (-1)) hx hb dX2_work_30 (by decide) ?_
      have ee : (rr_wk f n lo hi op x1 x2 x3 x4) = (-1, lo, hi) := if_neg (fun z => by first | exact z.1.1 c1 | exact z.1.2 c7 | exact b13 z.2.1 | exact b24 z.2.2)
      exact W.iret (v := (-1)) hx hb hr (fun tt ht hW => ⟨⟨_, (), rfl, by rw [ee], by dsimp only; rw [ht, ee]; exact hP⟩, hS.F ht⟩) hS.2.2 dX2_work_31
    · skip
      refine lv_aload_n hx hb dX2_work_10 rfl (lv_at hl 0 rfl) ?_
      refine lv_iload_n hx hb dX2_work_11 rfl (lv_at hl 2 rfl) ?_
      refine lv_iload_n hx hb dX2_work_12 rfl (lv_at hl 3 rfl) ?_
      refine rr_ri (va_runV (As := [.int x1, .int x2]) (rest := []) ⟨hx, hb, hml, hown, hts⟩ (c_X2_isRange l D h0 qT s.heap.size cA f n t lo hi x1 x2 hn hk) (cwV 2 hts gX2_work_X2_isRange rfl rfl rfl (by decide +kernel) ⟨Nat.le_of_ble_eq_true rfl, Nat.le_of_ble_eq_true rfl⟩) (rr_vR hK hP (va_recv hK hP (ci := 2) (q0 := 0) rfl rfl)) rfl rfl hl.1 rfl (lv_room (Nat.le_of_ble_eq_true rfl)) dX2_work_13 ⟨Nat.le_of_ble_eq_true rfl, Nat.le_of_ble_eq_true rfl⟩) hS hA hP (fun r13 H locs e13 hP hS => ?_)
      by_cases b13 : rr_rg f n x1 x2 = true
      · rw [if_pos b13] at e13
        subst e13
        refine lv_if_eq (tgt := 30) hx hb dX2_work_16 (by decide) (fun c16 => ?_) (fun c16 => ?_)
        · skip
          exact absurd c16 (by decide)
        · skip
          refine lv_aload_n hx hb dX2_work_19 rfl (lv_at hl 0 rfl) ?_
          refine lv_iload hx hb dX2_work_20 (lv_at hl 4 rfl) ?_
          refine lv_iload hx hb dX2_work_22 (lv_at hl 5 rfl) ?_
          refine rr_ri (va_runV (As := [.int x3, .int x4]) (rest := []) ⟨hx, hb, hml, hown, hts⟩ (c_X2_isRange l D h0 qT H.size cA f n t lo hi x3 x4 hn hk) (cwV 2 hts gX2_work_X2_isRange rfl rfl rfl (by decide +kernel) ⟨Nat.le_of_ble_eq_true rfl, Nat.le_of_ble_eq_true rfl⟩) (rr_vR hK hP (va_recv hK hP (ci := 2) (q0 := 0) rfl rfl)) rfl rfl hl.1 rfl (lv_room (Nat.le_of_ble_eq_true rfl)) dX2_work_24 ⟨Nat.le_of_ble_eq_true rfl, Nat.le_of_ble_eq_true rfl⟩) hS hA hP (fun r24 H locs e24 hP hS => ?_)
          by_cases b24 : rr_rg f n x3 x4 = true
          · rw [if_pos b24] at e24
            subst e24
            refine lv_if_ne (tgt := 32) hx hb dX2_work_27 (by decide) (fun c27 => ?_) (fun c27 => ?_)
            · skip
              rcases rr_ten c1 c7 with rfl | rfl | rfl | rfl | rfl | rfl | rfl | rfl | rfl | rfl
              · skip
                refine lv_iload_n hx hb dX2_work_32 rfl (lv_at hl 1 rfl) ?_
                refine lv_tableIn (off := 51) (tgt := 84) hx hb dX2_work_33 (by decide) (by decide) (by decide +kernel) (by decide) ?_
                refine lv_aload_n hx hb dX2_work_84 rfl (lv_at hl 0 rfl) ?_
                refine lv_iload_n hx hb dX2_work_85 rfl (lv_at hl 2 rfl) ?_
                refine lv_i2l (v := x1.toInt64) hx hb dX2_work_86 rfl ?_
                refine lv_iload hx hb dX2_work_87 (lv_at hl 4 rfl) ?_
                refine lv_i2l (v := x3.toInt64) hx hb dX2_work_89 rfl ?_
                refine lv_ladd hx hb dX2_work_90 ?_
                refine lv_iload_n hx hb dX2_work_91 rfl (lv_at hl 3 rfl) ?_
                refine lv_i2l (v := x2.toInt64) hx hb dX2_work_92 rfl ?_
                refine lv_iload hx hb dX2_work_93 (lv_at hl 5 rfl) ?_
                refine lv_i2l (v := x4.toInt64) hx hb dX2_work_95 rfl ?_
                refine lv_ladd hx hb dX2_work_96 ?_
                refine rr_wi (wr := []) [0, 1] [] (va_runV (As := [.long (x1.toInt64 + x3.toInt64), .long (x2.toInt64 + x4.toInt64)]) (rest := []) ⟨hx, hb, hml, hown, hts⟩ (c_X2_tell l D h0 qT H.size cA f n t lo hi (x1.toInt64 + x3.toInt64) (x2.toInt64 + x4.toInt64) hn (rr_le0 (rr_rg_iff.mp b13).1 (rr_rg_iff.mp b24).1)) (cwV 2 hts gX2_work_X2_tell rfl rfl rfl (by decide +kernel) ⟨Nat.le_of_ble_eq_true rfl, Nat.le_of_ble_eq_true rfl⟩) (rr_vW hK hP hD (va_recv hK hP (ci := 2) (q0 := 0) rfl rfl)) rfl rfl hl.1 rfl (lv_room (Nat.le_of_ble_eq_true rfl)) dX2_work_97 ⟨Nat.le_of_ble_eq_true rfl, Nat.le_of_ble_eq_true rfl⟩) hS hA hP hD rfl rfl (by decide) (by decide) (by decide) (fun _ => by simp only [rr_wx, rr_wm, List.map_cons, List.map_nil]) (fun r97 u97 H locs e97 hP hD hS => ?_)
                have hP : va_P D vwCl [(h0, .inr (2, [.ref qT, .int (nI n), .int (nI t), .int ((rr_tl f n (x1.toInt64 + x3.toInt64) (x2.toInt64 + x4.toInt64)).1), .int ((rr_tl f n (x1.toInt64 + x3.toInt64) (x2.toInt64 + x4.toInt64)).2)])), (qT, .inl (cA, 187, .inl f))] H := hP
                have hD : va_D A [(h0, .inr (2, [.ref qT, .int (nI n), .int (nI t), .int ((rr_tl f n (x1.toInt64 + x3.toInt64) (x2.toInt64 + x4.toInt64)).1), .int ((rr_tl f n (x1.toInt64 + x3.toInt64) (x2.toInt64 + x4.toInt64)).2)])), (qT, .inl (cA, 187, .inl f))] := hD
                subst e97
                have eo : rr_op 0 x1 x2 x3 x4 = (x1.toInt64 + x3.toInt64, x2.toInt64 + x4.toInt64) := by unfold rr_op; rw [if_pos (by decide)]
                have ep : (x1.toInt64 + x3.toInt64, x2.toInt64 + x4.toInt64) = (x1.toInt64 + x3.toInt64, x2.toInt64 + x4.toInt64) := rfl
                have ee : (rr_wk f n lo hi 0 x1 x2 x3 x4) = (1, rr_tl f n (x1.toInt64 + x3.toInt64, x2.toInt64 + x4.toInt64).1 (x1.toInt64 + x3.toInt64, x2.toInt64 + x4.toInt64).2) := ((if_pos ⟨⟨c1, c7⟩, b13, b24⟩).trans (if_neg (fun z => absurd z.1 (by decide)))).trans (congrArg (fun z : Int64 × Int64 => ((1 : Int32), rr_tl f n z.1 z.2)) (eo.trans ep))
                exact W.iret (v := 1) hx hb hr (fun tt ht hW => ⟨⟨_, (), rfl, by rw [ee], by dsimp only; rw [ht, ee]; exact hP⟩, hS.F ht⟩) hS.2.2 dX2_work_100
              · skip
                refine lv_iload_n hx hb dX2_work_32 rfl (lv_at hl 1 rfl) ?_
                refine lv_tableIn (off := 68) (tgt := 101) hx hb dX2_work_33 (by decide) (by decide) (by decide +kernel) (by decide) ?_
                refine lv_aload_n hx hb dX2_work_101 rfl (lv_at hl 0 rfl) ?_
                refine lv_iload_n hx hb dX2_work_102 rfl (lv_at hl 2 rfl) ?_
                refine lv_i2l (v := x1.toInt64) hx hb dX2_work_103 rfl ?_
                refine lv_iload hx hb dX2_work_104 (lv_at hl 5 rfl) ?_
                refine lv_i2l (v := x4.toInt64) hx hb dX2_work_106 rfl ?_
                refine lv_lsub hx hb dX2_work_107 ?_
                refine lv_iload_n hx hb dX2_work_108 rfl (lv_at hl 3 rfl) ?_
                refine lv_i2l (v := x2.toInt64) hx hb dX2_work_109 rfl ?_
                refine lv_iload hx hb dX2_work_110 (lv_at hl 4 rfl) ?_
                refine lv_i2l (v := x3.toInt64) hx hb dX2_work_112 rfl ?_
                refine lv_lsub hx hb dX2_work_113 ?_
                refine rr_wi (wr := []) [0, 1] [] (va_runV (As := [.long (x1.toInt64 - x4.toInt64), .long (x2.toInt64 - x3.toInt64)]) (rest := []) ⟨hx, hb, hml, hown, hts⟩ (c_X2_tell l D h0 qT H.size cA f n t lo hi (x1.toInt64 - x4.toInt64) (x2.toInt64 - x3.toInt64) hn (rr_le1 (rr_rg_iff.mp b13).1 (rr_rg_iff.mp b24).1)) (cwV 2 hts gX2_work_X2_tell rfl rfl rfl (by decide +kernel) ⟨Nat.le_of_ble_eq_true rfl, Nat.le_of_ble_eq_true rfl⟩) (rr_vW hK hP hD (va_recv hK hP (ci := 2) (q0 := 0) rfl rfl)) rfl rfl hl.1 rfl (lv_room (Nat.le_of_ble_eq_true rfl)) dX2_work_114 ⟨Nat.le_of_ble_eq_true rfl, Nat.le_of_ble_eq_true rfl⟩) hS hA hP hD rfl rfl (by decide) (by decide) (by decide) (fun _ => by simp only [rr_wx, rr_wm, List.map_cons, List.map_nil]) (fun r114 u114 H locs e114 hP hD hS => ?_)
                have hP : va_P D vwCl [(h0, .inr (2, [.ref qT, .int (nI n), .int (nI t), .int ((rr_tl f n (x1.toInt64 - x4.toInt64) (x2.toInt64 - x3.toInt64)).1), .int ((rr_tl f n (x1.toInt64 - x4.toInt64) (x2.toInt64 - x3.toInt64)).2)])), (qT, .inl (cA, 187, .inl f))] H := hP
                have hD : va_D A [(h0, .inr (2, [.ref qT, .int (nI n), .int (nI t), .int ((rr_tl f n (x1.toInt64 - x4.toInt64) (x2.toInt64 - x3.toInt64)).1), .int ((rr_tl f n (x1.toInt64 - x4.toInt64) (x2.toInt64 - x3.toInt64)).2)])), (qT, .inl (cA, 187, .inl f))] := hD
                subst e114
                have eo : rr_op 1 x1 x2 x3 x4 = (x1.toInt64 - x4.toInt64, x2.toInt64 - x3.toInt64) := by unfold rr_op; rw [if_neg (by decide), if_pos (by decide)]
                have ep : (x1.toInt64 - x4.toInt64, x2.toInt64 - x3.toInt64) = (x1.toInt64 - x4.toInt64, x2.toInt64 - x3.toInt64) := rfl
                have ee : (rr_wk f n lo hi 1 x1 x2 x3 x4) = (1, rr_tl f n (x1.toInt64 - x4.toInt64, x2.toInt64 - x3.toInt64).1 (x1.toInt64 - x4.toInt64, x2.toInt64 - x3.toInt64).2) := ((if_pos ⟨⟨c1, c7⟩, b13, b24⟩).trans (if_neg (fun z => absurd z.1 (by decide)))).trans (congrArg (fun z : Int64 × Int64 => ((1 : Int32), rr_tl f n z.1 z.2)) (eo.trans ep))
                exact W.iret (v := 1) hx hb hr (fun tt ht hW => ⟨⟨_, (), rfl, by rw [ee], by dsimp only; rw [ht, ee]; exact hP⟩, hS.F ht⟩) hS.2.2 dX2_work_117
              · skip
                refine lv_iload_n hx hb dX2_work_32 rfl (lv_at hl 1 rfl) ?_
                refine lv_tableIn (off := 85) (tgt := 118) hx hb dX2_work_33 (by decide) (by decide) (by decide +kernel) (by decide) ?_
                refine lv_aload_n hx hb dX2_work_118 rfl (lv_at hl 0 rfl) ?_
                refine lv_iload_n hx hb dX2_work_119 rfl (lv_at hl 2 rfl) ?_
                refine lv_i2l (v := x1.toInt64) hx hb dX2_work_120 rfl ?_
                refine lv_iload hx hb dX2_work_121 (lv_at hl 4 rfl) ?_
                refine lv_i2l (v := x3.toInt64) hx hb dX2_work_123 rfl ?_
                refine lv_lmul hx hb dX2_work_124 ?_
                refine lv_iload_n hx hb dX2_work_125 rfl (lv_at hl 2 rfl) ?_
                refine lv_i2l (v := x1.toInt64) hx hb dX2_work_126 rfl ?_
                refine lv_iload hx hb dX2_work_127 (lv_at hl 5 rfl) ?_
                refine lv_i2l (v := x4.toInt64) hx hb dX2_work_129 rfl ?_
                refine lv_lmul hx hb dX2_work_130 ?_
                refine lv_iload_n hx hb dX2_work_131 rfl (lv_at hl 3 rfl) ?_
                refine lv_i2l (v := x2.toInt64) hx hb dX2_work_132 rfl ?_
                refine lv_iload hx hb dX2_work_133 (lv_at hl 4 rfl) ?_
                refine lv_i2l (v := x3.toInt64) hx hb dX2_work_135 rfl ?_
                refine lv_lmul hx hb dX2_work_136 ?_
                refine lv_iload_n hx hb dX2_work_137 rfl (lv_at hl 3 rfl) ?_
                refine lv_i2l (v := x2.toInt64) hx hb dX2_work_138 rfl ?_
                refine lv_iload hx hb dX2_work_139 (lv_at hl 5 rfl) ?_
                refine lv_i2l (v := x4.toInt64) hx hb dX2_work_141 rfl ?_
                refine lv_lmul hx hb dX2_work_142 ?_
                refine rr_wi (wr := []) [0, 1] [] (va_runV (As := [.long (x1.toInt64 * x3.toInt64), .long (x1.toInt64 * x4.toInt64), .long (x2.toInt64 * x3.toInt64), .long (x2.toInt64 * x4.toInt64)]) (rest := []) ⟨hx, hb, hml, hown, hts⟩ (c_X2_tellLeast l D h0 qT H.size cA f n t lo hi (x1.toInt64 * x3.toInt64) (x1.toInt64 * x4.toInt64) (x2.toInt64 * x3.toInt64) (x2.toInt64 * x4.toInt64) hn) (cwV 4 hts gX2_work_X2_tellLeast rfl rfl rfl (by decide +kernel) ⟨Nat.le_of_ble_eq_true rfl, Nat.le_of_ble_eq_true rfl⟩) (rr_vW hK hP hD (va_recv hK hP (ci := 2) (q0 := 0) rfl rfl)) rfl rfl hl.1 rfl (lv_room (Nat.le_of_ble_eq_true rfl)) dX2_work_143 ⟨Nat.le_of_ble_eq_true rfl, Nat.le_of_ble_eq_true rfl⟩) hS hA hP hD rfl rfl (by decide) (by decide) (by decide) (fun _ => by simp only [rr_wx, rr_wm, List.map_cons, List.map_nil]) (fun r143 u143 H locs e143 hP hD hS => ?_)
                have hP : va_P D vwCl [(h0, .inr (2, [.ref qT, .int (nI n), .int (nI t), .int ((rr_tl f n (rr_o2 x1.toInt64 x2.toInt64 x3.toInt64 x4.toInt64).1 (rr_o2 x1.toInt64 x2.toInt64 x3.toInt64 x4.toInt64).2).1), .int ((rr_tl f n (rr_o2 x1.toInt64 x2.toInt64 x3.toInt64 x4.toInt64).1 (rr_o2 x1.toInt64 x2.toInt64 x3.toInt64 x4.toInt64).2).2)])), (qT, .inl (cA, 187, .inl f))] H := hP
                have hD : va_D A [(h0, .inr (2, [.ref qT, .int (nI n), .int (nI t), .int ((rr_tl f n (rr_o2 x1.toInt64 x2.toInt64 x3.toInt64 x4.toInt64).1 (rr_o2 x1.toInt64 x2.toInt64 x3.toInt64 x4.toInt64).2).1), .int ((rr_tl f n (rr_o2 x1.toInt64 x2.toInt64 x3.toInt64 x4.toInt64).1 (rr_o2 x1.toInt64 x2.toInt64 x3.toInt64 x4.toInt64).2).2)])), (qT, .inl (cA, 187, .inl f))] := hD
                subst e143
                have eo : rr_op 2 x1 x2 x3 x4 = (rr_o2 x1.toInt64 x2.toInt64 x3.toInt64 x4.toInt64) := by unfold rr_op; rw [if_neg (by decide), if_neg (by decide), if_pos (by decide)]
                have ep : (rr_o2 x1.toInt64 x2.toInt64 x3.toInt64 x4.toInt64) = ((rr_o2 x1.toInt64 x2.toInt64 x3.toInt64 x4.toInt64).1, (rr_o2 x1.toInt64 x2.toInt64 x3.toInt64 x4.toInt64).2) := rfl
                have ee : (rr_wk f n lo hi 2 x1 x2 x3 x4) = (1, rr_tl f n ((rr_o2 x1.toInt64 x2.toInt64 x3.toInt64 x4.toInt64).1, (rr_o2 x1.toInt64 x2.toInt64 x3.toInt64 x4.toInt64).2).1 ((rr_o2 x1.toInt64 x2.toInt64 x3.toInt64 x4.toInt64).1, (rr_o2 x1.toInt64 x2.toInt64 x3.toInt64 x4.toInt64).2).2) := ((if_pos ⟨⟨c1, c7⟩, b13, b24⟩).trans (if_neg (fun z => absurd z.1 (by decide)))).trans (congrArg (fun z : Int64 × Int64 => ((1 : Int32), rr_tl f n z.1 z.2)) (eo.trans ep))
                exact W.iret (v := 1) hx hb hr (fun tt ht hW => ⟨⟨_, (), rfl, by rw [ee], by dsimp only; rw [ht, ee]; exact hP⟩, hS.F ht⟩) hS.2.2 dX2_work_146
              · skip
                refine lv_iload_n hx hb dX2_work_32 rfl (lv_at hl 1 rfl) ?_
                refine lv_tableIn (off := 114) (tgt := 147) hx hb dX2_work_33 (by decide) (by decide) (by decide +kernel) (by decide) ?_
                refine lv_aload_n hx hb dX2_work_147 rfl (lv_at hl 0 rfl) ?_
                refine lv_iload_n hx hb dX2_work_148 rfl (lv_at hl 2 rfl) ?_
                refine lv_iload_n hx hb dX2_work_149 rfl (lv_at hl 3 rfl) ?_
                refine lv_iload hx hb dX2_work_150 (lv_at hl 4 rfl) ?_
                refine lv_iload hx hb dX2_work_152 (lv_at hl 5 rfl) ?_
                refine rr_wi (wr := []) [0, 1] [] (va_runV (As := [.int x1, .int x2, .int x3, .int x4]) (rest := []) ⟨hx, hb, hml, hown, hts⟩ (c_X2_quotient l D h0 qT H.size cA f n t lo hi x1 x2 x3 x4 hn (rr_rg_iff.mp b24).1) (cwV 4 hts gX2_work_X2_quotient rfl rfl rfl (by decide +kernel) ⟨Nat.le_of_ble_eq_true rfl, Nat.le_of_ble_eq_true rfl⟩) (rr_vW hK hP hD (va_recv hK hP (ci := 2) (q0 := 0) rfl rfl)) rfl rfl hl.1 rfl (lv_room (Nat.le_of_ble_eq_true rfl)) dX2_work_154 ⟨Nat.le_of_ble_eq_true rfl, Nat.le_of_ble_eq_true rfl⟩) hS hA hP hD rfl rfl (by decide) (by decide) (by decide) (fun _ => by simp only [rr_wx, rr_wm, List.map_cons, List.map_nil]) (fun r154 u154 H locs e154 hP hD hS => ?_)
                have hP : va_P D vwCl [(h0, .inr (2, [.ref qT, .int (nI n), .int (nI t), .int ((if x3 = 0 ∧ x4 = 0 then ((0 : Int32), lo, hi) else ((1 : Int32), rr_tl f n (rr_qs x1.toInt64 x2.toInt64 x3.toInt64 x4.toInt64).1 (rr_qs x1.toInt64 x2.toInt64 x3.toInt64 x4.toInt64).2)).2.1), .int ((if x3 = 0 ∧ x4 = 0 then ((0 : Int32), lo, hi) else ((1 : Int32), rr_tl f n (rr_qs x1.toInt64 x2.toInt64 x3.toInt64 x4.toInt64).1 (rr_qs x1.toInt64 x2.toInt64 x3.toInt64 x4.toInt64).2)).2.2)])), (qT, .inl (cA, 187, .inl f))] H := hP
                have hD : va_D A [(h0, .inr (2, [.ref qT, .int (nI n), .int (nI t), .int ((if x3 = 0 ∧ x4 = 0 then ((0 : Int32), lo, hi) else ((1 : Int32), rr_tl f n (rr_qs x1.toInt64 x2.toInt64 x3.toInt64 x4.toInt64).1 (rr_qs x1.toInt64 x2.toInt64 x3.toInt64 x4.toInt64).2)).2.1), .int ((if x3 = 0 ∧ x4 = 0 then ((0 : Int32), lo, hi) else ((1 : Int32), rr_tl f n (rr_qs x1.toInt64 x2.toInt64 x3.toInt64 x4.toInt64).1 (rr_qs x1.toInt64 x2.toInt64 x3.toInt64 x4.toInt64).2)).2.2)])), (qT, .inl (cA, 187, .inl f))] := hD
                subst e154
                have eo : rr_op 3 x1 x2 x3 x4 = (rr_qs x1.toInt64 x2.toInt64 x3.toInt64 x4.toInt64) := by unfold rr_op; rw [if_neg (by decide), if_neg (by decide), if_neg (by decide), if_pos (by decide)]
                have ee : (rr_wk f n lo hi 3 x1 x2 x3 x4) = (if x3 = 0 ∧ x4 = 0 then ((0 : Int32), lo, hi) else ((1 : Int32), rr_tl f n (rr_qs x1.toInt64 x2.toInt64 x3.toInt64 x4.toInt64).1 (rr_qs x1.toInt64 x2.toInt64 x3.toInt64 x4.toInt64).2)) := by
                  unfold rr_wk
                  rw [if_pos ⟨⟨c1, c7⟩, b13, b24⟩, eo]
                  by_cases hz : x3 = 0 ∧ x4 = 0
                  · rw [if_pos ⟨by decide, hz⟩, if_pos hz]
                  · rw [if_neg (fun z => hz z.2), if_neg hz]
                exact W.iret (v := (if x3 = 0 ∧ x4 = 0 then ((0 : Int32), lo, hi) else ((1 : Int32), rr_tl f n (rr_qs x1.toInt64 x2.toInt64 x3.toInt64 x4.toInt64).1 (rr_qs x1.toInt64 x2.toInt64 x3.toInt64 x4.toInt64).2)).1) hx hb hr (fun tt ht hW => ⟨⟨_, (), rfl, by rw [ee], by dsimp only; rw [ht, ee]; exact hP⟩, hS.F ht⟩) hS.2.2 dX2_work_157
              · skip
                refine lv_iload_n hx hb dX2_work_32 rfl (lv_at hl 1 rfl) ?_
                refine lv_tableIn (off := 125) (tgt := 158) hx hb dX2_work_33 (by decide) (by decide) (by decide +kernel) (by decide) ?_
                refine lv_aload_n hx hb dX2_work_158 rfl (lv_at hl 0 rfl) ?_
                refine lv_iload_n hx hb dX2_work_159 rfl (lv_at hl 2 rfl) ?_
                refine lv_iload_n hx hb dX2_work_160 rfl (lv_at hl 3 rfl) ?_
                refine lv_iload hx hb dX2_work_161 (lv_at hl 4 rfl) ?_
                refine lv_i2l (v := x3.toInt64) hx hb dX2_work_163 rfl ?_
                refine lv_iload hx hb dX2_work_164 (lv_at hl 5 rfl) ?_
                refine lv_i2l (v := x4.toInt64) hx hb dX2_work_166 rfl ?_
                refine rr_wi (wr := []) [0, 1] [] (va_runV (As := [.int x1, .int x2, .long x3.toInt64, .long x4.toInt64]) (rest := []) ⟨hx, hb, hml, hown, hts⟩ (c_X2_rest l D h0 qT H.size cA f n t lo hi x1 x2 x3 x4 hn (rr_rg_iff.mp b13).1) (cwV 4 hts gX2_work_X2_rest rfl rfl rfl (by decide +kernel) ⟨Nat.le_of_ble_eq_true rfl, Nat.le_of_ble_eq_true rfl⟩) (rr_vW hK hP hD (va_recv hK hP (ci := 2) (q0 := 0) rfl rfl)) rfl rfl hl.1 rfl (lv_room (Nat.le_of_ble_eq_true rfl)) dX2_work_167 ⟨Nat.le_of_ble_eq_true rfl, Nat.le_of_ble_eq_true rfl⟩) hS hA hP hD rfl rfl (by decide) (by decide) (by decide) (fun _ => by simp only [rr_wx, rr_wm, List.map_cons, List.map_nil]) (fun r167 u167 H locs e167 hP hD hS => ?_)
                have hP : va_P D vwCl [(h0, .inr (2, [.ref qT, .int (nI n), .int (nI t), .int ((if x3 = 0 ∧ x4 = 0 then ((0 : Int32), lo, hi) else ((1 : Int32), rr_tl f n (rr_rs x1.toInt64 x2.toInt64 x3.toInt64 x4.toInt64).1 (rr_rs x1.toInt64 x2.toInt64 x3.toInt64 x4.toInt64).2)).2.1), .int ((if x3 = 0 ∧ x4 = 0 then ((0 : Int32), lo, hi) else ((1 : Int32), rr_tl f n (rr_rs x1.toInt64 x2.toInt64 x3.toInt64 x4.toInt64).1 (rr_rs x1.toInt64 x2.toInt64 x3.toInt64 x4.toInt64).2)).2.2)])), (qT, .inl (cA, 187, .inl f))] H := hP
                have hD : va_D A [(h0, .inr (2, [.ref qT, .int (nI n), .int (nI t), .int ((if x3 = 0 ∧ x4 = 0 then ((0 : Int32), lo, hi) else ((1 : Int32), rr_tl f n (rr_rs x1.toInt64 x2.toInt64 x3.toInt64 x4.toInt64).1 (rr_rs x1.toInt64 x2.toInt64 x3.toInt64 x4.toInt64).2)).2.1), .int ((if x3 = 0 ∧ x4 = 0 then ((0 : Int32), lo, hi) else ((1 : Int32), rr_tl f n (rr_rs x1.toInt64 x2.toInt64 x3.toInt64 x4.toInt64).1 (rr_rs x1.toInt64 x2.toInt64 x3.toInt64 x4.toInt64).2)).2.2)])), (qT, .inl (cA, 187, .inl f))] := hD
                subst e167
                have eo : rr_op 4 x1 x2 x3 x4 = (rr_rs x1.toInt64 x2.toInt64 x3.toInt64 x4.toInt64) := by unfold rr_op; rw [if_neg (by decide), if_neg (by decide), if_neg (by decide), if_neg (by decide), if_pos (by decide)]
                have ee : (rr_wk f n lo hi 4 x1 x2 x3 x4) = (if x3 = 0 ∧ x4 = 0 then ((0 : Int32), lo, hi) else ((1 : Int32), rr_tl f n (rr_rs x1.toInt64 x2.toInt64 x3.toInt64 x4.toInt64).1 (rr_rs x1.toInt64 x2.toInt64 x3.toInt64 x4.toInt64).2)) := by
                  unfold rr_wk
                  rw [if_pos ⟨⟨c1, c7⟩, b13, b24⟩, eo]
                  by_cases hz : x3 = 0 ∧ x4 = 0
                  · rw [if_pos ⟨by decide, hz⟩, if_pos hz]
                  · rw [if_neg (fun z => hz z.2), if_neg hz]
                exact W.iret (v := (if x3 = 0 ∧ x4 = 0 then ((0 : Int32), lo, hi) else ((1 : Int32), rr_tl f n (rr_rs x1.toInt64 x2.toInt64 x3.toInt64 x4.toInt64).1 (rr_rs x1.toInt64 x2.toInt64 x3.toInt64 x4.toInt64).2)).1) hx hb hr (fun tt ht hW => ⟨⟨_, (), rfl, by rw [ee], by dsimp only; rw [ht, ee]; exact hP⟩, hS.F ht⟩) hS.2.2 dX2_work_170
              · skip
                refine lv_iload_n hx hb dX2_work_32 rfl (lv_at hl 1 rfl) ?_
                refine lv_tableIn (off := 138) (tgt := 171) hx hb dX2_work_33 (by decide) (by decide) (by decide +kernel) (by decide) ?_
                refine lv_iload_n hx hb dX2_work_171 rfl (lv_at hl 2 rfl) ?_
                refine lv_if_ge (tgt := 185) hx hb dX2_work_172 (by decide) (fun c172 => ?_) (fun c172 => ?_)
                · skip
                  refine lv_aload_n hx hb dX2_work_185 rfl (lv_at hl 0 rfl) ?_
                  refine lv_lconst (v := 0) hx hb dX2_work_186 (by decide) ?_
                  refine lv_iload_n hx hb dX2_work_187 rfl (lv_at hl 2 rfl) ?_
                  refine lv_if_ge (tgt := 197) hx hb dX2_work_188 (by decide) (fun c188 => ?_) (fun c188 => ?_)
                  · skip
                    refine lv_iload hx hb dX2_work_197 (lv_at hl 4 rfl) ?_
                    refine lv_if_ge (tgt := 207) hx hb dX2_work_199 (by decide) (fun c199 => ?_) (fun c199 => ?_)
                    · skip
                      refine lv_iload_n hx hb dX2_work_207 rfl (lv_at hl 3 rfl) ?_
                      refine lv_iload hx hb dX2_work_208 (lv_at hl 5 rfl) ?_
                      refine va_mmin hx hb (hml.trans hl.1.symm) hown (hts (.methodLink RX2 43 Lib.Math.min.name) (by decide +kernel)) (hts (.static Lib.Math.min.name) (by decide +kernel)) (hts (.initialized "java/lang/Math") (by decide +kernel)) (hts (.code Lib.Math.min.name Lib.Math.min.code 2 (some .int)) (by decide +kernel)) (Nat.le_of_ble_eq_true rfl) (Nat.le_of_ble_eq_true rfl) (Nat.le_of_ble_eq_true rfl) (Nat.le_of_ble_eq_true rfl) dX2_work_210 ?_
                      refine W.eq (g2 := F0 m 213 ls [.int (rr_ni x2 x4), .long 0, .ref h0]) rfl ?_
                      refine lv_i2l (v := (rr_ni x2 x4).toInt64) hx hb dX2_work_213 rfl ?_
                      have er : (rr_o5 x1 x2 x3 x4) = (0, (rr_ni x2 x4).toInt64) := (if_neg (fun z => by first | exact absurd z.1 (Int32.not_lt.mpr c172) | exact absurd z.2 (Int32.not_lt.mpr c177))).trans ((if_neg (Int32.not_lt.mpr c188)).trans (if_neg (Int32.not_lt.mpr c199)))
                      have hz2 := rr_le5 (rr_rg_iff.mp b13).1 (rr_rg_iff.mp b24).1
                      rw [er] at hz2
                      refine rr_wi (wr := []) [0, 1] [] (va_runV (As := [.long 0, .long ((rr_ni x2 x4).toInt64)]) (rest := []) ⟨hx, hb, hml, hown, hts⟩ (c_X2_tell l D h0 qT H.size cA f n t lo hi 0 ((rr_ni x2 x4).toInt64) hn hz2) (cwV 2 hts gX2_work_X2_tell rfl rfl rfl (by decide +kernel) ⟨Nat.le_of_ble_eq_true rfl, Nat.le_of_ble_eq_true rfl⟩) (rr_vW hK hP hD (va_recv hK hP (ci := 2) (q0 := 0) rfl rfl)) rfl rfl hl.1 rfl (lv_room (Nat.le_of_ble_eq_true rfl)) dX2_work_214 ⟨Nat.le_of_ble_eq_true rfl, Nat.le_of_ble_eq_true rfl⟩) hS hA hP hD rfl rfl (by decide) (by decide) (by decide) (fun _ => by simp only [rr_wx, rr_wm, List.map_cons, List.map_nil]) (fun r214 u214 H locs e214 hP hD hS => ?_)
                      have hP : va_P D vwCl [(h0, .inr (2, [.ref qT, .int (nI n), .int (nI t), .int ((rr_tl f n 0 ((rr_ni x2 x4).toInt64)).1), .int ((rr_tl f n 0 ((rr_ni x2 x4).toInt64)).2)])), (qT, .inl (cA, 187, .inl f))] H := hP
                      have hD : va_D A [(h0, .inr (2, [.ref qT, .int (nI n), .int (nI t), .int ((rr_tl f n 0 ((rr_ni x2 x4).toInt64)).1), .int ((rr_tl f n 0 ((rr_ni x2 x4).toInt64)).2)])), (qT, .inl (cA, 187, .inl f))] := hD
                      subst e214
                      have eo : rr_op 5 x1 x2 x3 x4 = (rr_o5 x1 x2 x3 x4) := by unfold rr_op; rw [if_neg (by decide), if_neg (by decide), if_neg (by decide), if_neg (by decide), if_neg (by decide), if_pos (by decide)]
                      have ep : (rr_o5 x1 x2 x3 x4) = (0, (rr_ni x2 x4).toInt64) := (if_neg (fun z => by first | exact absurd z.1 (Int32.not_lt.mpr c172) | exact absurd z.2 (Int32.not_lt.mpr c177))).trans ((if_neg (Int32.not_lt.mpr c188)).trans (if_neg (Int32.not_lt.mpr c199)))
                      have ee : (rr_wk f n lo hi 5 x1 x2 x3 x4) = (1, rr_tl f n (0, (rr_ni x2 x4).toInt64).1 (0, (rr_ni x2 x4).toInt64).2) := ((if_pos ⟨⟨c1, c7⟩, b13, b24⟩).trans (if_neg (fun z => absurd z.1 (by decide)))).trans (congrArg (fun z : Int64 × Int64 => ((1 : Int32), rr_tl f n z.1 z.2)) (eo.trans ep))
                      exact W.iret (v := 1) hx hb hr (fun tt ht hW => ⟨⟨_, (), rfl, by rw [ee], by dsimp only; rw [ht, ee]; exact hP⟩, hS.F ht⟩) hS.2.2 dX2_work_217
                    · skip
                      refine lv_iload_n hx hb dX2_work_202 rfl (lv_at hl 3 rfl) ?_
                      refine lv_i2l (v := x2.toInt64) hx hb dX2_work_203 rfl ?_
                      refine lv_goto (tgt := 214) hx hb dX2_work_204 (by decide) ?_
                      have er : (rr_o5 x1 x2 x3 x4) = (0, x2.toInt64) := (if_neg (fun z => by first | exact absurd z.1 (Int32.not_lt.mpr c172) | exact absurd z.2 (Int32.not_lt.mpr c177))).trans ((if_neg (Int32.not_lt.mpr c188)).trans (if_pos (Int32.not_le.mp c199)))
                      have hz2 := rr_le5 (rr_rg_iff.mp b13).1 (rr_rg_iff.mp b24).1
                      rw [er] at hz2
                      refine rr_wi (wr := []) [0, 1] [] (va_runV (As := [.long 0, .long x2.toInt64]) (rest := []) ⟨hx, hb, hml, hown, hts⟩ (c_X2_tell l D h0 qT H.size cA f n t lo hi 0 x2.toInt64 hn hz2) (cwV 2 hts gX2_work_X2_tell rfl rfl rfl (by decide +kernel) ⟨Nat.le_of_ble_eq_true rfl, Nat.le_of_ble_eq_true rfl⟩) (rr_vW hK hP hD (va_recv hK hP (ci := 2) (q0 := 0) rfl rfl)) rfl rfl hl.1 rfl (lv_room (Nat.le_of_ble_eq_true rfl)) dX2_work_214 ⟨Nat.le_of_ble_eq_true rfl, Nat.le_of_ble_eq_true rfl⟩) hS hA hP hD rfl rfl (by decide) (by decide) (by decide) (fun _ => by simp only [rr_wx, rr_wm, List.map_cons, List.map_nil]) (fun r214 u214 H locs e214 hP hD hS => ?_)
                      have hP : va_P D vwCl [(h0, .inr (2, [.ref qT, .int (nI n), .int (nI t), .int ((rr_tl f n 0 x2.toInt64).1), .int ((rr_tl f n 0 x2.toInt64).2)])), (qT, .inl (cA, 187, .inl f))] H := hP
                      have hD : va_D A [(h0, .inr (2, [.ref qT, .int (nI n), .int (nI t), .int ((rr_tl f n 0 x2.toInt64).1), .int ((rr_tl f n 0 x2.toInt64).2)])), (qT, .inl (cA, 187, .inl f))] := hD
                      subst e214
                      have eo : rr_op 5 x1 x2 x3 x4 = (rr_o5 x1 x2 x3 x4) := by unfold rr_op; rw [if_neg (by decide), if_neg (by decide), if_neg (by decide), if_neg (by decide), if_neg (by decide), if_pos (by decide)]
                      have ep : (rr_o5 x1 x2 x3 x4) = (0, x2.toInt64) := (if_neg (fun z => by first | exact absurd z.1 (Int32.not_lt.mpr c172) | exact absurd z.2 (Int32.not_lt.mpr c177))).trans ((if_neg (Int32.not_lt.mpr c188)).trans (if_pos (Int32.not_le.mp c199)))
                      have ee : (rr_wk f n lo hi 5 x1 x2 x3 x4) = (1, rr_tl f n (0, x2.toInt64).1 (0, x2.toInt64).2) := ((if_pos ⟨⟨c1, c7⟩, b13, b24⟩).trans (if_neg (fun z => absurd z.1 (by decide)))).trans (congrArg (fun z : Int64 × Int64 => ((1 : Int32), rr_tl f n z.1 z.2)) (eo.trans ep))
                      exact W.iret (v := 1) hx hb hr (fun tt ht hW => ⟨⟨_, (), rfl, by rw [ee], by dsimp only; rw [ht, ee]; exact hP⟩, hS.F ht⟩) hS.2.2 dX2_work_217
                  · skip
                    exact absurd c172 c188
                · skip
                  refine lv_iload hx hb dX2_work_175 (lv_at hl 4 rfl) ?_
                  refine lv_if_ge (tgt := 185) hx hb dX2_work_177 (by decide) (fun c177 => ?_) (fun c177 => ?_)
                  · skip
                    refine lv_aload_n hx hb dX2_work_185 rfl (lv_at hl 0 rfl) ?_
                    refine lv_lconst (v := 0) hx hb dX2_work_186 (by decide) ?_
                    refine lv_iload_n hx hb dX2_work_187 rfl (lv_at hl 2 rfl) ?_
                    refine lv_if_ge (tgt := 197) hx hb dX2_work_188 (by decide) (fun c188 => ?_) (fun c188 => ?_)
                    · skip
                      exact absurd c188 c172
                    · skip
                      refine lv_iload hx hb dX2_work_191 (lv_at hl 5 rfl) ?_
                      refine lv_i2l (v := x4.toInt64) hx hb dX2_work_193 rfl ?_
                      refine lv_goto (tgt := 214) hx hb dX2_work_194 (by decide) ?_
                      have er : (rr_o5 x1 x2 x3 x4) = (0, x4.toInt64) := (if_neg (fun z => by first | exact absurd z.1 (Int32.not_lt.mpr c172) | exact absurd z.2 (Int32.not_lt.mpr c177))).trans (if_pos (Int32.not_le.mp c188))
                      have hz2 := rr_le5 (rr_rg_iff.mp b13).1 (rr_rg_iff.mp b24).1
                      rw [er] at hz2
                      refine rr_wi (wr := []) [0, 1] [] (va_runV (As := [.long 0, .long x4.toInt64]) (rest := []) ⟨hx, hb, hml, hown, hts⟩ (c_X2_tell l D h0 qT H.size cA f n t lo hi 0 x4.toInt64 hn hz2) (cwV 2 hts gX2_work_X2_tell rfl rfl rfl (by decide +kernel) ⟨Nat.le_of_ble_eq_true rfl, Nat.le_of_ble_eq_true rfl⟩) (rr_vW hK hP hD (va_recv hK hP (ci := 2) (q0 := 0) rfl rfl)) rfl rfl hl.1 rfl (lv_room (Nat.le_of_ble_eq_true rfl)) dX2_work_214 ⟨Nat.le_of_ble_eq_true rfl, Nat.le_of_ble_eq_true rfl⟩) hS hA hP hD rfl rfl (by decide) (by decide) (by decide) (fun _ => by simp only [rr_wx, rr_wm, List.map_cons, List.map_nil]) (fun r214 u214 H locs e214 hP hD hS => ?_)
                      have hP : va_P D vwCl [(h0, .inr (2, [.ref qT, .int (nI n), .int (nI t), .int ((rr_tl f n 0 x4.toInt64).1), .int ((rr_tl f n 0 x4.toInt64).2)])), (qT, .inl (cA, 187, .inl f))] H := hP
                      have hD : va_D A [(h0, .inr (2, [.ref qT, .int (nI n), .int (nI t), .int ((rr_tl f n 0 x4.toInt64).1), .int ((rr_tl f n 0 x4.toInt64).2)])), (qT, .inl (cA, 187, .inl f))] := hD
                      subst e214
                      have eo : rr_op 5 x1 x2 x3 x4 = (rr_o5 x1 x2 x3 x4) := by unfold rr_op; rw [if_neg (by decide), if_neg (by decide), if_neg (by decide), if_neg (by decide), if_neg (by decide), if_pos (by decide)]
                      have ep : (rr_o5 x1 x2 x3 x4) = (0, x4.toInt64) := (if_neg (fun z => by first | exact absurd z.1 (Int32.not_lt.mpr c172) | exact absurd z.2 (Int32.not_lt.mpr c177))).trans (if_pos (Int32.not_le.mp c188))
                      have ee : (rr_wk f n lo hi 5 x1 x2 x3 x4) = (1, rr_tl f n (0, x4.toInt64).1 (0, x4.toInt64).2) := ((if_pos ⟨⟨c1, c7⟩, b13, b24⟩).trans (if_neg (fun z => absurd z.1 (by decide)))).trans (congrArg (fun z : Int64 × Int64 => ((1 : Int32), rr_tl f n z.1 z.2)) (eo.trans ep))
                      exact W.iret (v := 1) hx hb hr (fun tt ht hW => ⟨⟨_, (), rfl, by rw [ee], by dsimp only; rw [ht, ee]; exact hP⟩, hS.F ht⟩) hS.2.2 dX2_work_217
                  · skip
                    refine lv_aload_n hx hb dX2_work_180 rfl (lv_at hl 0 rfl) ?_
                    refine rr_wi (wr := []) [0, 1] [] (va_runV (As := []) (rest := []) ⟨hx, hb, hml, hown, hts⟩ (c_X2_tellAll l D h0 qT H.size cA f n t lo hi  hn) (cwV 0 hts gX2_work_X2_tellAll rfl rfl rfl (by decide +kernel) ⟨Nat.le_of_ble_eq_true rfl, Nat.le_of_ble_eq_true rfl⟩) (rr_vW hK hP hD (va_recv hK hP (ci := 2) (q0 := 0) rfl rfl)) rfl rfl hl.1 rfl (lv_room (Nat.le_of_ble_eq_true rfl)) dX2_work_181 ⟨Nat.le_of_ble_eq_true rfl, Nat.le_of_ble_eq_true rfl⟩) hS hA hP hD rfl rfl (by decide) (by decide) (by decide) (fun _ => by simp only [rr_wx, rr_wm, List.map_cons, List.map_nil]) (fun r181 u181 H locs e181 hP hD hS => ?_)
                    have hP : va_P D vwCl [(h0, .inr (2, [.ref qT, .int (nI n), .int (nI t), .int ((-2147483648)), .int 2147483647])), (qT, .inl (cA, 187, .inl f))] H := hP
                    have hD : va_D A [(h0, .inr (2, [.ref qT, .int (nI n), .int (nI t), .int ((-2147483648)), .int 2147483647])), (qT, .inl (cA, 187, .inl f))] := hD
                    subst e181
                    have eo : rr_op 5 x1 x2 x3 x4 = (rr_o5 x1 x2 x3 x4) := by unfold rr_op; rw [if_neg (by decide), if_neg (by decide), if_neg (by decide), if_neg (by decide), if_neg (by decide), if_pos (by decide)]
                    have ep : (rr_o5 x1 x2 x3 x4) = (-2147483648, 2147483647) := if_pos ⟨Int32.not_le.mp c172, Int32.not_le.mp c177⟩
                    have ee : (rr_wk f n lo hi 5 x1 x2 x3 x4) = (1, rr_tl f n (-2147483648, 2147483647).1 (-2147483648, 2147483647).2) := ((if_pos ⟨⟨c1, c7⟩, b13, b24⟩).trans (if_neg (fun z => absurd z.1 (by decide)))).trans (congrArg (fun z : Int64 × Int64 => ((1 : Int32), rr_tl f n z.1 z.2)) (eo.trans ep))
                    have ef : rr_tl f n ((-2147483648, 2147483647) : Int64 × Int64).1 ((-2147483648, 2147483647) : Int64 × Int64).2 = (-2147483648, 2147483647) := rr_tl_all f n
                    rw [ef] at ee
                    exact W.iret (v := 1) hx hb hr (fun tt ht hW => ⟨⟨_, (), rfl, by rw [ee], by dsimp only; rw [ht, ee]; exact hP⟩, hS.F ht⟩) hS.2.2 dX2_work_184
              · skip
                refine lv_iload_n hx hb dX2_work_32 rfl (lv_at hl 1 rfl) ?_
                refine lv_tableIn (off := 185) (tgt := 218) hx hb dX2_work_33 (by decide) (by decide) (by decide +kernel) (by decide) ?_
                refine lv_iload_n hx hb dX2_work_218 rfl (lv_at hl 2 rfl) ?_
                refine lv_if_lt (tgt := 227) hx hb dX2_work_219 (by decide) (fun c219 => ?_) (fun c219 => ?_)
                · skip
                  refine lv_aload_n hx hb dX2_work_227 rfl (lv_at hl 0 rfl) ?_
                  refine rr_wi (wr := []) [0, 1] [] (va_runV (As := []) (rest := []) ⟨hx, hb, hml, hown, hts⟩ (c_X2_tellAll l D h0 qT H.size cA f n t lo hi  hn) (cwV 0 hts gX2_work_X2_tellAll rfl rfl rfl (by decide +kernel) ⟨Nat.le_of_ble_eq_true rfl, Nat.le_of_ble_eq_true rfl⟩) (rr_vW hK hP hD (va_recv hK hP (ci := 2) (q0 := 0) rfl rfl)) rfl rfl hl.1 rfl (lv_room (Nat.le_of_ble_eq_true rfl)) dX2_work_228 ⟨Nat.le_of_ble_eq_true rfl, Nat.le_of_ble_eq_true rfl⟩) hS hA hP hD rfl rfl (by decide) (by decide) (by decide) (fun _ => by simp only [rr_wx, rr_wm, List.map_cons, List.map_nil]) (fun r228 u228 H locs e228 hP hD hS => ?_)
                  have hP : va_P D vwCl [(h0, .inr (2, [.ref qT, .int (nI n), .int (nI t), .int ((-2147483648)), .int 2147483647])), (qT, .inl (cA, 187, .inl f))] H := hP
                  have hD : va_D A [(h0, .inr (2, [.ref qT, .int (nI n), .int (nI t), .int ((-2147483648)), .int 2147483647])), (qT, .inl (cA, 187, .inl f))] := hD
                  subst e228
                  have eo : rr_op 6 x1 x2 x3 x4 = (rr_o6 x1 x2 x3 x4) := by unfold rr_op; rw [if_neg (by decide), if_neg (by decide), if_neg (by decide), if_neg (by decide), if_neg (by decide), if_neg (by decide), if_pos (by decide)]
                  have ep : (rr_o6 x1 x2 x3 x4) = (-2147483648, 2147483647) := if_pos (by first | exact Or.inl c219 | exact Or.inr (Int32.not_le.mp c224))
                  have ee : (rr_wk f n lo hi 6 x1 x2 x3 x4) = (1, rr_tl f n (-2147483648, 2147483647).1 (-2147483648, 2147483647).2) := ((if_pos ⟨⟨c1, c7⟩, b13, b24⟩).trans (if_neg (fun z => absurd z.1 (by decide)))).trans (congrArg (fun z : Int64 × Int64 => ((1 : Int32), rr_tl f n z.1 z.2)) (eo.trans ep))
                  have ef : rr_tl f n ((-2147483648, 2147483647) : Int64 × Int64).1 ((-2147483648, 2147483647) : Int64 × Int64).2 = (-2147483648, 2147483647) := rr_tl_all f n
                  rw [ef] at ee
                  exact W.iret (v := 1) hx hb hr (fun tt ht hW => ⟨⟨_, (), rfl, by rw [ee], by dsimp only; rw [ht, ee]; exact hP⟩, hS.F ht⟩) hS.2.2 dX2_work_231
                · skip
                  refine lv_iload hx hb dX2_work_222 (lv_at hl 4 rfl) ?_
                  refine lv_if_ge (tgt := 232) hx hb dX2_work_224 (by decide) (fun c224 => ?_) (fun c224 => ?_)
                  · skip
                    refine lv_aload_n hx hb dX2_work_232 rfl (lv_at hl 0 rfl) ?_
                    refine lv_lconst (v := 0) hx hb dX2_work_233 (by decide) ?_
                    refine lv_iload_n hx hb dX2_work_234 rfl (lv_at hl 3 rfl) ?_
                    refine lv_iload hx hb dX2_work_235 (lv_at hl 5 rfl) ?_
                    refine va_mmax hx hb (hml.trans hl.1.symm) hown (hts (.methodLink RX2 36 Lib.Math.max.name) (by decide +kernel)) (hts (.static Lib.Math.max.name) (by decide +kernel)) (hts (.initialized "java/lang/Math") (by decide +kernel)) (hts (.code Lib.Math.max.name Lib.Math.max.code 2 (some .int)) (by decide +kernel)) (Nat.le_of_ble_eq_true rfl) (Nat.le_of_ble_eq_true rfl) (Nat.le_of_ble_eq_true rfl) (Nat.le_of_ble_eq_true rfl) dX2_work_237 ?_
                    refine W.eq (g2 := F0 m 240 ls [.int (rr_xi x2 x4), .long 0, .ref h0]) rfl ?_
                    refine rr_rl (va_runS (As := [.int (rr_xi x2 x4)]) (rest := [.long 0, .ref h0]) ⟨hx, hb, hml, hown, hts⟩ (c_X2_ones l H.size (rr_xi x2 x4)) (va_cwS 1 hts gX2_work_X2_ones rfl rfl rfl (by decide +kernel) ⟨Nat.le_of_ble_eq_true rfl, Nat.le_of_ble_eq_true rfl⟩) rr_v0 rfl rfl hl.1 rfl (lv_room (Nat.le_of_ble_eq_true rfl)) dX2_work_240 ⟨Nat.le_of_ble_eq_true rfl, Nat.le_of_ble_eq_true rfl⟩) hS hA hP (fun r240 H locs e240 hP hS => ?_)
                    subst e240
                    have er : (rr_o6 x1 x2 x3 x4) = (0, lN (rr_on (rr_xi x2 x4) 31 0)) := if_neg (fun z => by rcases z with z | z; exact c219 z; exact absurd z (Int32.not_lt.mpr c224))
                    have hz2 := rr_le6 x1 x2 x3 x4
                    rw [er] at hz2
                    refine rr_wi (wr := []) [0, 1] [] (va_runV (As := [.long 0, .long (lN (rr_on (rr_xi x2 x4) 31 0))]) (rest := []) ⟨hx, hb, hml, hown, hts⟩ (c_X2_tell l D h0 qT H.size cA f n t lo hi 0 (lN (rr_on (rr_xi x2 x4) 31 0)) hn hz2) (cwV 2 hts gX2_work_X2_tell rfl rfl rfl (by decide +kernel) ⟨Nat.le_of_ble_eq_true rfl, Nat.le_of_ble_eq_true rfl⟩) (rr_vW hK hP hD (va_recv hK hP (ci := 2) (q0 := 0) rfl rfl)) rfl rfl hl.1 rfl (lv_room (Nat.le_of_ble_eq_true rfl)) dX2_work_243 ⟨Nat.le_of_ble_eq_true rfl, Nat.le_of_ble_eq_true rfl⟩) hS hA hP hD rfl rfl (by decide) (by decide) (by decide) (fun _ => by simp only [rr_wx, rr_wm, List.map_cons, List.map_nil]) (fun r243 u243 H locs e243 hP hD hS => ?_)
                    have hP : va_P D vwCl [(h0, .inr (2, [.ref qT, .int (nI n), .int (nI t), .int ((rr_tl f n 0 (lN (rr_on (rr_xi x2 x4) 31 0))).1), .int ((rr_tl f n 0 (lN (rr_on (rr_xi x2 x4) 31 0))).2)])), (qT, .inl (cA, 187, .inl f))] H := hP
                    have hD : va_D A [(h0, .inr (2, [.ref qT, .int (nI n), .int (nI t), .int ((rr_tl f n 0 (lN (rr_on (rr_xi x2 x4) 31 0))).1), .int ((rr_tl f n 0 (lN (rr_on (rr_xi x2 x4) 31 0))).2)])), (qT, .inl (cA, 187, .inl f))] := hD
                    subst e243
                    have eo : rr_op 6 x1 x2 x3 x4 = (rr_o6 x1 x2 x3 x4) := by unfold rr_op; rw [if_neg (by decide), if_neg (by decide), if_neg (by decide), if_neg (by decide), if_neg (by decide), if_neg (by decide), if_pos (by decide)]
                    have ep : (rr_o6 x1 x2 x3 x4) = (0, lN (rr_on (rr_xi x2 x4) 31 0)) := if_neg (fun z => by rcases z with z | z; exact c219 z; exact absurd z (Int32.not_lt.mpr c224))
                    have ee : (rr_wk f n lo hi 6 x1 x2 x3 x4) = (1, rr_tl f n (0, lN (rr_on (rr_xi x2 x4) 31 0)).1 (0, lN (rr_on (rr_xi x2 x4) 31 0)).2) := ((if_pos ⟨⟨c1, c7⟩, b13, b24⟩).trans (if_neg (fun z => absurd z.1 (by decide)))).trans (congrArg (fun z : Int64 × Int64 => ((1 : Int32), rr_tl f n z.1 z.2)) (eo.trans ep))
                    exact W.iret (v := 1) hx hb hr (fun tt ht hW => ⟨⟨_, (), rfl, by rw [ee], by dsimp only; rw [ht, ee]; exact hP⟩, hS.F ht⟩) hS.2.2 dX2_work_246
                  · skip
                    refine lv_aload_n hx hb dX2_work_227 rfl (lv_at hl 0 rfl) ?_
                    refine rr_wi (wr := []) [0, 1] [] (va_runV (As := []) (rest := []) ⟨hx, hb, hml, hown, hts⟩ (c_X2_tellAll l D h0 qT H.size cA f n t lo hi  hn) (cwV 0 hts gX2_work_X2_tellAll rfl rfl rfl (by decide +kernel) ⟨Nat.le_of_ble_eq_true rfl, Nat.le_of_ble_eq_true rfl⟩) (rr_vW hK hP hD (va_recv hK hP (ci := 2) (q0 := 0) rfl rfl)) rfl rfl hl.1 rfl (lv_room (Nat.le_of_ble_eq_true rfl)) dX2_work_228 ⟨Nat.le_of_ble_eq_true rfl, Nat.le_of_ble_eq_true rfl⟩) hS hA hP hD rfl rfl (by decide) (by decide) (by decide) (fun _ => by simp only [rr_wx, rr_wm, List.map_cons, List.map_nil]) (fun r228 u228 H locs e228 hP hD hS => ?_)
                    have hP : va_P D vwCl [(h0, .inr (2, [.ref qT, .int (nI n), .int (nI t), .int ((-2147483648)), .int 2147483647])), (qT, .inl (cA, 187, .inl f))] H := hP
                    have hD : va_D A [(h0, .inr (2, [.ref qT, .int (nI n), .int (nI t), .int ((-2147483648)), .int 2147483647])), (qT, .inl (cA, 187, .inl f))] := hD
                    subst e228
                    have eo : rr_op 6 x1 x2 x3 x4 = (rr_o6 x1 x2 x3 x4) := by unfold rr_op; rw [if_neg (by decide), if_neg (by decide), if_neg (by decide), if_neg (by decide), if_neg (by decide), if_neg (by decide), if_pos (by decide)]
                    have ep : (rr_o6 x1 x2 x3 x4) = (-2147483648, 2147483647) := if_pos (by first | exact Or.inl c219 | exact Or.inr (Int32.not_le.mp c224))
                    have ee : (rr_wk f n lo hi 6 x1 x2 x3 x4) = (1, rr_tl f n (-2147483648, 2147483647).1 (-2147483648, 2147483647).2) := ((if_pos ⟨⟨c1, c7⟩, b13, b24⟩).trans (if_neg (fun z => absurd z.1 (by decide)))).trans (congrArg (fun z : Int64 × Int64 => ((1 : Int32), rr_tl f n z.1 z.2)) (eo.trans ep))
                    have ef : rr_tl f n ((-2147483648, 2147483647) : Int64 × Int64).1 ((-2147483648, 2147483647) : Int64 × Int64).2 = (-2147483648, 2147483647) := rr_tl_all f n
                    rw [ef] at ee
                    exact W.iret (v := 1) hx hb hr (fun tt ht hW => ⟨⟨_, (), rfl, by rw [ee], by dsimp only; rw [ht, ee]; exact hP⟩, hS.F ht⟩) hS.2.2 dX2_work_231
              · skip
                refine lv_iload_n hx hb dX2_work_32 rfl (lv_at hl 1 rfl) ?_
                refine lv_tableIn (off := 185) (tgt := 218) hx hb dX2_work_33 (by decide) (by decide) (by decide +kernel) (by decide) ?_
                refine lv_iload_n hx hb dX2_work_218 rfl (lv_at hl 2 rfl) ?_
                refine lv_if_lt (tgt := 227) hx hb dX2_work_219 (by decide) (fun c219 => ?_) (fun c219 => ?_)
                · skip
                  refine lv_aload_n hx hb dX2_work_227 rfl (lv_at hl 0 rfl) ?_
                  refine rr_wi (wr := []) [0, 1] [] (va_runV (As := []) (rest := []) ⟨hx, hb, hml, hown, hts⟩ (c_X2_tellAll l D h0 qT H.size cA f n t lo hi  hn) (cwV 0 hts gX2_work_X2_tellAll rfl rfl rfl (by decide +kernel) ⟨Nat.le_of_ble_eq_true rfl, Nat.le_of_ble_eq_true rfl⟩) (rr_vW hK hP hD (va_recv hK hP (ci := 2) (q0 := 0) rfl rfl)) rfl rfl hl.1 rfl (lv_room (Nat.le_of_ble_eq_true rfl)) dX2_work_228 ⟨Nat.le_of_ble_eq_true rfl, Nat.le_of_ble_eq_true rfl⟩) hS hA hP hD rfl rfl (by decide) (by decide) (by decide) (fun _ => by simp only [rr_wx, rr_wm, List.map_cons, List.map_nil]) (fun r228 u228 H locs e228 hP hD hS => ?_)
                  have hP : va_P D vwCl [(h0, .inr (2, [.ref qT, .int (nI n), .int (nI t), .int ((-2147483648)), .int 2147483647])), (qT, .inl (cA, 187, .inl f))] H := hP
                  have hD : va_D A [(h0, .inr (2, [.ref qT, .int (nI n), .int (nI t), .int ((-2147483648)), .int 2147483647])), (qT, .inl (cA, 187, .inl f))] := hD
                  subst e228
                  have eo : rr_op 7 x1 x2 x3 x4 = (rr_o6 x1 x2 x3 x4) := by unfold rr_op; rw [if_neg (by decide), if_neg (by decide), if_neg (by decide), if_neg (by decide), if_neg (by decide), if_neg (by decide), if_pos (by decide)]
                  have ep : (rr_o6 x1 x2 x3 x4) = (-2147483648, 2147483647) := if_pos (by first | exact Or.inl c219 | exact Or.inr (Int32.not_le.mp c224))
                  have ee : (rr_wk f n lo hi 7 x1 x2 x3 x4) = (1, rr_tl f n (-2147483648, 2147483647).1 (-2147483648, 2147483647).2) := ((if_pos ⟨⟨c1, c7⟩, b13, b24⟩).trans (if_neg (fun z => absurd z.1 (by decide)))).trans (congrArg (fun z : Int64 × Int64 => ((1 : Int32), rr_tl f n z.1 z.2)) (eo.trans ep))
                  have ef : rr_tl f n ((-2147483648, 2147483647) : Int64 × Int64).1 ((-2147483648, 2147483647) : Int64 × Int64).2 = (-2147483648, 2147483647) := rr_tl_all f n
                  rw [ef] at ee
                  exact W.iret (v := 1) hx hb hr (fun tt ht hW => ⟨⟨_, (), rfl, by rw [ee], by dsimp only; rw [ht, ee]; exact hP⟩, hS.F ht⟩) hS.2.2 dX2_work_231
                · skip
                  refine lv_iload hx hb dX2_work_222 (lv_at hl 4 rfl) ?_
                  refine lv_if_ge (tgt := 232) hx hb dX2_work_224 (by decide) (fun c224 => ?_) (fun c224 => ?_)
                  · skip
                    refine lv_aload_n hx hb dX2_work_232 rfl (lv_at hl 0 rfl) ?_
                    refine lv_lconst (v := 0) hx hb dX2_work_233 (by decide) ?_
                    refine lv_iload_n hx hb dX2_work_234 rfl (lv_at hl 3 rfl) ?_
                    refine lv_iload hx hb dX2_work_235 (lv_at hl 5 rfl) ?_
                    refine va_mmax hx hb (hml.trans hl.1.symm) hown (hts (.methodLink RX2 36 Lib.Math.max.name) (by decide +kernel)) (hts (.static Lib.Math.max.name) (by decide +kernel)) (hts (.initialized "java/lang/Math") (by decide +kernel)) (hts (.code Lib.Math.max.name Lib.Math.max.code 2 (some .int)) (by decide +kernel)) (Nat.le_of_ble_eq_true rfl) (Nat.le_of_ble_eq_true rfl) (Nat.le_of_ble_eq_true rfl) (Nat.le_of_ble_eq_true rfl) dX2_work_237 ?_
                    refine W.eq (g2 := F0 m 240 ls [.int (rr_xi x2 x4), .long 0, .ref h0]) rfl ?_
                    refine rr_rl (va_runS (As := [.int (rr_xi x2 x4)]) (rest := [.long 0, .ref h0]) ⟨hx, hb, hml, hown, hts⟩ (c_X2_ones l H.size (rr_xi x2 x4)) (va_cwS 1 hts gX2_work_X2_ones rfl rfl rfl (by decide +kernel) ⟨Nat.le_of_ble_eq_true rfl, Nat.le_of_ble_eq_true rfl⟩) rr_v0 rfl rfl hl.1 rfl (lv_room (Nat.le_of_ble_eq_true rfl)) dX2_work_240 ⟨Nat.le_of_ble_eq_true rfl, Nat.le_of_ble_eq_true rfl⟩) hS hA hP (fun r240 H locs e240 hP hS => ?_)
                    subst e240
                    have er : (rr_o6 x1 x2 x3 x4) = (0, lN (rr_on (rr_xi x2 x4) 31 0)) := if_neg (fun z => by rcases z with z | z; exact c219 z; exact absurd z (Int32.not_lt.mpr c224))
                    have hz2 := rr_le6 x1 x2 x3 x4
                    rw [er] at hz2
                    refine rr_wi (wr := []) [0, 1] [] (va_runV (As := [.long 0, .long (lN (rr_on (rr_xi x2 x4) 31 0))]) (rest := []) ⟨hx, hb, hml, hown, hts⟩ (c_X2_tell l D h0 qT H.size cA f n t lo hi 0 (lN (rr_on (rr_xi x2 x4) 31 0)) hn hz2) (cwV 2 hts gX2_work_X2_tell rfl rfl rfl (by decide +kernel) ⟨Nat.le_of_ble_eq_true rfl, Nat.le_of_ble_eq_true rfl⟩) (rr_vW hK hP hD (va_recv hK hP (ci := 2) (q0 := 0) rfl rfl)) rfl rfl hl.1 rfl (lv_room (Nat.le_of_ble_eq_true rfl)) dX2_work_243 ⟨Nat.le_of_ble_eq_true rfl, Nat.le_of_ble_eq_true rfl⟩) hS hA hP hD rfl rfl (by decide) (by decide) (by decide) (fun _ => by simp only [rr_wx, rr_wm, List.map_cons, List.map_nil]) (fun r243 u243 H locs e243 hP hD hS => ?_)
                    have hP : va_P D vwCl [(h0, .inr (2, [.ref qT, .int (nI n), .int (nI t), .int ((rr_tl f n 0 (lN (rr_on (rr_xi x2 x4) 31 0))).1), .int ((rr_tl f n 0 (lN (rr_on (rr_xi x2 x4) 31 0))).2)])), (qT, .inl (cA, 187, .inl f))] H := hP
                    have hD : va_D A [(h0, .inr (2, [.ref qT, .int (nI n), .int (nI t), .int ((rr_tl f n 0 (lN (rr_on (rr_xi x2 x4) 31 0))).1), .int ((rr_tl f n 0 (lN (rr_on (rr_xi x2 x4) 31 0))).2)])), (qT, .inl (cA, 187, .inl f))] := hD
                    subst e243
                    have eo : rr_op 7 x1 x2 x3 x4 = (rr_o6 x1 x2 x3 x4) := by unfold rr_op; rw [if_neg (by decide), if_neg (by decide), if_neg (by decide), if_neg (by decide), if_neg (by decide), if_neg (by decide), if_pos (by decide)]
                    have ep : (rr_o6 x1 x2 x3 x4) = (0, lN (rr_on (rr_xi x2 x4) 31 0)) := if_neg (fun z => by rcases z with z | z; exact c219 z; exact absurd z (Int32.not_lt.mpr c224))
                    have ee : (rr_wk f n lo hi 7 x1 x2 x3 x4) = (1, rr_tl f n (0, lN (rr_on (rr_xi x2 x4) 31 0)).1 (0, lN (rr_on (rr_xi x2 x4) 31 0)).2) := ((if_pos ⟨⟨c1, c7⟩, b13, b24⟩).trans (if_neg (fun z => absurd z.1 (by decide)))).trans (congrArg (fun z : Int64 × Int64 => ((1 : Int32), rr_tl f n z.1 z.2)) (eo.trans ep))
                    exact W.iret (v := 1) hx hb hr (fun tt ht hW => ⟨⟨_, (), rfl, by rw [ee], by dsimp only; rw [ht, ee]; exact hP⟩, hS.F ht⟩) hS.2.2 dX2_work_246
                  · skip
                    refine lv_aload_n hx hb dX2_work_227 rfl (lv_at hl 0 rfl) ?_
                    refine rr_wi (wr := []) [0, 1] [] (va_runV (As := []) (rest := []) ⟨hx, hb, hml, hown, hts⟩ (c_X2_tellAll l D h0 qT H.size cA f n t lo hi  hn) (cwV 0 hts gX2_work_X2_tellAll rfl rfl rfl (by decide +kernel) ⟨Nat.le_of_ble_eq_true rfl, Nat.le_of_ble_eq_true rfl⟩) (rr_vW hK hP hD (va_recv hK hP (ci := 2) (q0 := 0) rfl rfl)) rfl rfl hl.1 rfl (lv_room (Nat.le_of_ble_eq_true rfl)) dX2_work_228 ⟨Nat.le_of_ble_eq_true rfl, Nat.le_of_ble_eq_true rfl⟩) hS hA hP hD rfl rfl (by decide) (by decide) (by decide) (fun _ => by simp only [rr_wx, rr_wm, List.map_cons, List.map_nil]) (fun r228 u228 H locs e228 hP hD hS => ?_)
                    have hP : va_P D vwCl [(h0, .inr (2, [.ref qT, .int (nI n), .int (nI t), .int ((-2147483648)), .int 2147483647])), (qT, .inl (cA, 187, .inl f))] H := hP
                    have hD : va_D A [(h0, .inr (2, [.ref qT, .int (nI n), .int (nI t), .int ((-2147483648)), .int 2147483647])), (qT, .inl (cA, 187, .inl f))] := hD
                    subst e228
                    have eo : rr_op 7 x1 x2 x3 x4 = (rr_o6 x1 x2 x3 x4) := by unfold rr_op; rw [if_neg (by decide), if_neg (by decide), if_neg (by decide), if_neg (by decide), if_neg (by decide), if_neg (by decide), if_pos (by decide)]
                    have ep : (rr_o6 x1 x2 x3 x4) = (-2147483648, 2147483647) := if_pos (by first | exact Or.inl c219 | exact Or.inr (Int32.not_le.mp c224))
                    have ee : (rr_wk f n lo hi 7 x1 x2 x3 x4) = (1, rr_tl f n (-2147483648, 2147483647).1 (-2147483648, 2147483647).2) := ((if_pos ⟨⟨c1, c7⟩, b13, b24⟩).trans (if_neg (fun z => absurd z.1 (by decide)))).trans (congrArg (fun z : Int64 × Int64 => ((1 : Int32), rr_tl f n z.1 z.2)) (eo.trans ep))
                    have ef : rr_tl f n ((-2147483648, 2147483647) : Int64 × Int64).1 ((-2147483648, 2147483647) : Int64 × Int64).2 = (-2147483648, 2147483647) := rr_tl_all f n
                    rw [ef] at ee
                    exact W.iret (v := 1) hx hb hr (fun tt ht hW => ⟨⟨_, (), rfl, by rw [ee], by dsimp only; rw [ht, ee]; exact hP⟩, hS.F ht⟩) hS.2.2 dX2_work_231
              · skip
                refine lv_iload_n hx hb dX2_work_32 rfl (lv_at hl 1 rfl) ?_
                refine lv_tableIn (off := 214) (tgt := 247) hx hb dX2_work_33 (by decide) (by decide) (by decide +kernel) (by decide) ?_
                refine lv_iload hx hb dX2_work_247 (lv_at hl 4 rfl) ?_
                refine lv_iload hx hb dX2_work_249 (lv_at hl 5 rfl) ?_
                refine lv_icmp_eq (tgt := 259) hx hb dX2_work_251 (by decide) (fun c251 => ?_) (fun c251 => ?_)
                · skip
                  refine lv_lconst (v := 1) hx hb dX2_work_259 (by decide) ?_
                  refine lv_iload hx hb dX2_work_260 (lv_at hl 4 rfl) ?_
                  refine lv_bipush (v := 31) hx hb dX2_work_262 (by decide) ?_
                  refine lv_iand hx hb dX2_work_264 ?_
                  refine lv_lshl (v := (1 : Int64) <<< ((x3 &&& 31).toInt64 &&& 63)) hx hb dX2_work_265 rfl ?_
                  refine lv_lstore (lv' := [(6, .long ((1 : Int64) <<< ((x3 &&& 31).toInt64 &&& 63))), (0, .ref h0), (1, .int 8), (2, .int x1), (3, .int x2), (4, .int x3), (5, .int x4)]) hx hb dX2_work_266 hl (by decide) rfl (fun ls hl => ?_)
                  refine lv_aload_n hx hb dX2_work_268 rfl (lv_at hl 1 rfl) ?_
                  refine lv_iload_n hx hb dX2_work_269 rfl (lv_at hl 3 rfl) ?_
                  refine lv_i2l (v := x1.toInt64) hx hb dX2_work_270 rfl ?_
                  refine lv_lload hx hb dX2_work_271 (lv_at hl 0 rfl) ?_
                  refine lv_lmul hx hb dX2_work_273 ?_
                  refine lv_iload_n hx hb dX2_work_274 rfl (lv_at hl 4 rfl) ?_
                  refine lv_i2l (v := x2.toInt64) hx hb dX2_work_275 rfl ?_
                  refine lv_lload hx hb dX2_work_276 (lv_at hl 0 rfl) ?_
                  refine lv_lmul hx hb dX2_work_278 ?_
                  have er : (rr_o8 x1 x2 x3 x4) = (x1.toInt64 * rr_by x3, x2.toInt64 * rr_by x3) := if_pos c251
                  have hz2 := rr_le8 x3 x4 (rr_rg_iff.mp b13).1
                  rw [er] at hz2
                  refine rr_wi (wr := []) [0, 1] [] (va_runV (As := [.long (x1.toInt64 * ((1 : Int64) <<< ((x3 &&& 31).toInt64 &&& 63))), .long (x2.toInt64 * ((1 : Int64) <<< ((x3 &&& 31).toInt64 &&& 63)))]) (rest := []) ⟨hx, hb, hml, hown, hts⟩ (c_X2_tell l D h0 qT H.size cA f n t lo hi (x1.toInt64 * ((1 : Int64) <<< ((x3 &&& 31).toInt64 &&& 63))) (x2.toInt64 * ((1 : Int64) <<< ((x3 &&& 31).toInt64 &&& 63))) hn hz2) (cwV 2 hts gX2_work_X2_tell rfl rfl rfl (by decide +kernel) ⟨Nat.le_of_ble_eq_true rfl, Nat.le_of_ble_eq_true rfl⟩) (rr_vW hK hP hD (va_recv hK hP (ci := 2) (q0 := 0) rfl rfl)) rfl rfl hl.1 rfl (lv_room (Nat.le_of_ble_eq_true rfl)) dX2_work_279 ⟨Nat.le_of_ble_eq_true rfl, Nat.le_of_ble_eq_true rfl⟩) hS hA hP hD rfl rfl (by decide) (by decide) (by decide) (fun _ => by simp only [rr_wx, rr_wm, List.map_cons, List.map_nil]) (fun r279 u279 H locs e279 hP hD hS => ?_)
                  have hP : va_P D vwCl [(h0, .inr (2, [.ref qT, .int (nI n), .int (nI t), .int ((rr_tl f n (x1.toInt64 * ((1 : Int64) <<< ((x3 &&& 31).toInt64 &&& 63))) (x2.toInt64 * ((1 : Int64) <<< ((x3 &&& 31).toInt64 &&& 63)))).1), .int ((rr_tl f n (x1.toInt64 * ((1 : Int64) <<< ((x3 &&& 31).toInt64 &&& 63))) (x2.toInt64 * ((1 : Int64) <<< ((x3 &&& 31).toInt64 &&& 63)))).2)])), (qT, .inl (cA, 187, .inl f))] H := hP
                  have hD : va_D A [(h0, .inr (2, [.ref qT, .int (nI n), .int (nI t), .int ((rr_tl f n (x1.toInt64 * ((1 : Int64) <<< ((x3 &&& 31).toInt64 &&& 63))) (x2.toInt64 * ((1 : Int64) <<< ((x3 &&& 31).toInt64 &&& 63)))).1), .int ((rr_tl f n (x1.toInt64 * ((1 : Int64) <<< ((x3 &&& 31).toInt64 &&& 63))) (x2.toInt64 * ((1 : Int64) <<< ((x3 &&& 31).toInt64 &&& 63)))).2)])), (qT, .inl (cA, 187, .inl f))] := hD
                  subst e279
                  have eo : rr_op 8 x1 x2 x3 x4 = (rr_o8 x1 x2 x3 x4) := by unfold rr_op; rw [if_neg (by decide), if_neg (by decide), if_neg (by decide), if_neg (by decide), if_neg (by decide), if_neg (by decide), if_neg (by decide), if_pos (by decide)]
                  have ep : (rr_o8 x1 x2 x3 x4) = (x1.toInt64 * rr_by x3, x2.toInt64 * rr_by x3) := if_pos c251
                  have ee : (rr_wk f n lo hi 8 x1 x2 x3 x4) = (1, rr_tl f n (x1.toInt64 * rr_by x3, x2.toInt64 * rr_by x3).1 (x1.toInt64 * rr_by x3, x2.toInt64 * rr_by x3).2) := ((if_pos ⟨⟨c1, c7⟩, b13, b24⟩).trans (if_neg (fun z => absurd z.1 (by decide)))).trans (congrArg (fun z : Int64 × Int64 => ((1 : Int32), rr_tl f n z.1 z.2)) (eo.trans ep))
                  exact W.iret (v := 1) hx hb hr (fun tt ht hW => ⟨⟨_, (), rfl, by rw [ee], by dsimp only; rw [ht, ee]; exact hP⟩, hS.F ht⟩) hS.2.2 dX2_work_282
                · skip
                  refine lv_aload_n hx hb dX2_work_254 rfl (lv_at hl 0 rfl) ?_
                  refine rr_wi (wr := []) [0, 1] [] (va_runV (As := []) (rest := []) ⟨hx, hb, hml, hown, hts⟩ (c_X2_tellAll l D h0 qT H.size cA f n t lo hi  hn) (cwV 0 hts gX2_work_X2_tellAll rfl rfl rfl (by decide +kernel) ⟨Nat.le_of_ble_eq_true rfl, Nat.le_of_ble_eq_true rfl⟩) (rr_vW hK hP hD (va_recv hK hP (ci := 2) (q0 := 0) rfl rfl)) rfl rfl hl.1 rfl (lv_room (Nat.le_of_ble_eq_true rfl)) dX2_work_255 ⟨Nat.le_of_ble_eq_true rfl, Nat.le_of_ble_eq_true rfl⟩) hS hA hP hD rfl rfl (by decide) (by decide) (by decide) (fun _ => by simp only [rr_wx, rr_wm, List.map_cons, List.map_nil]) (fun r255 u255 H locs e255 hP hD hS => ?_)
                  have hP : va_P D vwCl [(h0, .inr (2, [.ref qT, .int (nI n), .int (nI t), .int ((-2147483648)), .int 2147483647])), (qT, .inl (cA, 187, .inl f))] H := hP
                  have hD : va_D A [(h0, .inr (2, [.ref qT, .int (nI n), .int (nI t), .int ((-2147483648)), .int 2147483647])), (qT, .inl (cA, 187, .inl f))] := hD
                  subst e255
                  have eo : rr_op 8 x1 x2 x3 x4 = (rr_o8 x1 x2 x3 x4) := by unfold rr_op; rw [if_neg (by decide), if_neg (by decide), if_neg (by decide), if_neg (by decide), if_neg (by decide), if_neg (by decide), if_neg (by decide), if_pos (by decide)]
                  have ep : (rr_o8 x1 x2 x3 x4) = (-2147483648, 2147483647) := if_neg c251
                  have ee : (rr_wk f n lo hi 8 x1 x2 x3 x4) = (1, rr_tl f n (-2147483648, 2147483647).1 (-2147483648, 2147483647).2) := ((if_pos ⟨⟨c1, c7⟩, b13, b24⟩).trans (if_neg (fun z => absurd z.1 (by decide)))).trans (congrArg (fun z : Int64 × Int64 => ((1 : Int32), rr_tl f n z.1 z.2)) (eo.trans ep))
                  have ef : rr_tl f n ((-2147483648, 2147483647) : Int64 × Int64).1 ((-2147483648, 2147483647) : Int64 × Int64).2 = (-2147483648, 2147483647) := rr_tl_all f n
                  rw [ef] at ee
                  exact W.iret (v := 1) hx hb hr (fun tt ht hW => ⟨⟨_, (), rfl, by rw [ee], by dsimp only; rw [ht, ee]; exact hP⟩, hS.F ht⟩) hS.2.2 dX2_work_258
              · skip
                refine lv_iload_n hx hb dX2_work_32 rfl (lv_at hl 1 rfl) ?_
                refine lv_tableOut (tgt := 283) hx hb dX2_work_33 (by decide) (by decide) ?_
                refine lv_iload hx hb dX2_work_283 (lv_at hl 4 rfl) ?_
                refine lv_iload hx hb dX2_work_285 (lv_at hl 5 rfl) ?_
                refine lv_icmp_ne (tgt := 311) hx hb dX2_work_287 (by decide) (fun c287 => ?_) (fun c287 => ?_)
                · skip
                  refine lv_aload_n hx hb dX2_work_311 rfl (lv_at hl 0 rfl) ?_
                  refine lv_iload_n hx hb dX2_work_312 rfl (lv_at hl 2 rfl) ?_
                  refine lv_iconst (v := 0) hx hb dX2_work_313 (by decide) ?_
                  refine va_mmin hx hb (hml.trans hl.1.symm) hown (hts (.methodLink RX2 43 Lib.Math.min.name) (by decide +kernel)) (hts (.static Lib.Math.min.name) (by decide +kernel)) (hts (.initialized "java/lang/Math") (by decide +kernel)) (hts (.code Lib.Math.min.name Lib.Math.min.code 2 (some .int)) (by decide +kernel)) (Nat.le_of_ble_eq_true rfl) (Nat.le_of_ble_eq_true rfl) (Nat.le_of_ble_eq_true rfl) (Nat.le_of_ble_eq_true rfl) dX2_work_314 ?_
                  refine W.eq (g2 := F0 m 317 ls [.int (rr_ni x1 0), .ref h0]) rfl ?_
                  refine lv_i2l (v := (rr_ni x1 0).toInt64) hx hb dX2_work_317 rfl ?_
                  refine lv_iload_n hx hb dX2_work_318 rfl (lv_at hl 3 rfl) ?_
                  refine lv_iconst (v := (-1)) hx hb dX2_work_319 (by decide) ?_
                  refine va_mmax hx hb (hml.trans hl.1.symm) hown (hts (.methodLink RX2 36 Lib.Math.max.name) (by decide +kernel)) (hts (.static Lib.Math.max.name) (by decide +kernel)) (hts (.initialized "java/lang/Math") (by decide +kernel)) (hts (.code Lib.Math.max.name Lib.Math.max.code 2 (some .int)) (by decide +kernel)) (Nat.le_of_ble_eq_true rfl) (Nat.le_of_ble_eq_true rfl) (Nat.le_of_ble_eq_true rfl) (Nat.le_of_ble_eq_true rfl) dX2_work_320 ?_
                  refine W.eq (g2 := F0 m 323 ls [.int (rr_xi x2 (-1)), .long ((rr_ni x1 0).toInt64), .ref h0]) rfl ?_
                  refine lv_i2l (v := (rr_xi x2 (-1)).toInt64) hx hb dX2_work_323 rfl ?_
                  have er : (rr_o9 x1 x2 x3 x4) = ((rr_ni x1 0).toInt64, (rr_xi x2 (-1)).toInt64) := if_neg c287
                  have hz2 := rr_le9 x3 x4 (rr_rg_iff.mp b13).1
                  rw [er] at hz2
                  refine rr_wi (wr := []) [0, 1] [] (va_runV (As := [.long ((rr_ni x1 0).toInt64), .long ((rr_xi x2 (-1)).toInt64)]) (rest := []) ⟨hx, hb, hml, hown, hts⟩ (c_X2_tell l D h0 qT H.size cA f n t lo hi ((rr_ni x1 0).toInt64) ((rr_xi x2 (-1)).toInt64) hn hz2) (cwV 2 hts gX2_work_X2_tell rfl rfl rfl (by decide +kernel) ⟨Nat.le_of_ble_eq_true rfl, Nat.le_of_ble_eq_true rfl⟩) (rr_vW hK hP hD (va_recv hK hP (ci := 2) (q0 := 0) rfl rfl)) rfl rfl hl.1 rfl (lv_room (Nat.le_of_ble_eq_true rfl)) dX2_work_324 ⟨Nat.le_of_ble_eq_true rfl, Nat.le_of_ble_eq_true rfl⟩) hS hA hP hD rfl rfl (by decide) (by decide) (by decide) (fun _ => by simp only [rr_wx, rr_wm, List.map_cons, List.map_nil]) (fun r324 u324 H locs e324 hP hD hS => ?_)
                  have hP : va_P D vwCl [(h0, .inr (2, [.ref qT, .int (nI n), .int (nI t), .int ((rr_tl f n ((rr_ni x1 0).toInt64) ((rr_xi x2 (-1)).toInt64)).1), .int ((rr_tl f n ((rr_ni x1 0).toInt64) ((rr_xi x2 (-1)).toInt64)).2)])), (qT, .inl (cA, 187, .inl f))] H := hP
                  have hD : va_D A [(h0, .inr (2, [.ref qT, .int (nI n), .int (nI t), .int ((rr_tl f n ((rr_ni x1 0).toInt64) ((rr_xi x2 (-1)).toInt64)).1), .int ((rr_tl f n ((rr_ni x1 0).toInt64) ((rr_xi x2 (-1)).toInt64)).2)])), (qT, .inl (cA, 187, .inl f))] := hD
                  subst e324
                  have eo : rr_op 9 x1 x2 x3 x4 = (rr_o9 x1 x2 x3 x4) := by unfold rr_op; rw [if_neg (by decide), if_neg (by decide), if_neg (by decide), if_neg (by decide), if_neg (by decide), if_neg (by decide), if_neg (by decide), if_neg (by decide)]
                  have ep : (rr_o9 x1 x2 x3 x4) = ((rr_ni x1 0).toInt64, (rr_xi x2 (-1)).toInt64) := if_neg c287
                  have ee : (rr_wk f n lo hi 9 x1 x2 x3 x4) = (1, rr_tl f n ((rr_ni x1 0).toInt64, (rr_xi x2 (-1)).toInt64).1 ((rr_ni x1 0).toInt64, (rr_xi x2 (-1)).toInt64).2) := ((if_pos ⟨⟨c1, c7⟩, b13, b24⟩).trans (if_neg (fun z => absurd z.1 (by decide)))).trans (congrArg (fun z : Int64 × Int64 => ((1 : Int32), rr_tl f n z.1 z.2)) (eo.trans ep))
                  exact W.iret (v := 1) hx hb hr (fun tt ht hW => ⟨⟨_, (), rfl, by rw [ee], by dsimp only; rw [ht, ee]; exact hP⟩, hS.F ht⟩) hS.2.2 dX2_work_327
                · skip
                  refine lv_aload_n hx hb dX2_work_290 rfl (lv_at hl 0 rfl) ?_
                  refine lv_iload_n hx hb dX2_work_291 rfl (lv_at hl 2 rfl) ?_
                  refine lv_iload hx hb dX2_work_292 (lv_at hl 4 rfl) ?_
                  refine lv_bipush (v := 31) hx hb dX2_work_294 (by decide) ?_
                  refine lv_iand hx hb dX2_work_296 ?_
                  refine lv_ishr hx hb dX2_work_297 ?_
                  refine lv_i2l (v := (x1 >>> ((x3 &&& 31) &&& 31)).toInt64) hx hb dX2_work_298 rfl ?_
                  refine lv_iload_n hx hb dX2_work_299 rfl (lv_at hl 3 rfl) ?_
                  refine lv_iload hx hb dX2_work_300 (lv_at hl 4 rfl) ?_
                  refine lv_bipush (v := 31) hx hb dX2_work_302 (by decide) ?_
                  refine lv_iand hx hb dX2_work_304 ?_
                  refine lv_ishr hx hb dX2_work_305 ?_
                  refine lv_i2l (v := (x2 >>> ((x3 &&& 31) &&& 31)).toInt64) hx hb dX2_work_306 rfl ?_
                  have er : (rr_o9 x1 x2 x3 x4) = ((x1 >>> ((x3 &&& 31) &&& 31)).toInt64, (x2 >>> ((x3 &&& 31) &&& 31)).toInt64) := if_pos c287
                  have hz2 := rr_le9 x3 x4 (rr_rg_iff.mp b13).1
                  rw [er] at hz2
                  refine rr_wi (wr := []) [0, 1] [] (va_runV (As := [.long ((x1 >>> ((x3 &&& 31) &&& 31)).toInt64), .long ((x2 >>> ((x3 &&& 31) &&& 31)).toInt64)]) (rest := []) ⟨hx, hb, hml, hown, hts⟩ (c_X2_tell l D h0 qT H.size cA f n t lo hi ((x1 >>> ((x3 &&& 31) &&& 31)).toInt64) ((x2 >>> ((x3 &&& 31) &&& 31)).toInt64) hn hz2) (cwV 2 hts gX2_work_X2_tell rfl rfl rfl (by decide +kernel) ⟨Nat.le_of_ble_eq_true rfl, Nat.le_of_ble_eq_true rfl⟩) (rr_vW hK hP hD (va_recv hK hP (ci := 2) (q0 := 0) rfl rfl)) rfl rfl hl.1 rfl (lv_room (Nat.le_of_ble_eq_true rfl)) dX2_work_307 ⟨Nat.le_of_ble_eq_true rfl, Nat.le_of_ble_eq_true rfl⟩) hS hA hP hD rfl rfl (by decide) (by decide) (by decide) (fun _ => by simp only [rr_wx, rr_wm, List.map_cons, List.map_nil]) (fun r307 u307 H locs e307 hP hD hS => ?_)
                  have hP : va_P D vwCl [(h0, .inr (2, [.ref qT, .int (nI n), .int (nI t), .int ((rr_tl f n ((x1 >>> ((x3 &&& 31) &&& 31)).toInt64) ((x2 >>> ((x3 &&& 31) &&& 31)).toInt64)).1), .int ((rr_tl f n ((x1 >>> ((x3 &&& 31) &&& 31)).toInt64) ((x2 >>> ((x3 &&& 31) &&& 31)).toInt64)).2)])), (qT, .inl (cA, 187, .inl f))] H := hP
                  have hD : va_D A [(h0, .inr (2, [.ref qT, .int (nI n), .int (nI t), .int ((rr_tl f n ((x1 >>> ((x3 &&& 31) &&& 31)).toInt64) ((x2 >>> ((x3 &&& 31) &&& 31)).toInt64)).1), .int ((rr_tl f n ((x1 >>> ((x3 &&& 31) &&& 31)).toInt64) ((x2 >>> ((x3 &&& 31) &&& 31)).toInt64)).2)])), (qT, .inl (cA, 187, .inl f))] := hD
                  subst e307
                  have eo : rr_op 9 x1 x2 x3 x4 = (rr_o9 x1 x2 x3 x4) := by unfold rr_op; rw [if_neg (by decide), if_neg (by decide), if_neg (by decide), if_neg (by decide), if_neg (by decide), if_neg (by decide), if_neg (by decide), if_neg (by decide)]
                  have ep : (rr_o9 x1 x2 x3 x4) = ((x1 >>> ((x3 &&& 31) &&& 31)).toInt64, (x2 >>> ((x3 &&& 31) &&& 31)).toInt64) := if_pos c287
                  have ee : (rr_wk f n lo hi 9 x1 x2 x3 x4) = (1, rr_tl f n ((x1 >>> ((x3 &&& 31) &&& 31)).toInt64, (x2 >>> ((x3 &&& 31) &&& 31)).toInt64).1 ((x1 >>> ((x3 &&& 31) &&& 31)).toInt64, (x2 >>> ((x3 &&& 31) &&& 31)).toInt64).2) := ((if_pos ⟨⟨c1, c7⟩, b13, b24⟩).trans (if_neg (fun z => absurd z.1 (by decide)))).trans (congrArg (fun z : Int64 × Int64 => ((1 : Int32), rr_tl f n z.1 z.2)) (eo.trans ep))
                  exact W.iret (v := 1) hx hb hr (fun tt ht hW => ⟨⟨_, (), rfl, by rw [ee], by dsimp only; rw [ht, ee]; exact hP⟩, hS.F ht⟩) hS.2.2 dX2_work_310
            · skip
              exact absurd c27 (by decide)
          · rw [if_neg b24] at e24
            subst e24
            refine lv_if_ne (tgt := 32) hx hb dX2_work_27 (by decide) (fun c27 => ?_) (fun c27 => ?_)
            · skip
              exact absurd c27 (by decide)
            · skip
              refine lv_iconst (v := (-1)) hx hb dX2_work_30 (by decide) ?_
              have ee : (rr_wk f n lo hi op x1 x2 x3 x4) = (-1, lo, hi) := if_neg (fun z => by first | exact z.1.1 c1 | exact z.1.2 c7 | exact b13 z.2.1 | exact b24 z.2.2)
              exact W.iret (v := (-1)) hx hb hr (fun tt ht hW => ⟨⟨_, (), rfl, by rw [ee], by dsimp only; rw [ht, ee]; exact hP⟩, hS.F ht⟩) hS.2.2 dX2_work_31
      · rw [if_neg b13] at e13
        subst e13
        refine lv_if_eq (tgt := 30) hx hb dX2_work_16 (by decide) (fun c16 => ?_) (fun c16 => ?_)
        · skip
          refine lv_iconst (v := (-1)) hx hb dX2_work_30 (by decide) ?_
          have ee : (rr_wk f n lo hi op x1 x2 x3 x4) = (-1, lo, hi) := if_neg (fun z => by first | exact z.1.1 c1 | exact z.1.2 c7 | exact b13 z.2.1 | exact b24 z.2.2)
          exact W.iret (v := (-1)) hx hb hr (fun tt ht hW => ⟨⟨_, (), rfl, by rw [ee], by dsimp only; rw [ht, ee]; exact hP⟩, hS.F ht⟩) hS.2.2 dX2_work_31
        · skip
          exact absurd c16 (by decide)
end
section
set_option maxHeartbeats 1000000 in
set_option maxRecDepth 100000 in
/-- RangeRulesModel() -/
theorem c_X2_init (l : Launch) (D : va_G) (h0 sz : Nat) : Met l yX2_init wsX2_init ({ frames := 2, cells := 1, slots := 187, locals := 51 }) (rr_pW D [(h0, .inr (2, [.null, .int 0, .int 0, .int 0, .int 0]))] [] [.ref h0] sz) (va_Qv (fun u : Nat × ClassId × (Nat → Int32) => ∀ j, j < 7 → u.2.2 j = rr_first j) (fun u tt => va_P D vwCl (rr_wm h0 u.1 u.2.1 u.2.2 7 0 0 0) tt.heap ∧ va_K D vwCl [(u.2.1, .int)] tt ∧ va_D (va_A [(h0, .inr (2, [.null, .int 0, .int 0, .int 0, .int 0]))] sz) (rr_wm h0 u.1 u.2.1 u.2.2 7 0 0 0)) (va_A [(h0, .inr (2, [.null, .int 0, .int 0, .int 0, .int 0]))] sz)) 1 187 (va_A [(h0, .inr (2, [.null, .int 0, .int 0, .int 0, .int 0]))] sz) := by
  refine Met.ofW (cc := cX2_init) (maxL := 1) (ret := none) (by decide) rfl ?_
  intro p e s m args below meth c s₁ B hml hv
  obtain ⟨rfl, hsz, hP, hK, hD0⟩ := hv
  have hx := B.exec
  have hb := B.bytes
  have hr := B.returns
  have hts := atoms_spec (ws := wsX2_init) B.pre
  have hown : s.vm.findClass RX2 = some m.cls := findClass_of_methodNamed B.named
  have hlocks := B.notSynchronized
  subst hsz
  have hD := hD0.self (sz := s.heap.size)
  generalize hAe : va_A [(h0, .inr (2, [.null, .int 0, .int 0, .int 0, .int 0]))] s.heap.size = A at hD ⊢
  have hA : ∀ q : Nat, s.heap.size ≤ q → A q := fun q h => by rw [← hAe]; exact Or.inr h
  have hS : va_S A s.heap s.heap [] := va_S.rf
  have hP : va_P D vwCl [(h0, .inr (2, [.null, .int 0, .int 0, .int 0, .int 0]))] s.heap := hP
  have hiX2 : ∀ w ∈ wsX20, w ∈ wsX2_init := by decide +kernel
  have hl := lv_entry ([.ref h0]) (n := 1) (Nat.le_of_ble_eq_true rfl)
  rw [lg_entry_eq]
  generalize (lg_sl ([.ref h0]) ++ List.replicate (1 - (lg_sl ([.ref h0])).length) Slot.unset).toArray = ls at hl ⊢
  have hl : lv_has ls 1 [(0, .ref h0)] := hl
  have hin : meth.name = "<init>" := (name_of_methodNamed B.named B.method).1
  refine lv_aload_n hx hb dX2_init_0 rfl (lv_at hl 0 rfl) ?_
  refine W.objInit hx hb hown (hts (.methodLink RX2 1 objectInit) (by decide +kernel)) (hts (.instanceMethod objectInit) (by decide +kernel)) (hts (.code objectInit ⟨#[0xb1]⟩ 1 none) (List.mem_cons_of_mem _ (List.mem_append_left _ (List.mem_of_getElem? (i := 2) rfl)))) rfl (by rw [hml]; exact hl.1) rfl dX2_init_1 (Nat.le_of_ble_eq_true rfl) (Nat.le_of_ble_eq_true rfl) ?_
  refine W.eq (g2 := F0 m 4 ls []) rfl ?_
  refine lv_aload_n hx hb dX2_init_4 rfl (lv_at hl 0 rfl) ?_
  refine lv_sipush (v := 187) hx hb dX2_init_5 (by decide) ?_
  refine va_newa (atype := .int) (ty := .int) (n := 187) (N' := 187) (a0 := (187, .inl (fun _ => 0))) hx hb (hts (.arrayClass .int) (by decide +kernel)) rfl hK hP hD hS hA (fun cA => vp_cell_i cA 187 (fun _ => 0)) (by decide) (by decide) (by decide) (Nat.le_of_ble_eq_true rfl) (Nat.le_of_ble_eq_true rfl) dX2_init_8 (fun qT cA H hK hP hD hS => ?_)
  have hP : va_P D vwCl [(h0, .inr (2, [.null, .int 0, .int 0, .int 0, .int 0])), (qT, .inl (cA, 187, .inl (fun _ => 0)))] H := hP
  have hD : va_D A [(h0, .inr (2, [.null, .int 0, .int 0, .int 0, .int 0])), (qT, .inl (cA, 187, .inl (fun _ => 0)))] := hD
  have hK : va_K D vwCl [(cA, .int)] s := hK
  refine W.widen (k := 1) (n := 187) (by omega) (by omega) ?_
  refine va_putF (D := D) (ci := 2) (v := .ref qT) (ty := .array .int) (C := RX2) (T := TX2) (N := 5) hx hb hts hiX2 tyX2 tyX2_ok nmX2 hown hK hP hD hS 0 rfl rfl 0 (by decide) (hts (.fieldLink RX2 9 "RangeRulesModel" "threshold" "[I") (by decide +kernel)) (fun _ h9 => h9) rfl hin rfl (by decide +kernel) rfl rfl (Nat.le_of_ble_eq_true rfl) dX2_init_10 (fun H locs hP hD hS => ?_)
  have hP : va_P D vwCl [(h0, .inr (2, [.ref qT, .int 0, .int 0, .int 0, .int 0])), (qT, .inl (cA, 187, .inl (fun _ => 0)))] H := hP
  have hD : va_D A [(h0, .inr (2, [.ref qT, .int 0, .int 0, .int 0, .int 0])), (qT, .inl (cA, 187, .inl (fun _ => 0)))] := hD
  have hP : va_P D vwCl [(h0, .inr (2, [.ref qT, .int (nI 0), .int (nI 0), .int 0, .int 0])), (qT, .inl (cA, 187, .inl (fun _ => 0)))] H := hP
  have hD : va_D A [(h0, .inr (2, [.ref qT, .int (nI 0), .int (nI 0), .int 0, .int 0])), (qT, .inl (cA, 187, .inl (fun _ => 0)))] := hD
  refine lv_aload_n hx hb dX2_init_13 rfl (lv_at hl 0 rfl) ?_
  refine rr_wv (wr := []) [0, 1] [] (va_runV (As := []) (rest := []) ⟨hx, hb, hml, hown, hts⟩ (c_X2_clear l D h0 qT H.size cA (fun _ => 0) 0 0 0 0) (cwV 0 hts gX2_init_X2_clear rfl rfl rfl (by decide +kernel) ⟨Nat.le_of_ble_eq_true rfl, Nat.le_of_ble_eq_true rfl⟩) (rr_vW hK hP hD (va_recv hK hP (ci := 2) (q0 := 0) rfl rfl)) rfl rfl hl.1 rfl (lv_room (Nat.le_of_ble_eq_true rfl)) dX2_init_14 ⟨Nat.le_of_ble_eq_true rfl, Nat.le_of_ble_eq_true rfl⟩) hS hA hP hD rfl rfl (by decide) (by decide) (by decide) (fun _ => by simp only [rr_wx, rr_wm, List.map_cons, List.map_nil]) (fun u14 H locs e14 hP hD hS => ?_)
  have hP : va_P D vwCl [(h0, .inr (2, [.ref qT, .int (nI 7), .int (nI 0), .int 0, .int 0])), (qT, .inl (cA, 187, .inl u14))] H := hP
  have hD : va_D A [(h0, .inr (2, [.ref qT, .int (nI 7), .int (nI 0), .int 0, .int 0])), (qT, .inl (cA, 187, .inl u14))] := hD
  exact W.vret hx hb hr (fun tt ht hW => ⟨⟨(qT, cA, u14), rfl, e14, by dsimp only; rw [ht]; exact hP, va_K.moved hW.alike hK, hD⟩, hS.F ht⟩) hS.2.2 dX2_init_17
end
section
/-! two rows that agree in their first n places answer alike -/
theorem rr_dn_c {f g : Nat → Int32} {v : Int32} : ∀ {k : Nat}, (∀ j, j < k → f j = g j) → rr_dn f v k = rr_dn g v k
  | 0, _ => rfl
  | k + 1, h => by
    show (if f k ≤ v ∧ rr_dn f v k < f k then f k else rr_dn f v k) = (if g k ≤ v ∧ rr_dn g v k < g k then g k else rr_dn g v k)
    rw [rr_dn_c (fun j hj => h j (Nat.lt_succ_of_lt hj)), h k (Nat.lt_succ_self k)]
theorem rr_up_c {f g : Nat → Int32} {v : Int32} : ∀ {k : Nat}, (∀ j, j < k → f j = g j) → rr_up f v k = rr_up g v k
  | 0, _ => rfl
  | k + 1, h => by
    show (if v ≤ f k ∧ f k < rr_up f v k then f k else rr_up f v k) = (if v ≤ g k ∧ g k < rr_up g v k then g k else rr_up g v k)
    rw [rr_up_c (fun j hj => h j (Nat.lt_succ_of_lt hj)), h k (Nat.lt_succ_self k)]
theorem rr_fd_c {f g : Nat → Int32} {v : Int32} : ∀ {k : Nat}, (∀ j, j < k → f j = g j) → rr_fd f v k = rr_fd g v k
  | 0, _ => rfl
  | k + 1, h => by
    show (rr_fd f v k || decide (f k = v)) = (rr_fd g v k || decide (g k = v))
    rw [rr_fd_c (fun j hj => h j (Nat.lt_succ_of_lt hj)), h k (Nat.lt_succ_self k)]
theorem rr_rg_c {f g : Nat → Int32} {n : Nat} {x y : Int32} (h : ∀ j, j < n → f j = g j) : rr_rg f n x y = rr_rg g n x y := by
  unfold rr_rg
  rw [rr_fd_c h, rr_fd_c h]
theorem rr_tl_c {f g : Nat → Int32} {n : Nat} {x y : Int64} (h : ∀ j, j < n → f j = g j) : rr_tl f n x y = rr_tl g n x y := by
  unfold rr_tl
  rw [rr_dn_c h, rr_up_c h]
theorem rr_wk_c {f g : Nat → Int32} {n : Nat} {lo hi op x1 x2 x3 x4 : Int32} (h : ∀ j, j < n → f j = g j) : rr_wk f n lo hi op x1 x2 x3 x4 = rr_wk g n lo hi op x1 x2 x3 x4 := by
  unfold rr_wk
  rw [rr_rg_c h, rr_rg_c h, rr_tl_c h]
theorem rr_ng_c {f g : Nat → Int32} {n : Nat} {lo hi x1 x2 : Int32} (h : ∀ j, j < n → f j = g j) : rr_ng f n lo hi x1 x2 = rr_ng g n lo hi x1 x2 := by
  unfold rr_ng
  rw [rr_rg_c h, rr_tl_c h]
theorem rr_ad_c {f g : Nat → Int32} {n : Nat} {v : Int32} (h : ∀ j, j < n → f j = g j) : (rr_ad f n v).2 = (rr_ad g n v).2 ∧ ∀ j, j < (rr_ad f n v).2 → (rr_ad f n v).1 j = (rr_ad g n v).1 j := by
  unfold rr_ad
  rw [rr_fd_c h]
  split
  · exact ⟨rfl, h⟩
  · refine ⟨rfl, fun j hj => ?_⟩
    show (if j = n then v else f j) = (if j = n then v else g j)
    by_cases e : j = n
    · rw [if_pos e, if_pos e]
    · rw [if_neg e, if_neg e]
      have hj : j < n + 1 := hj
      exact h j (by omega)
theorem rr_al_c {f g : Nat → Int32} {n : Nat} {v : Int64} (h : ∀ j, j < n → f j = g j) : (rr_al f n v).2 = (rr_al g n v).2 ∧ ∀ j, j < (rr_al f n v).2 → (rr_al f n v).1 j = (rr_al g n v).1 j := by
  unfold rr_al
  split
  · exact rr_ad_c h
  · exact ⟨rfl, h⟩
theorem rr_ar_c {f g : Nat → Int32} {n : Nat} {v : Int32} (h : ∀ j, j < n → f j = g j) : (rr_ar f n v).2 = (rr_ar g n v).2 ∧ ∀ j, j < (rr_ar f n v).2 → (rr_ar f n v).1 j = (rr_ar g n v).1 j := by
  unfold rr_ar
  obtain ⟨e1, h1⟩ := rr_al_c (v := v.toInt64 - 1) h
  rw [← e1]
  obtain ⟨e2, h2⟩ := rr_al_c (v := v.toInt64) h1
  rw [← e2]
  exact rr_al_c (v := v.toInt64 + 1) h2
theorem rr_ar_of {f : Nat → Int32} {n : Nat} (v : Int32) (hk : rr_ok f n) : rr_ok (rr_ar f n v).1 (rr_ar f n v).2 ∧ (rr_ar f n v).2 ≤ n + 3 := by
  unfold rr_ar
  obtain ⟨a1, b1, c1⟩ := rr_al_of (f1 := (rr_al f n (v.toInt64 - 1)).1) (n1 := (rr_al f n (v.toInt64 - 1)).2) (v := v.toInt64 - 1) hk rfl
  obtain ⟨a2, b2, c2⟩ := rr_al_of (f1 := (rr_al (rr_al f n (v.toInt64 - 1)).1 (rr_al f n (v.toInt64 - 1)).2 v.toInt64).1) (n1 := (rr_al (rr_al f n (v.toInt64 - 1)).1 (rr_al f n (v.toInt64 - 1)).2 v.toInt64).2) (v := v.toInt64) a1 rfl
  obtain ⟨a3, b3, c3⟩ := rr_al_of (f1 := (rr_al (rr_al (rr_al f n (v.toInt64 - 1)).1 (rr_al f n (v.toInt64 - 1)).2 v.toInt64).1 (rr_al (rr_al f n (v.toInt64 - 1)).1 (rr_al f n (v.toInt64 - 1)).2 v.toInt64).2 (v.toInt64 + 1)).1) (n1 := (rr_al (rr_al (rr_al f n (v.toInt64 - 1)).1 (rr_al f n (v.toInt64 - 1)).2 v.toInt64).1 (rr_al (rr_al f n (v.toInt64 - 1)).1 (rr_al f n (v.toInt64 - 1)).2 v.toInt64).2 (v.toInt64 + 1)).2) (v := v.toInt64 + 1) a2 rfl
  exact ⟨a3, by omega⟩
/-- what holds between the class's row and the reference's, between two calls -/
def rr_iv (f g : Nat → Int32) (n t : Nat) : Prop := (∀ j, j < n → f j = g j) ∧ rr_ok f n ∧ t ≤ 60 ∧ n ≤ 7 + 3 * t
theorem rr_iv.ok {f g : Nat → Int32} {n t : Nat} (h : rr_iv f g n t) : rr_ok g n := ⟨h.2.1.1, fun j hj => by rw [← h.1 j (by have := h.2.1.1; omega)]; exact h.2.1.2 j hj⟩
theorem rr_iv.le {f g : Nat → Int32} {n t : Nat} (h : rr_iv f g n t) : n ≤ 187 := by have := h.2.2; omega
theorem rr_iv.ar {f g : Nat → Int32} {n t : Nat} (v : Int32) (h : rr_iv f g n t) : rr_iv (if t = 60 then f else (rr_ar f n v).1) (if t = 60 then g else (rr_ar g n v).1) (if t = 60 then n else (rr_ar f n v).2) (if t = 60 then t else t + 1) := by
  obtain ⟨h1, h2, h3, h4⟩ := h
  by_cases e : t = 60
  · simp only [if_pos e]
    exact ⟨h1, h2, h3, h4⟩
  · simp only [if_neg e]
    obtain ⟨a1, a2⟩ := rr_ar_of v h2
    exact ⟨(rr_ar_c h1).2, a1, by omega, by omega⟩
theorem rr_iv.cl {f g u : Nat → Int32} {n t : Nat} (h : rr_iv f g n t) (hu : ∀ j, j < 7 → u j = rr_first j) : rr_iv f u 7 0 := ⟨fun j hj => by rw [h.2.1.2 j hj, hu j hj], ⟨Nat.le_refl 7, h.2.1.2⟩, Nat.zero_le _, Nat.le_refl _⟩
theorem rr_iv.st {f u : Nat → Int32} (hf : ∀ j, j < 7 → f j = rr_first j) (hu : ∀ j, j < 7 → u j = rr_first j) : rr_iv f u 7 0 := ⟨fun j hj => by rw [hf j hj, hu j hj], ⟨Nat.le_refl 7, hf⟩, Nat.zero_le _, Nat.le_refl _⟩
theorem rr_6 {i L : Nat} (hi : i ≤ L) (hL : L ≤ 3072) (h : ¬ Int32.ofNat L - 6 < nI i) : i + 6 ≤ L := by
  rw [Int32.lt_iff_toInt_lt] at h
  have e : (Int32.ofNat L - 6).toInt = (L : Int) - 6 := pk_sub_toInt (a := L) (b := 6) (by omega) (by decide)
  rw [e, nI_toInt (by omega)] at h
  omega
theorem rr_len31 {args : Array Value} {s : State} {tm : Term} {b : Nat} {cell : Cell} {v : Value} (hv : (Term.length tm).eval args s none [] s = some v) (ht : tm.eval args s none [] s = some (.ref b)) (harr : s.arrayAt? b = some cell) : cell.slots.size < 2147483648 := by
  simp only [Term.eval, ht, harr, Option.bind_eq_bind, Option.bind_some] at hv
  by_cases hlt : cell.slots.size < 2147483648
  · exact hlt
  · simp [hlt] at hv
/-- the static row, out of what the Statement says of the start -/
theorem rr_stof {args : Array Value} {s : State} {A : Nat → Prop} (hl : (Cond.laysStatic "RangeRules" "FIRST" "[I").before args s = true) (hini : (Cond.initialized "RangeRules").before args s = true) (harr : (Cond.arrayOf (.static "RangeRules" "FIRST" "[I") .int).before args s = true) (hlen : (Cond.eq (.length (.static "RangeRules" "FIRST" "[I")) (.int 7)).before args s = true)
    (hel : ∀ j : Nat, j < 7 → (Cond.eq (.elem (.static "RangeRules" "FIRST" "[I") (.int (Int32.ofNat j))) (.int (rr_first j))).before args s = true) (hA : ∀ a : Nat, a < s.heap.size → ¬ A a) : ∃ t0 : Nat, rr_st t0 A s := by
  have hlv := va_eqt hlen
  obtain ⟨t, ht, cell, h1, h2, h3, h4, h5, h6, h7⟩ := va_Tof (N := 7) (f := fun j => .int (rr_first j)) (A := A) (by decide) harr hlv (fun j hj => va_eqt (hel j hj)) hA
  obtain ⟨b, cell2, hb, harr2, hv⟩ := Term.length_spec hlv
  obtain ⟨hcell2, -, -, -⟩ := State.arrayAt?_spec harr2
  cases ht.symm.trans hb
  cases h1.symm.trans hcell2
  have hsz : cell.slots.size < 2147483648 := rr_len31 hlv hb harr2
  have hs7 : cell.slots.size = 7 := (nI_eq (a := cell.slots.size) (b := 7) hsz (by decide)).mp h5
  exact ⟨t, va_Zref hl hini ht hA, ⟨cell, h1, h2, h3, hs7, h6⟩, (Array.getElem?_eq_some_iff.mp h1).1, h7⟩
end
section
/-! THE CLAIM OUT OF ONE WALK OF THE LAW'S BODY. Your part is whole_start (and what it stands on); all else here is the same for every law, but numbers. -/
def R_law : String := "RangeRulesLaw"
def lw_P (b : Addr) (xs : List Int32) (args : Array Value) (s : State) : Prop := args = #[.ref b] ∧ s.IntsAt b xs ∧ xs.length ≤ 3072 ∧ (Jvm.Cond.and given_1 narrow_1).before args s = true
def lw_Q (_ : Array Value) (s : State) (o : Outcome) (t : State) : Prop := o = .returned (some (.int 1)) ∧ Framed s o t [] 600000 7302250
def lw_Z (below : List Frame) (a : Array Value) (s : State) : State → Prop := fun t => ∃ o, t.status = .running ∧ Ended t below o ∧ lw_Q a s o t
/-- the law's own end, with 1 on the stack, nothing written that was there before, its room as the claim has it -/
theorem lw_ret {p : Program} {l : Launch} {e : Env} {s : State} {m : MethodId} {below : List Frame} {meth : Method} {c : Code} {b : Nat} (hx : p.tables.exec = Jvm.exec) (hb : c.code = code) (hr : meth.sig.returnType = ret) (hlocks : meth.locks = false) {pc : Nat} {H : Heap} {ls : Array Slot} (hdg : decode code pc = .ok (.ireturn, 1)) : W p l e room_1 s m #[Value.ref b] below meth c H [] 600000 7302250 (lw_Z below #[Value.ref b] s) (F0 m pc ls [.int 1]) := by
  intro T hT X
  obtain ⟨fs, hret, hrun, hended, hW, hframe⟩ := X.leave (v := some (.int 1)) (hlocks := hlocks) (fun h => by rw [hr] at h; cases h)
  have hmeth' : T.vm.method? m = some meth := X.method'
  refine ⟨T.setFrames fs, ?_, .returned (some (.int 1)), hrun, hended, rfl, ⟨_, rfl⟩, hW, hframe⟩
  jvm_step X.here [X.here.top, hx, hb, hdg, hmeth', hr, ret, narrow_b1]
  (try refine ⟨rfl, ?_⟩); (try refine ⟨rfl, ?_⟩)
  first | (intro acts; rw [hret _ acts rfl rfl rfl]) | rw [hret _ _ rfl rfl rfl]
  exact Steps.refl _
/-- what holds at the law's entry: the machine, the code, the tables' words (any of lw_tbl by 'hts w (by decide +kernel)'), the script of L ints xs at the cell b, what the Statement gives of the start (any of its parts by flat_of_before) -/
def lw_At (p : Program) (s : State) (m : MethodId) (meth : Method) (c : Code) (b L : Nat) (xs : Nat → Int32) : Prop :=
  p.tables.exec = Jvm.exec ∧ c.code = code ∧ meth.sig.returnType = ret ∧ c.maxLocals = 4 ∧ s.vm.findClass R_law = some m.cls ∧ (∀ w ∈ lw_tbl, w.before #[Value.ref b] s = true) ∧ va_X b L xs s s.heap ∧ b < s.heap.size ∧ meth.locks = false ∧ (Jvm.Cond.and given_1 narrow_1).before #[Value.ref b] s = true
end
section
theorem rr_vZ {s : State} {H : Heap} {D : va_G} {ws : va_W} {A : Nat → Prop} {tys : List (ClassId × FieldType)} {C : String} {b t0 : Nat} {As : List Value} {locs : List Loc} (hst : rr_st t0 A s) (hS : va_S A s.heap H locs) (hF : ∀ q, va_A ws H.size q → A q) (hK : va_K D vwCl tys s) (hP : va_P D vwCl ws H) (hD : va_D A ws) (hr : ∃ cell : Cell, H[b]? = some cell ∧ cell.vm.isStatics = false ∧ s.vm.findClass C = some cell.cls) : PreV s H C b (rr_pZ D ws tys t0 (.ref b :: As) H.size) As :=
  ⟨rr_bZ, hr, fun U hU hW => ⟨rfl, by rw [hU], by rw [hU]; exact hP, va_K.moved hW.alike hK, hD.weaken (fun _ _ _ _ => trivial), hst.at hS hF hU hW⟩⟩
theorem rr_vI {s : State} {H : Heap} {D : va_G} {ws : va_W} {A : Nat → Prop} {tys : List (ClassId × FieldType)} {t0 : Nat} {As : List Value} {locs : List Loc} (hst : rr_st t0 A s) (hS : va_S A s.heap H locs) (hF : ∀ q, va_A ws H.size q → A q) (hN : va_Nw (.methodLinkNest RX1 37 yX0_init RX1) s) (hK : va_K D vwCl tys s) (hP : va_P D vwCl ws H) (hD : va_D A ws) : PreS s H (rr_pI D ws tys t0 As H.size) As :=
  ⟨rr_bI, fun U hU hW => ⟨rfl, by rw [hU], by rw [hU]; exact hP, va_K.moved hW.alike hK, hD.weaken (fun _ _ _ _ => trivial), hst.at hS hF hU hW, va_Nw.warmM hW hN⟩⟩
set_option maxHeartbeats 1000000 in
set_option maxRecDepth 100000 in
/-- the loop of the law -/
theorem rr_loop {p : Program} {l : Launch} {e : Env} {s : State} {m : MethodId} {below : List Frame} {meth : Method} {c : Code} {D : va_G} {b L : Nat} {xs : Nat → Int32} {A : Nat → Prop} {qX qT qS qM qU t0 : Nat} {cX cM : ClassId} (hL : L ≤ 3072) (C0 : lw_At p s m meth c b L xs) (hA : ∀ q, s.heap.size ≤ q → A q) (hA2 : ∀ q, A q → s.heap.size ≤ q) (hN : rr_N s) (hst : rr_st t0 A s) (hK : va_K D vwCl [(cX, .int), (cM, .int)] s) : ∀ (k i : Nat) (f g : Nat → Int32) (n t : Nat) (lo hi : Int32) (y z : Int64), i ≤ L → L + 1 ≤ i + k → rr_iv f g n t → ∀ (H : Heap) (locs : List Loc), va_P D vwCl [(qX, .inr (1, [.ref qT, .int (nI n), .int (nI t), .int lo, .int hi, .ref qS])), (qT, .inl (cX, 187, .inl f)), (qS, .inr (0, [.long y, .long z])), (qM, .inr (2, [.ref qU, .int (nI n), .int (nI t), .int lo, .int hi])), (qU, .inl (cM, 187, .inl g))] H → va_D A [(qX, .inr (1, [.ref qT, .int (nI n), .int (nI t), .int lo, .int hi, .ref qS])), (qT, .inl (cX, 187, .inl f)), (qS, .inr (0, [.long y, .long z])), (qM, .inr (2, [.ref qU, .int (nI n), .int (nI t), .int lo, .int hi])), (qU, .inl (cM, 187, .inl g))] → va_S A s.heap H locs → ∀ (ls : Array Slot), lv_has ls 4 [(3, .int (nI i)), (2, .ref qM), (1, .ref qX), (0, .ref b)] → W p l e room_1 s m #[Value.ref b] below meth c H locs 5 387 (lw_Z below #[Value.ref b] s) (F0 m 18 ls []) := by
  obtain ⟨hx, hb, hr, hml, hown0, hts0, hX, hXl, hlocks, hgv⟩ := C0
  have hown : s.vm.findClass RL = some m.cls := hown0
  have hts : ∀ w ∈ wsL_law, w.before #[Value.ref b] s = true := fun w h => hts0 w (wsL_law_in w h)
  have hXA : ¬ A b := fun h => absurd (hA2 b h) (Nat.not_le.mpr hXl)
  intro k
  induction k with
  | zero =>
    intro i f g n t lo hi y z h1 h2
    exact absurd h2 (by omega)
  | succ k ih =>
    intro i f g n t lo hi y z hi0 hk0 hiv H locs hP hD hS ls hl
    refine lv_iload_n hx hb dL_law_18 rfl (lv_at hl 0 rfl) ?_
    refine lv_aload_n hx hb dL_law_19 rfl (lv_at hl 3 rfl) ?_
    refine va_slen hx hb hX hXl hXA hS dL_law_20 ?_
    refine W.eq (g2 := F0 m 21 ls [.int (Int32.ofNat L), .int (nI i)]) rfl ?_
    refine lv_bipush (v := 6) hx hb dL_law_21 (by decide) ?_
    refine lv_isub hx hb dL_law_23 ?_
    refine lv_icmp_gt (tgt := 305) hx hb dL_law_24 (by decide) (fun c24 => ?_) (fun c24 => ?_)
    · skip
      refine lv_iconst (v := 1) hx hb dL_law_305 (by decide) ?_
      refine va_forget (fun q hq => hA2 _ (hS.2.2 q hq)) ?_
      refine W.widen (k := 600000) (n := 7302250) (Nat.le_of_ble_eq_true rfl) (Nat.le_of_ble_eq_true rfl) ?_
      exact lw_ret hx hb hr hlocks dL_law_306
    · skip
      have hlt : i + 6 ≤ L := rr_6 hi0 hL c24
      refine lv_aload_n hx hb dL_law_27 rfl (lv_at hl 3 rfl) ?_
      refine lv_iload_n hx hb dL_law_28 rfl (lv_at hl 0 rfl) ?_
      refine va_sld hx hb hX hXl hXA hS (vp_in_nI (by omega) (by omega)) dL_law_29 ?_
      refine W.eq (congrArg (fun z => F0 m 30 ls (.int z :: [])) (congrArg xs (nI_clamp (by omega)))) ?_
      refine lv_bipush (v := 15) hx hb dL_law_30 (by decide) ?_
      refine lv_iand hx hb dL_law_32 ?_
      obtain ⟨j, hj, ej⟩ := pk_andE (xs i) (m := 15) 4 (by decide)
      have hj : j < 16 := hj
      refine W.eq (congrArg (fun z => F0 m 33 ls (.int z :: [])) (ej)) ?_
      clear ej
      rcases (show j = 0 ∨ j = 1 ∨ j = 2 ∨ j = 3 ∨ j = 4 ∨ j = 5 ∨ j = 6 ∨ j = 7 ∨ j = 8 ∨ 9 ≤ j by omega) with rfl | rfl | rfl | rfl | rfl | rfl | rfl | rfl | rfl | h9
      · skip
        refine lv_tableIn (off := 51) (tgt := 84) hx hb dL_law_33 (by decide) (by decide) (by decide +kernel) (by decide) ?_
        refine lv_aload_n hx hb dL_law_84 rfl (lv_at hl 2 rfl) ?_
        refine lv_aload_n hx hb dL_law_85 rfl (lv_at hl 3 rfl) ?_
        refine lv_iload_n hx hb dL_law_86 rfl (lv_at hl 0 rfl) ?_
        refine lv_iconst (v := 1) hx hb dL_law_87 (by decide) ?_
        refine lv_iadd hx hb dL_law_88 ?_
        refine W.eq (congrArg (fun z => F0 m 89 ls (.int z :: [.ref b, .ref qX])) (nI_1 i)) ?_
        refine va_sld hx hb hX hXl hXA hS (vp_in_nI (by omega) (by omega)) dL_law_89 ?_
        refine W.eq (congrArg (fun z => F0 m 90 ls (.int z :: [.ref qX])) (congrArg xs (nI_clamp (by omega)))) ?_
        have hPc := hP.sub (ws' := [(qX, .inr (1, [.ref qT, .int (nI n), .int (nI t), .int lo, .int hi, .ref qS])), (qT, .inl (cX, 187, .inl f)), (qS, .inr (0, [.long y, .long z]))]) [0, 1, 2] rfl
        have hDc := hD.sub (ws' := [(qX, .inr (1, [.ref qT, .int (nI n), .int (nI t), .int lo, .int hi, .ref qS])), (qT, .inl (cX, 187, .inl f)), (qS, .inr (0, [.long y, .long z]))]) [0, 1, 2] (by decide) rfl
        have hKc := hK.sub (tys' := [(cX, .int)]) [0] rfl
        refine rr_wi (wr := [(qM, .inr (2, [.ref qU, .int (nI n), .int (nI t), .int lo, .int hi])), (qU, .inl (cM, 187, .inl g))]) [0, 1, 2] [3, 4] (va_runV (As := [.int (xs (i + 1))]) (rest := []) ⟨hx, hb, hml, hown, hts⟩ (c_X1_around l D qX qT qS H.size cX f n t lo hi y z (xs (i + 1)) hiv.2.1 hiv.2.2.1 hiv.2.2.2) (cwV 1 hts gL_law_X1_around rfl rfl rfl (by decide +kernel) ⟨Nat.le_of_ble_eq_true rfl, Nat.le_of_ble_eq_true rfl⟩) (rr_vW hKc hPc hDc (va_recv hKc hPc (ci := 1) (q0 := 0) rfl rfl)) rfl rfl hl.1 rfl (lv_room (Nat.le_of_ble_eq_true rfl)) dL_law_90 ⟨Nat.le_of_ble_eq_true rfl, Nat.le_of_ble_eq_true rfl⟩) hS hA hP hD rfl rfl (by decide) (by decide) (by decide) (fun _ => by simp only [rr_wx, rr_wm, List.map_cons, List.map_nil]) (fun r90 u90 H locs e90 hP hD hS => ?_)
        have hP : va_P D vwCl [(qX, .inr (1, [.ref qT, .int (nI (if t = 60 then n else (rr_ar f n (xs (i + 1))).2)), .int (nI (if t = 60 then t else t + 1)), .int lo, .int hi, .ref qS])), (qT, .inl (cX, 187, .inl (if t = 60 then f else (rr_ar f n (xs (i + 1))).1))), (qS, .inr (0, [.long y, .long z])), (qM, .inr (2, [.ref qU, .int (nI n), .int (nI t), .int lo, .int hi])), (qU, .inl (cM, 187, .inl g))] H := hP.sub [2, 3, 4, 0, 1] rfl
        have hD : va_D A [(qX, .inr (1, [.ref qT, .int (nI (if t = 60 then n else (rr_ar f n (xs (i + 1))).2)), .int (nI (if t = 60 then t else t + 1)), .int lo, .int hi, .ref qS])), (qT, .inl (cX, 187, .inl (if t = 60 then f else (rr_ar f n (xs (i + 1))).1))), (qS, .inr (0, [.long y, .long z])), (qM, .inr (2, [.ref qU, .int (nI n), .int (nI t), .int lo, .int hi])), (qU, .inl (cM, 187, .inl g))] := hD.sub [2, 3, 4, 0, 1] (by decide) rfl
        subst e90
        refine lv_aload_n hx hb dL_law_93 rfl (lv_at hl 1 rfl) ?_
        refine lv_aload_n hx hb dL_law_94 rfl (lv_at hl 3 rfl) ?_
        refine lv_iload_n hx hb dL_law_95 rfl (lv_at hl 0 rfl) ?_
        refine lv_iconst (v := 1) hx hb dL_law_96 (by decide) ?_
        refine lv_iadd hx hb dL_law_97 ?_
        refine W.eq (congrArg (fun z => F0 m 98 ls (.int z :: [.ref b, .ref qM, .int (if t = 60 then -1 else nI (rr_ar f n (xs (i + 1))).2)])) (nI_1 i)) ?_
        refine va_sld hx hb hX hXl hXA hS (vp_in_nI (by omega) (by omega)) dL_law_98 ?_
        refine W.eq (congrArg (fun z => F0 m 99 ls (.int z :: [.ref qM, .int (if t = 60 then -1 else nI (rr_ar f n (xs (i + 1))).2)])) (congrArg xs (nI_clamp (by omega)))) ?_
        have hPc := hP.sub (ws' := [(qM, .inr (2, [.ref qU, .int (nI n), .int (nI t), .int lo, .int hi])), (qU, .inl (cM, 187, .inl g))]) [3, 4] rfl
        have hDc := hD.sub (ws' := [(qM, .inr (2, [.ref qU, .int (nI n), .int (nI t), .int lo, .int hi])), (qU, .inl (cM, 187, .inl g))]) [3, 4] (by decide) rfl
        have hKc := hK.sub (tys' := [(cM, .int)]) [1] rfl
        refine rr_wi (wr := [(qX, .inr (1, [.ref qT, .int (nI (if t = 60 then n else (rr_ar f n (xs (i + 1))).2)), .int (nI (if t = 60 then t else t + 1)), .int lo, .int hi, .ref qS])), (qT, .inl (cX, 187, .inl (if t = 60 then f else (rr_ar f n (xs (i + 1))).1))), (qS, .inr (0, [.long y, .long z]))]) [3, 4] [0, 1, 2] (va_runV (As := [.int (xs (i + 1))]) (rest := [.int (if t = 60 then -1 else nI (rr_ar f n (xs (i + 1))).2)]) ⟨hx, hb, hml, hown, hts⟩ (c_X2_around l D qM qU H.size cM g n t lo hi (xs (i + 1)) hiv.ok hiv.2.2.1 hiv.2.2.2) (cwV 1 hts gL_law_X2_around rfl rfl rfl (by decide +kernel) ⟨Nat.le_of_ble_eq_true rfl, Nat.le_of_ble_eq_true rfl⟩) (rr_vW hKc hPc hDc (va_recv hKc hPc (ci := 2) (q0 := 0) rfl rfl)) rfl rfl hl.1 rfl (lv_room (Nat.le_of_ble_eq_true rfl)) dL_law_99 ⟨Nat.le_of_ble_eq_true rfl, Nat.le_of_ble_eq_true rfl⟩) hS hA hP hD rfl rfl (by decide) (by decide) (by decide) (fun _ => by simp only [rr_wx, rr_wm, List.map_cons, List.map_nil]) (fun r99 u99 H locs e99 hP hD hS => ?_)
        have hP : va_P D vwCl [(qX, .inr (1, [.ref qT, .int (nI (if t = 60 then n else (rr_ar f n (xs (i + 1))).2)), .int (nI (if t = 60 then t else t + 1)), .int lo, .int hi, .ref qS])), (qT, .inl (cX, 187, .inl (if t = 60 then f else (rr_ar f n (xs (i + 1))).1))), (qS, .inr (0, [.long y, .long z])), (qM, .inr (2, [.ref qU, .int (nI (if t = 60 then n else (rr_ar g n (xs (i + 1))).2)), .int (nI (if t = 60 then t else t + 1)), .int lo, .int hi])), (qU, .inl (cM, 187, .inl (if t = 60 then g else (rr_ar g n (xs (i + 1))).1)))] H := hP
        have hD : va_D A [(qX, .inr (1, [.ref qT, .int (nI (if t = 60 then n else (rr_ar f n (xs (i + 1))).2)), .int (nI (if t = 60 then t else t + 1)), .int lo, .int hi, .ref qS])), (qT, .inl (cX, 187, .inl (if t = 60 then f else (rr_ar f n (xs (i + 1))).1))), (qS, .inr (0, [.long y, .long z])), (qM, .inr (2, [.ref qU, .int (nI (if t = 60 then n else (rr_ar g n (xs (i + 1))).2)), .int (nI (if t = 60 then t else t + 1)), .int lo, .int hi])), (qU, .inl (cM, 187, .inl (if t = 60 then g else (rr_ar g n (xs (i + 1))).1)))] := hD
        subst e99
        refine lv_icmp_eq (tgt := 299) hx hb dL_law_102 (by decide) (fun c102 => ?_) (fun c102 => ?_)
        · skip
          have en := (rr_ar_c (v := xs (i + 1)) hiv.1).1
          rw [← en] at hP hD
          have hP : va_P D vwCl [(qX, .inr (1, [.ref qT, .int (nI (if t = 60 then n else (rr_ar f n (xs (i + 1))).2)), .int (nI (if t = 60 then t else t + 1)), .int lo, .int hi, .ref qS])), (qT, .inl (cX, 187, .inl (if t = 60 then f else (rr_ar f n (xs (i + 1))).1))), (qS, .inr (0, [.long y, .long z])), (qM, .inr (2, [.ref qU, .int (nI (if t = 60 then n else (rr_ar f n (xs (i + 1))).2)), .int (nI (if t = 60 then t else t + 1)), .int lo, .int hi])), (qU, .inl (cM, 187, .inl (if t = 60 then g else (rr_ar g n (xs (i + 1))).1)))] H := hP
          have hD : va_D A [(qX, .inr (1, [.ref qT, .int (nI (if t = 60 then n else (rr_ar f n (xs (i + 1))).2)), .int (nI (if t = 60 then t else t + 1)), .int lo, .int hi, .ref qS])), (qT, .inl (cX, 187, .inl (if t = 60 then f else (rr_ar f n (xs (i + 1))).1))), (qS, .inr (0, [.long y, .long z])), (qM, .inr (2, [.ref qU, .int (nI (if t = 60 then n else (rr_ar f n (xs (i + 1))).2)), .int (nI (if t = 60 then t else t + 1)), .int lo, .int hi])), (qU, .inl (cM, 187, .inl (if t = 60 then g else (rr_ar g n (xs (i + 1))).1)))] := hD
          refine lv_iinc (v := nI (i + 6)) (lv' := [(3, .int (nI (i + 6))), (2, .ref qM), (1, .ref qX), (0, .ref b)]) hx hb dL_law_299 hl (k := 0) rfl (nI_add i 6) (by decide) rfl (fun ls hl => ?_)
          refine lv_goto (tgt := 18) hx hb dL_law_302 (by decide) ?_
          exact ih (i + 6) (if t = 60 then f else (rr_ar f n (xs (i + 1))).1) (if t = 60 then g else (rr_ar g n (xs (i + 1))).1) (if t = 60 then n else (rr_ar f n (xs (i + 1))).2) (if t = 60 then t else t + 1) lo hi y z (by omega) (by omega) (hiv.ar (xs (i + 1))) H locs hP hD hS ls (lv_sub hl [0, 1, 2, 3] rfl)
        · skip
          exact absurd (by rw [(rr_ar_c (v := xs (i + 1)) hiv.1).1]) c102
      · skip
        refine lv_tableIn (off := 74) (tgt := 107) hx hb dL_law_33 (by decide) (by decide) (by decide +kernel) (by decide) ?_
        refine lv_aload_n hx hb dL_law_107 rfl (lv_at hl 2 rfl) ?_
        have hPc := hP.sub (ws' := [(qX, .inr (1, [.ref qT, .int (nI n), .int (nI t), .int lo, .int hi, .ref qS])), (qT, .inl (cX, 187, .inl f)), (qS, .inr (0, [.long y, .long z]))]) [0, 1, 2] rfl
        have hDc := hD.sub (ws' := [(qX, .inr (1, [.ref qT, .int (nI n), .int (nI t), .int lo, .int hi, .ref qS])), (qT, .inl (cX, 187, .inl f)), (qS, .inr (0, [.long y, .long z]))]) [0, 1, 2] (by decide) rfl
        have hKc := hK.sub (tys' := [(cX, .int)]) [0] rfl
        refine rr_wv (wr := [(qM, .inr (2, [.ref qU, .int (nI n), .int (nI t), .int lo, .int hi])), (qU, .inl (cM, 187, .inl g))]) [0, 1, 2] [3, 4] (va_runV (As := []) (rest := []) ⟨hx, hb, hml, hown, hts⟩ (c_X1_clear l D qX qT qS H.size cX f n t lo hi y z   t0) (cwV 0 hts gL_law_X1_clear rfl rfl rfl (by decide +kernel) ⟨Nat.le_of_ble_eq_true rfl, Nat.le_of_ble_eq_true rfl⟩) (rr_vZ hst hS (va_free (wc := [(qX, .inr (1, [.ref qT, .int (nI n), .int (nI t), .int lo, .int hi, .ref qS])), (qT, .inl (cX, 187, .inl f)), (qS, .inr (0, [.long y, .long z]))]) hD hS hA [0, 1, 2] rfl) hKc hPc hDc (va_recv hKc hPc (ci := 1) (q0 := 0) rfl rfl)) rfl rfl hl.1 rfl (lv_room (Nat.le_of_ble_eq_true rfl)) dL_law_108 ⟨Nat.le_of_ble_eq_true rfl, Nat.le_of_ble_eq_true rfl⟩) hS hA hP hD rfl rfl (by decide) (by decide) (by decide) (fun _ => by simp only [rr_wx, rr_wm, List.map_cons, List.map_nil]) (fun u108 H locs e108 hP hD hS => ?_)
        have hP : va_P D vwCl [(qX, .inr (1, [.ref qT, .int (nI 7), .int (nI 0), .int lo, .int hi, .ref qS])), (qT, .inl (cX, 187, .inl f)), (qS, .inr (0, [.long y, .long z])), (qM, .inr (2, [.ref qU, .int (nI n), .int (nI t), .int lo, .int hi])), (qU, .inl (cM, 187, .inl g))] H := hP.sub [2, 3, 4, 0, 1] rfl
        have hD : va_D A [(qX, .inr (1, [.ref qT, .int (nI 7), .int (nI 0), .int lo, .int hi, .ref qS])), (qT, .inl (cX, 187, .inl f)), (qS, .inr (0, [.long y, .long z])), (qM, .inr (2, [.ref qU, .int (nI n), .int (nI t), .int lo, .int hi])), (qU, .inl (cM, 187, .inl g))] := hD.sub [2, 3, 4, 0, 1] (by decide) rfl
        refine lv_aload_n hx hb dL_law_111 rfl (lv_at hl 1 rfl) ?_
        have hPc := hP.sub (ws' := [(qM, .inr (2, [.ref qU, .int (nI n), .int (nI t), .int lo, .int hi])), (qU, .inl (cM, 187, .inl g))]) [3, 4] rfl
        have hDc := hD.sub (ws' := [(qM, .inr (2, [.ref qU, .int (nI n), .int (nI t), .int lo, .int hi])), (qU, .inl (cM, 187, .inl g))]) [3, 4] (by decide) rfl
        have hKc := hK.sub (tys' := [(cM, .int)]) [1] rfl
        refine rr_wv (wr := [(qX, .inr (1, [.ref qT, .int (nI 7), .int (nI 0), .int lo, .int hi, .ref qS])), (qT, .inl (cX, 187, .inl f)), (qS, .inr (0, [.long y, .long z]))]) [3, 4] [0, 1, 2] (va_runV (As := []) (rest := []) ⟨hx, hb, hml, hown, hts⟩ (c_X2_clear l D qM qU H.size cM g n t lo hi) (cwV 0 hts gL_law_X2_clear rfl rfl rfl (by decide +kernel) ⟨Nat.le_of_ble_eq_true rfl, Nat.le_of_ble_eq_true rfl⟩) (rr_vW hKc hPc hDc (va_recv hKc hPc (ci := 2) (q0 := 0) rfl rfl)) rfl rfl hl.1 rfl (lv_room (Nat.le_of_ble_eq_true rfl)) dL_law_112 ⟨Nat.le_of_ble_eq_true rfl, Nat.le_of_ble_eq_true rfl⟩) hS hA hP hD rfl rfl (by decide) (by decide) (by decide) (fun _ => by simp only [rr_wx, rr_wm, List.map_cons, List.map_nil]) (fun u112 H locs e112 hP hD hS => ?_)
        have hP : va_P D vwCl [(qX, .inr (1, [.ref qT, .int (nI 7), .int (nI 0), .int lo, .int hi, .ref qS])), (qT, .inl (cX, 187, .inl f)), (qS, .inr (0, [.long y, .long z])), (qM, .inr (2, [.ref qU, .int (nI 7), .int (nI 0), .int lo, .int hi])), (qU, .inl (cM, 187, .inl u112))] H := hP
        have hD : va_D A [(qX, .inr (1, [.ref qT, .int (nI 7), .int (nI 0), .int lo, .int hi, .ref qS])), (qT, .inl (cX, 187, .inl f)), (qS, .inr (0, [.long y, .long z])), (qM, .inr (2, [.ref qU, .int (nI 7), .int (nI 0), .int lo, .int hi])), (qU, .inl (cM, 187, .inl u112))] := hD
        refine lv_goto (tgt := 299) hx hb dL_law_115 (by decide) ?_
        refine lv_iinc (v := nI (i + 6)) (lv' := [(3, .int (nI (i + 6))), (2, .ref qM), (1, .ref qX), (0, .ref b)]) hx hb dL_law_299 hl (k := 0) rfl (nI_add i 6) (by decide) rfl (fun ls hl => ?_)
        refine lv_goto (tgt := 18) hx hb dL_law_302 (by decide) ?_
        exact ih (i + 6) f u112 7 0 lo hi y z (by omega) (by omega) (hiv.cl e112) H locs hP hD hS ls (lv_sub hl [0, 1, 2, 3] rfl)
      · skip
        refine lv_tableIn (off := 85) (tgt := 118) hx hb dL_law_33 (by decide) (by decide) (by decide +kernel) (by decide) ?_
        refine lv_aload_n hx hb dL_law_118 rfl (lv_at hl 2 rfl) ?_
        have hPc := hP.sub (ws' := [(qX, .inr (1, [.ref qT, .int (nI n), .int (nI t), .int lo, .int hi, .ref qS])), (qT, .inl (cX, 187, .inl f)), (qS, .inr (0, [.long y, .long z]))]) [0, 1, 2] rfl
        have hDc := hD.sub (ws' := [(qX, .inr (1, [.ref qT, .int (nI n), .int (nI t), .int lo, .int hi, .ref qS])), (qT, .inl (cX, 187, .inl f)), (qS, .inr (0, [.long y, .long z]))]) [0, 1, 2] (by decide) rfl
        have hKc := hK.sub (tys' := [(cX, .int)]) [0] rfl
        refine rr_ri (va_runV (As := []) (rest := []) ⟨hx, hb, hml, hown, hts⟩ (c_X1_size l D qX qT qS H.size cX f n t lo hi y z) (cwV 0 hts gL_law_X1_size rfl rfl rfl (by decide +kernel) ⟨Nat.le_of_ble_eq_true rfl, Nat.le_of_ble_eq_true rfl⟩) (rr_vR hKc hPc (va_recv hKc hPc (ci := 1) (q0 := 0) rfl rfl)) rfl rfl hl.1 rfl (lv_room (Nat.le_of_ble_eq_true rfl)) dL_law_119 ⟨Nat.le_of_ble_eq_true rfl, Nat.le_of_ble_eq_true rfl⟩) hS hA hP (fun r119 H locs e119 hP hS => ?_)
        replace e119 := e119.symm
        subst e119
        refine lv_aload_n hx hb dL_law_122 rfl (lv_at hl 1 rfl) ?_
        have hPc := hP.sub (ws' := [(qM, .inr (2, [.ref qU, .int (nI n), .int (nI t), .int lo, .int hi])), (qU, .inl (cM, 187, .inl g))]) [3, 4] rfl
        have hDc := hD.sub (ws' := [(qM, .inr (2, [.ref qU, .int (nI n), .int (nI t), .int lo, .int hi])), (qU, .inl (cM, 187, .inl g))]) [3, 4] (by decide) rfl
        have hKc := hK.sub (tys' := [(cM, .int)]) [1] rfl
        refine rr_ri (va_runV (As := []) (rest := [.int (nI n)]) ⟨hx, hb, hml, hown, hts⟩ (c_X2_size l D qM qU H.size cM g n t lo hi) (cwV 0 hts gL_law_X2_size rfl rfl rfl (by decide +kernel) ⟨Nat.le_of_ble_eq_true rfl, Nat.le_of_ble_eq_true rfl⟩) (rr_vR hKc hPc (va_recv hKc hPc (ci := 2) (q0 := 0) rfl rfl)) rfl rfl hl.1 rfl (lv_room (Nat.le_of_ble_eq_true rfl)) dL_law_123 ⟨Nat.le_of_ble_eq_true rfl, Nat.le_of_ble_eq_true rfl⟩) hS hA hP (fun r123 H locs e123 hP hS => ?_)
        replace e123 := e123.symm
        subst e123
        refine lv_icmp_eq (tgt := 299) hx hb dL_law_126 (by decide) (fun c126 => ?_) (fun c126 => ?_)
        · skip
          refine lv_iinc (v := nI (i + 6)) (lv' := [(3, .int (nI (i + 6))), (2, .ref qM), (1, .ref qX), (0, .ref b)]) hx hb dL_law_299 hl (k := 0) rfl (nI_add i 6) (by decide) rfl (fun ls hl => ?_)
          refine lv_goto (tgt := 18) hx hb dL_law_302 (by decide) ?_
          exact ih (i + 6) f g n t lo hi y z (by omega) (by omega) hiv H locs hP hD hS ls (lv_sub hl [0, 1, 2, 3] rfl)
        · skip
          exact absurd (rfl) c126
      · skip
        refine lv_tableIn (off := 98) (tgt := 131) hx hb dL_law_33 (by decide) (by decide) (by decide +kernel) (by decide) ?_
        refine lv_aload_n hx hb dL_law_131 rfl (lv_at hl 2 rfl) ?_
        refine lv_aload_n hx hb dL_law_132 rfl (lv_at hl 3 rfl) ?_
        refine lv_iload_n hx hb dL_law_133 rfl (lv_at hl 0 rfl) ?_
        refine lv_iconst (v := 1) hx hb dL_law_134 (by decide) ?_
        refine lv_iadd hx hb dL_law_135 ?_
        refine W.eq (congrArg (fun z => F0 m 136 ls (.int z :: [.ref b, .ref qX])) (nI_1 i)) ?_
        refine va_sld hx hb hX hXl hXA hS (vp_in_nI (by omega) (by omega)) dL_law_136 ?_
        refine W.eq (congrArg (fun z => F0 m 137 ls (.int z :: [.ref qX])) (congrArg xs (nI_clamp (by omega)))) ?_
        have hPc := hP.sub (ws' := [(qX, .inr (1, [.ref qT, .int (nI n), .int (nI t), .int lo, .int hi, .ref qS])), (qT, .inl (cX, 187, .inl f)), (qS, .inr (0, [.long y, .long z]))]) [0, 1, 2] rfl
        have hDc := hD.sub (ws' := [(qX, .inr (1, [.ref qT, .int (nI n), .int (nI t), .int lo, .int hi, .ref qS])), (qT, .inl (cX, 187, .inl f)), (qS, .inr (0, [.long y, .long z]))]) [0, 1, 2] (by decide) rfl
        have hKc := hK.sub (tys' := [(cX, .int)]) [0] rfl
        refine rr_ri (va_runV (As := [.int (xs (i + 1))]) (rest := []) ⟨hx, hb, hml, hown, hts⟩ (c_X1_down l D qX qT qS H.size cX f n t lo hi y z (xs (i + 1)) hiv.le) (cwV 1 hts gL_law_X1_down rfl rfl rfl (by decide +kernel) ⟨Nat.le_of_ble_eq_true rfl, Nat.le_of_ble_eq_true rfl⟩) (rr_vR hKc hPc (va_recv hKc hPc (ci := 1) (q0 := 0) rfl rfl)) rfl rfl hl.1 rfl (lv_room (Nat.le_of_ble_eq_true rfl)) dL_law_137 ⟨Nat.le_of_ble_eq_true rfl, Nat.le_of_ble_eq_true rfl⟩) hS hA hP (fun r137 H locs e137 hP hS => ?_)
        replace e137 := e137.symm
        subst e137
        refine lv_aload_n hx hb dL_law_140 rfl (lv_at hl 1 rfl) ?_
        refine lv_aload_n hx hb dL_law_141 rfl (lv_at hl 3 rfl) ?_
        refine lv_iload_n hx hb dL_law_142 rfl (lv_at hl 0 rfl) ?_
        refine lv_iconst (v := 1) hx hb dL_law_143 (by decide) ?_
        refine lv_iadd hx hb dL_law_144 ?_
        refine W.eq (congrArg (fun z => F0 m 145 ls (.int z :: [.ref b, .ref qM, .int (rr_dn f (xs (i + 1)) n)])) (nI_1 i)) ?_
        refine va_sld hx hb hX hXl hXA hS (vp_in_nI (by omega) (by omega)) dL_law_145 ?_
        refine W.eq (congrArg (fun z => F0 m 146 ls (.int z :: [.ref qM, .int (rr_dn f (xs (i + 1)) n)])) (congrArg xs (nI_clamp (by omega)))) ?_
        have hPc := hP.sub (ws' := [(qM, .inr (2, [.ref qU, .int (nI n), .int (nI t), .int lo, .int hi])), (qU, .inl (cM, 187, .inl g))]) [3, 4] rfl
        have hDc := hD.sub (ws' := [(qM, .inr (2, [.ref qU, .int (nI n), .int (nI t), .int lo, .int hi])), (qU, .inl (cM, 187, .inl g))]) [3, 4] (by decide) rfl
        have hKc := hK.sub (tys' := [(cM, .int)]) [1] rfl
        refine rr_ri (va_runV (As := [.int (xs (i + 1))]) (rest := [.int (rr_dn f (xs (i + 1)) n)]) ⟨hx, hb, hml, hown, hts⟩ (c_X2_down l D qM qU H.size cM g n t lo hi (xs (i + 1)) hiv.le) (cwV 1 hts gL_law_X2_down rfl rfl rfl (by decide +kernel) ⟨Nat.le_of_ble_eq_true rfl, Nat.le_of_ble_eq_true rfl⟩) (rr_vR hKc hPc (va_recv hKc hPc (ci := 2) (q0 := 0) rfl rfl)) rfl rfl hl.1 rfl (lv_room (Nat.le_of_ble_eq_true rfl)) dL_law_146 ⟨Nat.le_of_ble_eq_true rfl, Nat.le_of_ble_eq_true rfl⟩) hS hA hP (fun r146 H locs e146 hP hS => ?_)
        replace e146 := e146.symm
        subst e146
        refine lv_icmp_eq (tgt := 299) hx hb dL_law_149 (by decide) (fun c149 => ?_) (fun c149 => ?_)
        · skip
          refine lv_iinc (v := nI (i + 6)) (lv' := [(3, .int (nI (i + 6))), (2, .ref qM), (1, .ref qX), (0, .ref b)]) hx hb dL_law_299 hl (k := 0) rfl (nI_add i 6) (by decide) rfl (fun ls hl => ?_)
          refine lv_goto (tgt := 18) hx hb dL_law_302 (by decide) ?_
          exact ih (i + 6) f g n t lo hi y z (by omega) (by omega) hiv H locs hP hD hS ls (lv_sub hl [0, 1, 2, 3] rfl)
        · skip
          exact absurd (rr_dn_c hiv.1) c149
      · skip
        refine lv_tableIn (off := 121) (tgt := 154) hx hb dL_law_33 (by decide) (by decide) (by decide +kernel) (by decide) ?_
        refine lv_aload_n hx hb dL_law_154 rfl (lv_at hl 2 rfl) ?_
        refine lv_aload_n hx hb dL_law_155 rfl (lv_at hl 3 rfl) ?_
        refine lv_iload_n hx hb dL_law_156 rfl (lv_at hl 0 rfl) ?_
        refine lv_iconst (v := 1) hx hb dL_law_157 (by decide) ?_
        refine lv_iadd hx hb dL_law_158 ?_
        refine W.eq (congrArg (fun z => F0 m 159 ls (.int z :: [.ref b, .ref qX])) (nI_1 i)) ?_
        refine va_sld hx hb hX hXl hXA hS (vp_in_nI (by omega) (by omega)) dL_law_159 ?_
        refine W.eq (congrArg (fun z => F0 m 160 ls (.int z :: [.ref qX])) (congrArg xs (nI_clamp (by omega)))) ?_
        have hPc := hP.sub (ws' := [(qX, .inr (1, [.ref qT, .int (nI n), .int (nI t), .int lo, .int hi, .ref qS])), (qT, .inl (cX, 187, .inl f)), (qS, .inr (0, [.long y, .long z]))]) [0, 1, 2] rfl
        have hDc := hD.sub (ws' := [(qX, .inr (1, [.ref qT, .int (nI n), .int (nI t), .int lo, .int hi, .ref qS])), (qT, .inl (cX, 187, .inl f)), (qS, .inr (0, [.long y, .long z]))]) [0, 1, 2] (by decide) rfl
        have hKc := hK.sub (tys' := [(cX, .int)]) [0] rfl
        refine rr_ri (va_runV (As := [.int (xs (i + 1))]) (rest := []) ⟨hx, hb, hml, hown, hts⟩ (c_X1_up l D qX qT qS H.size cX f n t lo hi y z (xs (i + 1)) hiv.le) (cwV 1 hts gL_law_X1_up rfl rfl rfl (by decide +kernel) ⟨Nat.le_of_ble_eq_true rfl, Nat.le_of_ble_eq_true rfl⟩) (rr_vR hKc hPc (va_recv hKc hPc (ci := 1) (q0 := 0) rfl rfl)) rfl rfl hl.1 rfl (lv_room (Nat.le_of_ble_eq_true rfl)) dL_law_160 ⟨Nat.le_of_ble_eq_true rfl, Nat.le_of_ble_eq_true rfl⟩) hS hA hP (fun r160 H locs e160 hP hS => ?_)
        replace e160 := e160.symm
        subst e160
        refine lv_aload_n hx hb dL_law_163 rfl (lv_at hl 1 rfl) ?_
        refine lv_aload_n hx hb dL_law_164 rfl (lv_at hl 3 rfl) ?_
        refine lv_iload_n hx hb dL_law_165 rfl (lv_at hl 0 rfl) ?_
        refine lv_iconst (v := 1) hx hb dL_law_166 (by decide) ?_
        refine lv_iadd hx hb dL_law_167 ?_
        refine W.eq (congrArg (fun z => F0 m 168 ls (.int z :: [.ref b, .ref qM, .int (rr_up f (xs (i + 1)) n)])) (nI_1 i)) ?_
        refine va_sld hx hb hX hXl hXA hS (vp_in_nI (by omega) (by omega)) dL_law_168 ?_
        refine W.eq (congrArg (fun z => F0 m 169 ls (.int z :: [.ref qM, .int (rr_up f (xs (i + 1)) n)])) (congrArg xs (nI_clamp (by omega)))) ?_
        have hPc := hP.sub (ws' := [(qM, .inr (2, [.ref qU, .int (nI n), .int (nI t), .int lo, .int hi])), (qU, .inl (cM, 187, .inl g))]) [3, 4] rfl
        have hDc := hD.sub (ws' := [(qM, .inr (2, [.ref qU, .int (nI n), .int (nI t), .int lo, .int hi])), (qU, .inl (cM, 187, .inl g))]) [3, 4] (by decide) rfl
        have hKc := hK.sub (tys' := [(cM, .int)]) [1] rfl
        refine rr_ri (va_runV (As := [.int (xs (i + 1))]) (rest := [.int (rr_up f (xs (i + 1)) n)]) ⟨hx, hb, hml, hown, hts⟩ (c_X2_up l D qM qU H.size cM g n t lo hi (xs (i + 1)) hiv.le) (cwV 1 hts gL_law_X2_up rfl rfl rfl (by decide +kernel) ⟨Nat.le_of_ble_eq_true rfl, Nat.le_of_ble_eq_true rfl⟩) (rr_vR hKc hPc (va_recv hKc hPc (ci := 2) (q0 := 0) rfl rfl)) rfl rfl hl.1 rfl (lv_room (Nat.le_of_ble_eq_true rfl)) dL_law_169 ⟨Nat.le_of_ble_eq_true rfl, Nat.le_of_ble_eq_true rfl⟩) hS hA hP (fun r169 H locs e169 hP hS => ?_)
        replace e169 := e169.symm
        subst e169
        refine lv_icmp_eq (tgt := 299) hx hb dL_law_172 (by decide) (fun c172 => ?_) (fun c172 => ?_)
        · skip
          refine lv_iinc (v := nI (i + 6)) (lv' := [(3, .int (nI (i + 6))), (2, .ref qM), (1, .ref qX), (0, .ref b)]) hx hb dL_law_299 hl (k := 0) rfl (nI_add i 6) (by decide) rfl (fun ls hl => ?_)
          refine lv_goto (tgt := 18) hx hb dL_law_302 (by decide) ?_
          exact ih (i + 6) f g n t lo hi y z (by omega) (by omega) hiv H locs hP hD hS ls (lv_sub hl [0, 1, 2, 3] rfl)
        · skip
          exact absurd (rr_up_c hiv.1) c172
      · skip
        refine lv_tableIn (off := 144) (tgt := 177) hx hb dL_law_33 (by decide) (by decide) (by decide +kernel) (by decide) ?_
        refine lv_aload_n hx hb dL_law_177 rfl (lv_at hl 2 rfl) ?_
        refine lv_aload_n hx hb dL_law_178 rfl (lv_at hl 3 rfl) ?_
        refine lv_iload_n hx hb dL_law_179 rfl (lv_at hl 0 rfl) ?_
        refine lv_iconst (v := 1) hx hb dL_law_180 (by decide) ?_
        refine lv_iadd hx hb dL_law_181 ?_
        refine W.eq (congrArg (fun z => F0 m 182 ls (.int z :: [.ref b, .ref qX])) (nI_1 i)) ?_
        refine va_sld hx hb hX hXl hXA hS (vp_in_nI (by omega) (by omega)) dL_law_182 ?_
        refine W.eq (congrArg (fun z => F0 m 183 ls (.int z :: [.ref qX])) (congrArg xs (nI_clamp (by omega)))) ?_
        refine lv_aload_n hx hb dL_law_183 rfl (lv_at hl 3 rfl) ?_
        refine lv_iload_n hx hb dL_law_184 rfl (lv_at hl 0 rfl) ?_
        refine lv_iconst (v := 2) hx hb dL_law_185 (by decide) ?_
        refine lv_iadd hx hb dL_law_186 ?_
        refine W.eq (congrArg (fun z => F0 m 187 ls (.int z :: [.ref b, .int (xs (i + 1)), .ref qX])) (nI_add i 2)) ?_
        refine va_sld hx hb hX hXl hXA hS (vp_in_nI (by omega) (by omega)) dL_law_187 ?_
        refine W.eq (congrArg (fun z => F0 m 188 ls (.int z :: [.int (xs (i + 1)), .ref qX])) (congrArg xs (nI_clamp (by omega)))) ?_
        refine lv_aload_n hx hb dL_law_188 rfl (lv_at hl 3 rfl) ?_
        refine lv_iload_n hx hb dL_law_189 rfl (lv_at hl 0 rfl) ?_
        refine lv_iconst (v := 3) hx hb dL_law_190 (by decide) ?_
        refine lv_iadd hx hb dL_law_191 ?_
        refine W.eq (congrArg (fun z => F0 m 192 ls (.int z :: [.ref b, .int (xs (i + 2)), .int (xs (i + 1)), .ref qX])) (nI_add i 3)) ?_
        refine va_sld hx hb hX hXl hXA hS (vp_in_nI (by omega) (by omega)) dL_law_192 ?_
        refine W.eq (congrArg (fun z => F0 m 193 ls (.int z :: [.int (xs (i + 2)), .int (xs (i + 1)), .ref qX])) (congrArg xs (nI_clamp (by omega)))) ?_
        refine lv_aload_n hx hb dL_law_193 rfl (lv_at hl 3 rfl) ?_
        refine lv_iload_n hx hb dL_law_194 rfl (lv_at hl 0 rfl) ?_
        refine lv_iconst (v := 4) hx hb dL_law_195 (by decide) ?_
        refine lv_iadd hx hb dL_law_196 ?_
        refine W.eq (congrArg (fun z => F0 m 197 ls (.int z :: [.ref b, .int (xs (i + 3)), .int (xs (i + 2)), .int (xs (i + 1)), .ref qX])) (nI_add i 4)) ?_
        refine va_sld hx hb hX hXl hXA hS (vp_in_nI (by omega) (by omega)) dL_law_197 ?_
        refine W.eq (congrArg (fun z => F0 m 198 ls (.int z :: [.int (xs (i + 3)), .int (xs (i + 2)), .int (xs (i + 1)), .ref qX])) (congrArg xs (nI_clamp (by omega)))) ?_
        refine lv_aload_n hx hb dL_law_198 rfl (lv_at hl 3 rfl) ?_
        refine lv_iload_n hx hb dL_law_199 rfl (lv_at hl 0 rfl) ?_
        refine lv_iconst (v := 5) hx hb dL_law_200 (by decide) ?_
        refine lv_iadd hx hb dL_law_201 ?_
        refine W.eq (congrArg (fun z => F0 m 202 ls (.int z :: [.ref b, .int (xs (i + 4)), .int (xs (i + 3)), .int (xs (i + 2)), .int (xs (i + 1)), .ref qX])) (nI_add i 5)) ?_
        refine va_sld hx hb hX hXl hXA hS (vp_in_nI (by omega) (by omega)) dL_law_202 ?_
        refine W.eq (congrArg (fun z => F0 m 203 ls (.int z :: [.int (xs (i + 4)), .int (xs (i + 3)), .int (xs (i + 2)), .int (xs (i + 1)), .ref qX])) (congrArg xs (nI_clamp (by omega)))) ?_
        have hPc := hP.sub (ws' := [(qX, .inr (1, [.ref qT, .int (nI n), .int (nI t), .int lo, .int hi, .ref qS])), (qT, .inl (cX, 187, .inl f)), (qS, .inr (0, [.long y, .long z]))]) [0, 1, 2] rfl
        have hDc := hD.sub (ws' := [(qX, .inr (1, [.ref qT, .int (nI n), .int (nI t), .int lo, .int hi, .ref qS])), (qT, .inl (cX, 187, .inl f)), (qS, .inr (0, [.long y, .long z]))]) [0, 1, 2] (by decide) rfl
        have hKc := hK.sub (tys' := [(cX, .int)]) [0] rfl
        refine rr_wi (wr := [(qM, .inr (2, [.ref qU, .int (nI n), .int (nI t), .int lo, .int hi])), (qU, .inl (cM, 187, .inl g))]) [0, 1, 2] [3, 4] (va_runV (As := [.int (xs (i + 1)), .int (xs (i + 2)), .int (xs (i + 3)), .int (xs (i + 4)), .int (xs (i + 5))]) (rest := []) ⟨hx, hb, hml, hown, hts⟩ (c_X1_work l D qX qT qS H.size cX f n t lo hi y z (xs (i + 1)) (xs (i + 2)) (xs (i + 3)) (xs (i + 4)) (xs (i + 5)) hiv.le hiv.2.1) (cwV 5 hts gL_law_X1_work rfl rfl rfl (by decide +kernel) ⟨Nat.le_of_ble_eq_true rfl, Nat.le_of_ble_eq_true rfl⟩) (rr_vN hN hKc hPc hDc (va_recv hKc hPc (ci := 1) (q0 := 0) rfl rfl)) rfl rfl hl.1 rfl (lv_room (Nat.le_of_ble_eq_true rfl)) dL_law_203 ⟨Nat.le_of_ble_eq_true rfl, Nat.le_of_ble_eq_true rfl⟩) hS hA hP hD rfl rfl (by decide) (by decide) (by decide) (fun _ => by simp only [rr_wx, rr_wm, List.map_cons, List.map_nil]) (fun r203 u203 H locs e203 hP hD hS => ?_)
        have hP : va_P D vwCl [(qX, .inr (1, [.ref qT, .int (nI n), .int (nI t), .int ((rr_wk f n lo hi (xs (i + 1)) (xs (i + 2)) (xs (i + 3)) (xs (i + 4)) (xs (i + 5))).2.1), .int ((rr_wk f n lo hi (xs (i + 1)) (xs (i + 2)) (xs (i + 3)) (xs (i + 4)) (xs (i + 5))).2.2), .ref qS])), (qT, .inl (cX, 187, .inl f)), (qS, .inr (0, [.long u203.1, .long u203.2])), (qM, .inr (2, [.ref qU, .int (nI n), .int (nI t), .int lo, .int hi])), (qU, .inl (cM, 187, .inl g))] H := hP.sub [2, 3, 4, 0, 1] rfl
        have hD : va_D A [(qX, .inr (1, [.ref qT, .int (nI n), .int (nI t), .int ((rr_wk f n lo hi (xs (i + 1)) (xs (i + 2)) (xs (i + 3)) (xs (i + 4)) (xs (i + 5))).2.1), .int ((rr_wk f n lo hi (xs (i + 1)) (xs (i + 2)) (xs (i + 3)) (xs (i + 4)) (xs (i + 5))).2.2), .ref qS])), (qT, .inl (cX, 187, .inl f)), (qS, .inr (0, [.long u203.1, .long u203.2])), (qM, .inr (2, [.ref qU, .int (nI n), .int (nI t), .int lo, .int hi])), (qU, .inl (cM, 187, .inl g))] := hD.sub [2, 3, 4, 0, 1] (by decide) rfl
        subst e203
        refine lv_aload_n hx hb dL_law_206 rfl (lv_at hl 1 rfl) ?_
        refine lv_aload_n hx hb dL_law_207 rfl (lv_at hl 3 rfl) ?_
        refine lv_iload_n hx hb dL_law_208 rfl (lv_at hl 0 rfl) ?_
        refine lv_iconst (v := 1) hx hb dL_law_209 (by decide) ?_
        refine lv_iadd hx hb dL_law_210 ?_
        refine W.eq (congrArg (fun z => F0 m 211 ls (.int z :: [.ref b, .ref qM, .int ((rr_wk f n lo hi (xs (i + 1)) (xs (i + 2)) (xs (i + 3)) (xs (i + 4)) (xs (i + 5))).1)])) (nI_1 i)) ?_
        refine va_sld hx hb hX hXl hXA hS (vp_in_nI (by omega) (by omega)) dL_law_211 ?_
        refine W.eq (congrArg (fun z => F0 m 212 ls (.int z :: [.ref qM, .int ((rr_wk f n lo hi (xs (i + 1)) (xs (i + 2)) (xs (i + 3)) (xs (i + 4)) (xs (i + 5))).1)])) (congrArg xs (nI_clamp (by omega)))) ?_
        refine lv_aload_n hx hb dL_law_212 rfl (lv_at hl 3 rfl) ?_
        refine lv_iload_n hx hb dL_law_213 rfl (lv_at hl 0 rfl) ?_
        refine lv_iconst (v := 2) hx hb dL_law_214 (by decide) ?_
        refine lv_iadd hx hb dL_law_215 ?_
        refine W.eq (congrArg (fun z => F0 m 216 ls (.int z :: [.ref b, .int (xs (i + 1)), .ref qM, .int ((rr_wk f n lo hi (xs (i + 1)) (xs (i + 2)) (xs (i + 3)) (xs (i + 4)) (xs (i + 5))).1)])) (nI_add i 2)) ?_
        refine va_sld hx hb hX hXl hXA hS (vp_in_nI (by omega) (by omega)) dL_law_216 ?_
        refine W.eq (congrArg (fun z => F0 m 217 ls (.int z :: [.int (xs (i + 1)), .ref qM, .int ((rr_wk f n lo hi (xs (i + 1)) (xs (i + 2)) (xs (i + 3)) (xs (i + 4)) (xs (i + 5))).1)])) (congrArg xs (nI_clamp (by omega)))) ?_
        refine lv_aload_n hx hb dL_law_217 rfl (lv_at hl 3 rfl) ?_
        refine lv_iload_n hx hb dL_law_218 rfl (lv_at hl 0 rfl) ?_
        refine lv_iconst (v := 3) hx hb dL_law_219 (by decide) ?_
        refine lv_iadd hx hb dL_law_220 ?_
        refine W.eq (congrArg (fun z => F0 m 221 ls (.int z :: [.ref b, .int (xs (i + 2)), .int (xs (i + 1)), .ref qM, .int ((rr_wk f n lo hi (xs (i + 1)) (xs (i + 2)) (xs (i + 3)) (xs (i + 4)) (xs (i + 5))).1)])) (nI_add i 3)) ?_
        refine va_sld hx hb hX hXl hXA hS (vp_in_nI (by omega) (by omega)) dL_law_221 ?_
        refine W.eq (congrArg (fun z => F0 m 222 ls (.int z :: [.int (xs (i + 2)), .int (xs (i + 1)), .ref qM, .int ((rr_wk f n lo hi (xs (i + 1)) (xs (i + 2)) (xs (i + 3)) (xs (i + 4)) (xs (i + 5))).1)])) (congrArg xs (nI_clamp (by omega)))) ?_
        refine lv_aload_n hx hb dL_law_222 rfl (lv_at hl 3 rfl) ?_
        refine lv_iload_n hx hb dL_law_223 rfl (lv_at hl 0 rfl) ?_
        refine lv_iconst (v := 4) hx hb dL_law_224 (by decide) ?_
        refine lv_iadd hx hb dL_law_225 ?_
        refine W.eq (congrArg (fun z => F0 m 226 ls (.int z :: [.ref b, .int (xs (i + 3)), .int (xs (i + 2)), .int (xs (i + 1)), .ref qM, .int ((rr_wk f n lo hi (xs (i + 1)) (xs (i + 2)) (xs (i + 3)) (xs (i + 4)) (xs (i + 5))).1)])) (nI_add i 4)) ?_
        refine va_sld hx hb hX hXl hXA hS (vp_in_nI (by omega) (by omega)) dL_law_226 ?_
        refine W.eq (congrArg (fun z => F0 m 227 ls (.int z :: [.int (xs (i + 3)), .int (xs (i + 2)), .int (xs (i + 1)), .ref qM, .int ((rr_wk f n lo hi (xs (i + 1)) (xs (i + 2)) (xs (i + 3)) (xs (i + 4)) (xs (i + 5))).1)])) (congrArg xs (nI_clamp (by omega)))) ?_
        refine lv_aload_n hx hb dL_law_227 rfl (lv_at hl 3 rfl) ?_
        refine lv_iload_n hx hb dL_law_228 rfl (lv_at hl 0 rfl) ?_
        refine lv_iconst (v := 5) hx hb dL_law_229 (by decide) ?_
        refine lv_iadd hx hb dL_law_230 ?_
        refine W.eq (congrArg (fun z => F0 m 231 ls (.int z :: [.ref b, .int (xs (i + 4)), .int (xs (i + 3)), .int (xs (i + 2)), .int (xs (i + 1)), .ref qM, .int ((rr_wk f n lo hi (xs (i + 1)) (xs (i + 2)) (xs (i + 3)) (xs (i + 4)) (xs (i + 5))).1)])) (nI_add i 5)) ?_
        refine va_sld hx hb hX hXl hXA hS (vp_in_nI (by omega) (by omega)) dL_law_231 ?_
        refine W.eq (congrArg (fun z => F0 m 232 ls (.int z :: [.int (xs (i + 4)), .int (xs (i + 3)), .int (xs (i + 2)), .int (xs (i + 1)), .ref qM, .int ((rr_wk f n lo hi (xs (i + 1)) (xs (i + 2)) (xs (i + 3)) (xs (i + 4)) (xs (i + 5))).1)])) (congrArg xs (nI_clamp (by omega)))) ?_
        have hPc := hP.sub (ws' := [(qM, .inr (2, [.ref qU, .int (nI n), .int (nI t), .int lo, .int hi])), (qU, .inl (cM, 187, .inl g))]) [3, 4] rfl
        have hDc := hD.sub (ws' := [(qM, .inr (2, [.ref qU, .int (nI n), .int (nI t), .int lo, .int hi])), (qU, .inl (cM, 187, .inl g))]) [3, 4] (by decide) rfl
        have hKc := hK.sub (tys' := [(cM, .int)]) [1] rfl
        refine rr_wi (wr := [(qX, .inr (1, [.ref qT, .int (nI n), .int (nI t), .int ((rr_wk f n lo hi (xs (i + 1)) (xs (i + 2)) (xs (i + 3)) (xs (i + 4)) (xs (i + 5))).2.1), .int ((rr_wk f n lo hi (xs (i + 1)) (xs (i + 2)) (xs (i + 3)) (xs (i + 4)) (xs (i + 5))).2.2), .ref qS])), (qT, .inl (cX, 187, .inl f)), (qS, .inr (0, [.long u203.1, .long u203.2]))]) [3, 4] [0, 1, 2] (va_runV (As := [.int (xs (i + 1)), .int (xs (i + 2)), .int (xs (i + 3)), .int (xs (i + 4)), .int (xs (i + 5))]) (rest := [.int ((rr_wk f n lo hi (xs (i + 1)) (xs (i + 2)) (xs (i + 3)) (xs (i + 4)) (xs (i + 5))).1)]) ⟨hx, hb, hml, hown, hts⟩ (c_X2_work l D qM qU H.size cM g n t lo hi (xs (i + 1)) (xs (i + 2)) (xs (i + 3)) (xs (i + 4)) (xs (i + 5)) hiv.le hiv.ok) (cwV 5 hts gL_law_X2_work rfl rfl rfl (by decide +kernel) ⟨Nat.le_of_ble_eq_true rfl, Nat.le_of_ble_eq_true rfl⟩) (rr_vW hKc hPc hDc (va_recv hKc hPc (ci := 2) (q0 := 0) rfl rfl)) rfl rfl hl.1 rfl (lv_room (Nat.le_of_ble_eq_true rfl)) dL_law_232 ⟨Nat.le_of_ble_eq_true rfl, Nat.le_of_ble_eq_true rfl⟩) hS hA hP hD rfl rfl (by decide) (by decide) (by decide) (fun _ => by simp only [rr_wx, rr_wm, List.map_cons, List.map_nil]) (fun r232 u232 H locs e232 hP hD hS => ?_)
        have hP : va_P D vwCl [(qX, .inr (1, [.ref qT, .int (nI n), .int (nI t), .int ((rr_wk f n lo hi (xs (i + 1)) (xs (i + 2)) (xs (i + 3)) (xs (i + 4)) (xs (i + 5))).2.1), .int ((rr_wk f n lo hi (xs (i + 1)) (xs (i + 2)) (xs (i + 3)) (xs (i + 4)) (xs (i + 5))).2.2), .ref qS])), (qT, .inl (cX, 187, .inl f)), (qS, .inr (0, [.long u203.1, .long u203.2])), (qM, .inr (2, [.ref qU, .int (nI n), .int (nI t), .int ((rr_wk g n lo hi (xs (i + 1)) (xs (i + 2)) (xs (i + 3)) (xs (i + 4)) (xs (i + 5))).2.1), .int ((rr_wk g n lo hi (xs (i + 1)) (xs (i + 2)) (xs (i + 3)) (xs (i + 4)) (xs (i + 5))).2.2)])), (qU, .inl (cM, 187, .inl g))] H := hP
        have hD : va_D A [(qX, .inr (1, [.ref qT, .int (nI n), .int (nI t), .int ((rr_wk f n lo hi (xs (i + 1)) (xs (i + 2)) (xs (i + 3)) (xs (i + 4)) (xs (i + 5))).2.1), .int ((rr_wk f n lo hi (xs (i + 1)) (xs (i + 2)) (xs (i + 3)) (xs (i + 4)) (xs (i + 5))).2.2), .ref qS])), (qT, .inl (cX, 187, .inl f)), (qS, .inr (0, [.long u203.1, .long u203.2])), (qM, .inr (2, [.ref qU, .int (nI n), .int (nI t), .int ((rr_wk g n lo hi (xs (i + 1)) (xs (i + 2)) (xs (i + 3)) (xs (i + 4)) (xs (i + 5))).2.1), .int ((rr_wk g n lo hi (xs (i + 1)) (xs (i + 2)) (xs (i + 3)) (xs (i + 4)) (xs (i + 5))).2.2)])), (qU, .inl (cM, 187, .inl g))] := hD
        subst e232
        refine lv_icmp_eq (tgt := 299) hx hb dL_law_235 (by decide) (fun c235 => ?_) (fun c235 => ?_)
        · skip
          have ew : (rr_wk f n lo hi (xs (i + 1)) (xs (i + 2)) (xs (i + 3)) (xs (i + 4)) (xs (i + 5))) = (rr_wk g n lo hi (xs (i + 1)) (xs (i + 2)) (xs (i + 3)) (xs (i + 4)) (xs (i + 5))) := rr_wk_c hiv.1
          rw [← ew] at hP hD
          have hP : va_P D vwCl [(qX, .inr (1, [.ref qT, .int (nI n), .int (nI t), .int ((rr_wk f n lo hi (xs (i + 1)) (xs (i + 2)) (xs (i + 3)) (xs (i + 4)) (xs (i + 5))).2.1), .int ((rr_wk f n lo hi (xs (i + 1)) (xs (i + 2)) (xs (i + 3)) (xs (i + 4)) (xs (i + 5))).2.2), .ref qS])), (qT, .inl (cX, 187, .inl f)), (qS, .inr (0, [.long u203.1, .long u203.2])), (qM, .inr (2, [.ref qU, .int (nI n), .int (nI t), .int ((rr_wk f n lo hi (xs (i + 1)) (xs (i + 2)) (xs (i + 3)) (xs (i + 4)) (xs (i + 5))).2.1), .int ((rr_wk f n lo hi (xs (i + 1)) (xs (i + 2)) (xs (i + 3)) (xs (i + 4)) (xs (i + 5))).2.2)])), (qU, .inl (cM, 187, .inl g))] H := hP
          have hD : va_D A [(qX, .inr (1, [.ref qT, .int (nI n), .int (nI t), .int ((rr_wk f n lo hi (xs (i + 1)) (xs (i + 2)) (xs (i + 3)) (xs (i + 4)) (xs (i + 5))).2.1), .int ((rr_wk f n lo hi (xs (i + 1)) (xs (i + 2)) (xs (i + 3)) (xs (i + 4)) (xs (i + 5))).2.2), .ref qS])), (qT, .inl (cX, 187, .inl f)), (qS, .inr (0, [.long u203.1, .long u203.2])), (qM, .inr (2, [.ref qU, .int (nI n), .int (nI t), .int ((rr_wk f n lo hi (xs (i + 1)) (xs (i + 2)) (xs (i + 3)) (xs (i + 4)) (xs (i + 5))).2.1), .int ((rr_wk f n lo hi (xs (i + 1)) (xs (i + 2)) (xs (i + 3)) (xs (i + 4)) (xs (i + 5))).2.2)])), (qU, .inl (cM, 187, .inl g))] := hD
          refine lv_iinc (v := nI (i + 6)) (lv' := [(3, .int (nI (i + 6))), (2, .ref qM), (1, .ref qX), (0, .ref b)]) hx hb dL_law_299 hl (k := 0) rfl (nI_add i 6) (by decide) rfl (fun ls hl => ?_)
          refine lv_goto (tgt := 18) hx hb dL_law_302 (by decide) ?_
          exact ih (i + 6) f g n t ((rr_wk f n lo hi (xs (i + 1)) (xs (i + 2)) (xs (i + 3)) (xs (i + 4)) (xs (i + 5))).2.1) ((rr_wk f n lo hi (xs (i + 1)) (xs (i + 2)) (xs (i + 3)) (xs (i + 4)) (xs (i + 5))).2.2) u203.1 u203.2 (by omega) (by omega) hiv H locs hP hD hS ls (lv_sub hl [0, 1, 2, 3] rfl)
        · skip
          exact absurd (by rw [rr_wk_c hiv.1]) c235
      · skip
        refine lv_tableIn (off := 207) (tgt := 240) hx hb dL_law_33 (by decide) (by decide) (by decide +kernel) (by decide) ?_
        refine lv_aload_n hx hb dL_law_240 rfl (lv_at hl 2 rfl) ?_
        refine lv_aload_n hx hb dL_law_241 rfl (lv_at hl 3 rfl) ?_
        refine lv_iload_n hx hb dL_law_242 rfl (lv_at hl 0 rfl) ?_
        refine lv_iconst (v := 1) hx hb dL_law_243 (by decide) ?_
        refine lv_iadd hx hb dL_law_244 ?_
        refine W.eq (congrArg (fun z => F0 m 245 ls (.int z :: [.ref b, .ref qX])) (nI_1 i)) ?_
        refine va_sld hx hb hX hXl hXA hS (vp_in_nI (by omega) (by omega)) dL_law_245 ?_
        refine W.eq (congrArg (fun z => F0 m 246 ls (.int z :: [.ref qX])) (congrArg xs (nI_clamp (by omega)))) ?_
        refine lv_aload_n hx hb dL_law_246 rfl (lv_at hl 3 rfl) ?_
        refine lv_iload_n hx hb dL_law_247 rfl (lv_at hl 0 rfl) ?_
        refine lv_iconst (v := 2) hx hb dL_law_248 (by decide) ?_
        refine lv_iadd hx hb dL_law_249 ?_
        refine W.eq (congrArg (fun z => F0 m 250 ls (.int z :: [.ref b, .int (xs (i + 1)), .ref qX])) (nI_add i 2)) ?_
        refine va_sld hx hb hX hXl hXA hS (vp_in_nI (by omega) (by omega)) dL_law_250 ?_
        refine W.eq (congrArg (fun z => F0 m 251 ls (.int z :: [.int (xs (i + 1)), .ref qX])) (congrArg xs (nI_clamp (by omega)))) ?_
        have hPc := hP.sub (ws' := [(qX, .inr (1, [.ref qT, .int (nI n), .int (nI t), .int lo, .int hi, .ref qS])), (qT, .inl (cX, 187, .inl f)), (qS, .inr (0, [.long y, .long z]))]) [0, 1, 2] rfl
        have hDc := hD.sub (ws' := [(qX, .inr (1, [.ref qT, .int (nI n), .int (nI t), .int lo, .int hi, .ref qS])), (qT, .inl (cX, 187, .inl f)), (qS, .inr (0, [.long y, .long z]))]) [0, 1, 2] (by decide) rfl
        have hKc := hK.sub (tys' := [(cX, .int)]) [0] rfl
        refine rr_wi (wr := [(qM, .inr (2, [.ref qU, .int (nI n), .int (nI t), .int lo, .int hi])), (qU, .inl (cM, 187, .inl g))]) [0, 1, 2] [3, 4] (va_runV (As := [.int (xs (i + 1)), .int (xs (i + 2))]) (rest := []) ⟨hx, hb, hml, hown, hts⟩ (c_X1_negate l D qX qT qS H.size cX f n t lo hi y z (xs (i + 1)) (xs (i + 2)) hiv.le hiv.2.1) (cwV 2 hts gL_law_X1_negate rfl rfl rfl (by decide +kernel) ⟨Nat.le_of_ble_eq_true rfl, Nat.le_of_ble_eq_true rfl⟩) (rr_vW hKc hPc hDc (va_recv hKc hPc (ci := 1) (q0 := 0) rfl rfl)) rfl rfl hl.1 rfl (lv_room (Nat.le_of_ble_eq_true rfl)) dL_law_251 ⟨Nat.le_of_ble_eq_true rfl, Nat.le_of_ble_eq_true rfl⟩) hS hA hP hD rfl rfl (by decide) (by decide) (by decide) (fun _ => by simp only [rr_wx, rr_wm, List.map_cons, List.map_nil]) (fun r251 u251 H locs e251 hP hD hS => ?_)
        have hP : va_P D vwCl [(qX, .inr (1, [.ref qT, .int (nI n), .int (nI t), .int ((rr_ng f n lo hi (xs (i + 1)) (xs (i + 2))).2.1), .int ((rr_ng f n lo hi (xs (i + 1)) (xs (i + 2))).2.2), .ref qS])), (qT, .inl (cX, 187, .inl f)), (qS, .inr (0, [.long y, .long z])), (qM, .inr (2, [.ref qU, .int (nI n), .int (nI t), .int lo, .int hi])), (qU, .inl (cM, 187, .inl g))] H := hP.sub [2, 3, 4, 0, 1] rfl
        have hD : va_D A [(qX, .inr (1, [.ref qT, .int (nI n), .int (nI t), .int ((rr_ng f n lo hi (xs (i + 1)) (xs (i + 2))).2.1), .int ((rr_ng f n lo hi (xs (i + 1)) (xs (i + 2))).2.2), .ref qS])), (qT, .inl (cX, 187, .inl f)), (qS, .inr (0, [.long y, .long z])), (qM, .inr (2, [.ref qU, .int (nI n), .int (nI t), .int lo, .int hi])), (qU, .inl (cM, 187, .inl g))] := hD.sub [2, 3, 4, 0, 1] (by decide) rfl
        subst e251
        refine lv_aload_n hx hb dL_law_254 rfl (lv_at hl 1 rfl) ?_
        refine lv_aload_n hx hb dL_law_255 rfl (lv_at hl 3 rfl) ?_
        refine lv_iload_n hx hb dL_law_256 rfl (lv_at hl 0 rfl) ?_
        refine lv_iconst (v := 1) hx hb dL_law_257 (by decide) ?_
        refine lv_iadd hx hb dL_law_258 ?_
        refine W.eq (congrArg (fun z => F0 m 259 ls (.int z :: [.ref b, .ref qM, .int ((rr_ng f n lo hi (xs (i + 1)) (xs (i + 2))).1)])) (nI_1 i)) ?_
        refine va_sld hx hb hX hXl hXA hS (vp_in_nI (by omega) (by omega)) dL_law_259 ?_
        refine W.eq (congrArg (fun z => F0 m 260 ls (.int z :: [.ref qM, .int ((rr_ng f n lo hi (xs (i + 1)) (xs (i + 2))).1)])) (congrArg xs (nI_clamp (by omega)))) ?_
        refine lv_aload_n hx hb dL_law_260 rfl (lv_at hl 3 rfl) ?_
        refine lv_iload_n hx hb dL_law_261 rfl (lv_at hl 0 rfl) ?_
        refine lv_iconst (v := 2) hx hb dL_law_262 (by decide) ?_
        refine lv_iadd hx hb dL_law_263 ?_
        refine W.eq (congrArg (fun z => F0 m 264 ls (.int z :: [.ref b, .int (xs (i + 1)), .ref qM, .int ((rr_ng f n lo hi (xs (i + 1)) (xs (i + 2))).1)])) (nI_add i 2)) ?_
        refine va_sld hx hb hX hXl hXA hS (vp_in_nI (by omega) (by omega)) dL_law_264 ?_
        refine W.eq (congrArg (fun z => F0 m 265 ls (.int z :: [.int (xs (i + 1)), .ref qM, .int ((rr_ng f n lo hi (xs (i + 1)) (xs (i + 2))).1)])) (congrArg xs (nI_clamp (by omega)))) ?_
        have hPc := hP.sub (ws' := [(qM, .inr (2, [.ref qU, .int (nI n), .int (nI t), .int lo, .int hi])), (qU, .inl (cM, 187, .inl g))]) [3, 4] rfl
        have hDc := hD.sub (ws' := [(qM, .inr (2, [.ref qU, .int (nI n), .int (nI t), .int lo, .int hi])), (qU, .inl (cM, 187, .inl g))]) [3, 4] (by decide) rfl
        have hKc := hK.sub (tys' := [(cM, .int)]) [1] rfl
        refine rr_wi (wr := [(qX, .inr (1, [.ref qT, .int (nI n), .int (nI t), .int ((rr_ng f n lo hi (xs (i + 1)) (xs (i + 2))).2.1), .int ((rr_ng f n lo hi (xs (i + 1)) (xs (i + 2))).2.2), .ref qS])), (qT, .inl (cX, 187, .inl f)), (qS, .inr (0, [.long y, .long z]))]) [3, 4] [0, 1, 2] (va_runV (As := [.int (xs (i + 1)), .int (xs (i + 2))]) (rest := [.int ((rr_ng f n lo hi (xs (i + 1)) (xs (i + 2))).1)]) ⟨hx, hb, hml, hown, hts⟩ (c_X2_negate l D qM qU H.size cM g n t lo hi (xs (i + 1)) (xs (i + 2)) hiv.le hiv.ok) (cwV 2 hts gL_law_X2_negate rfl rfl rfl (by decide +kernel) ⟨Nat.le_of_ble_eq_true rfl, Nat.le_of_ble_eq_true rfl⟩) (rr_vW hKc hPc hDc (va_recv hKc hPc (ci := 2) (q0 := 0) rfl rfl)) rfl rfl hl.1 rfl (lv_room (Nat.le_of_ble_eq_true rfl)) dL_law_265 ⟨Nat.le_of_ble_eq_true rfl, Nat.le_of_ble_eq_true rfl⟩) hS hA hP hD rfl rfl (by decide) (by decide) (by decide) (fun _ => by simp only [rr_wx, rr_wm, List.map_cons, List.map_nil]) (fun r265 u265 H locs e265 hP hD hS => ?_)
        have hP : va_P D vwCl [(qX, .inr (1, [.ref qT, .int (nI n), .int (nI t), .int ((rr_ng f n lo hi (xs (i + 1)) (xs (i + 2))).2.1), .int ((rr_ng f n lo hi (xs (i + 1)) (xs (i + 2))).2.2), .ref qS])), (qT, .inl (cX, 187, .inl f)), (qS, .inr (0, [.long y, .long z])), (qM, .inr (2, [.ref qU, .int (nI n), .int (nI t), .int ((rr_ng g n lo hi (xs (i + 1)) (xs (i + 2))).2.1), .int ((rr_ng g n lo hi (xs (i + 1)) (xs (i + 2))).2.2)])), (qU, .inl (cM, 187, .inl g))] H := hP
        have hD : va_D A [(qX, .inr (1, [.ref qT, .int (nI n), .int (nI t), .int ((rr_ng f n lo hi (xs (i + 1)) (xs (i + 2))).2.1), .int ((rr_ng f n lo hi (xs (i + 1)) (xs (i + 2))).2.2), .ref qS])), (qT, .inl (cX, 187, .inl f)), (qS, .inr (0, [.long y, .long z])), (qM, .inr (2, [.ref qU, .int (nI n), .int (nI t), .int ((rr_ng g n lo hi (xs (i + 1)) (xs (i + 2))).2.1), .int ((rr_ng g n lo hi (xs (i + 1)) (xs (i + 2))).2.2)])), (qU, .inl (cM, 187, .inl g))] := hD
        subst e265
        refine lv_icmp_eq (tgt := 299) hx hb dL_law_268 (by decide) (fun c268 => ?_) (fun c268 => ?_)
        · skip
          have ew : (rr_ng f n lo hi (xs (i + 1)) (xs (i + 2))) = (rr_ng g n lo hi (xs (i + 1)) (xs (i + 2))) := rr_ng_c hiv.1
          rw [← ew] at hP hD
          have hP : va_P D vwCl [(qX, .inr (1, [.ref qT, .int (nI n), .int (nI t), .int ((rr_ng f n lo hi (xs (i + 1)) (xs (i + 2))).2.1), .int ((rr_ng f n lo hi (xs (i + 1)) (xs (i + 2))).2.2), .ref qS])), (qT, .inl (cX, 187, .inl f)), (qS, .inr (0, [.long y, .long z])), (qM, .inr (2, [.ref qU, .int (nI n), .int (nI t), .int ((rr_ng f n lo hi (xs (i + 1)) (xs (i + 2))).2.1), .int ((rr_ng f n lo hi (xs (i + 1)) (xs (i + 2))).2.2)])), (qU, .inl (cM, 187, .inl g))] H := hP
          have hD : va_D A [(qX, .inr (1, [.ref qT, .int (nI n), .int (nI t), .int ((rr_ng f n lo hi (xs (i + 1)) (xs (i + 2))).2.1), .int ((rr_ng f n lo hi (xs (i + 1)) (xs (i + 2))).2.2), .ref qS])), (qT, .inl (cX, 187, .inl f)), (qS, .inr (0, [.long y, .long z])), (qM, .inr (2, [.ref qU, .int (nI n), .int (nI t), .int ((rr_ng f n lo hi (xs (i + 1)) (xs (i + 2))).2.1), .int ((rr_ng f n lo hi (xs (i + 1)) (xs (i + 2))).2.2)])), (qU, .inl (cM, 187, .inl g))] := hD
          refine lv_iinc (v := nI (i + 6)) (lv' := [(3, .int (nI (i + 6))), (2, .ref qM), (1, .ref qX), (0, .ref b)]) hx hb dL_law_299 hl (k := 0) rfl (nI_add i 6) (by decide) rfl (fun ls hl => ?_)
          refine lv_goto (tgt := 18) hx hb dL_law_302 (by decide) ?_
          exact ih (i + 6) f g n t ((rr_ng f n lo hi (xs (i + 1)) (xs (i + 2))).2.1) ((rr_ng f n lo hi (xs (i + 1)) (xs (i + 2))).2.2) y z (by omega) (by omega) hiv H locs hP hD hS ls (lv_sub hl [0, 1, 2, 3] rfl)
        · skip
          exact absurd (by rw [rr_ng_c hiv.1]) c268
      · skip
        refine lv_tableIn (off := 240) (tgt := 273) hx hb dL_law_33 (by decide) (by decide) (by decide +kernel) (by decide) ?_
        refine lv_aload_n hx hb dL_law_273 rfl (lv_at hl 2 rfl) ?_
        have hPc := hP.sub (ws' := [(qX, .inr (1, [.ref qT, .int (nI n), .int (nI t), .int lo, .int hi, .ref qS])), (qT, .inl (cX, 187, .inl f)), (qS, .inr (0, [.long y, .long z]))]) [0, 1, 2] rfl
        have hDc := hD.sub (ws' := [(qX, .inr (1, [.ref qT, .int (nI n), .int (nI t), .int lo, .int hi, .ref qS])), (qT, .inl (cX, 187, .inl f)), (qS, .inr (0, [.long y, .long z]))]) [0, 1, 2] (by decide) rfl
        have hKc := hK.sub (tys' := [(cX, .int)]) [0] rfl
        refine rr_ri (va_runV (As := []) (rest := []) ⟨hx, hb, hml, hown, hts⟩ (c_X1_low l D qX qT qS H.size cX f n t lo hi y z) (cwV 0 hts gL_law_X1_low rfl rfl rfl (by decide +kernel) ⟨Nat.le_of_ble_eq_true rfl, Nat.le_of_ble_eq_true rfl⟩) (rr_vR hKc hPc (va_recv hKc hPc (ci := 1) (q0 := 0) rfl rfl)) rfl rfl hl.1 rfl (lv_room (Nat.le_of_ble_eq_true rfl)) dL_law_274 ⟨Nat.le_of_ble_eq_true rfl, Nat.le_of_ble_eq_true rfl⟩) hS hA hP (fun r274 H locs e274 hP hS => ?_)
        replace e274 := e274.symm
        subst e274
        refine lv_aload_n hx hb dL_law_277 rfl (lv_at hl 1 rfl) ?_
        have hPc := hP.sub (ws' := [(qM, .inr (2, [.ref qU, .int (nI n), .int (nI t), .int lo, .int hi])), (qU, .inl (cM, 187, .inl g))]) [3, 4] rfl
        have hDc := hD.sub (ws' := [(qM, .inr (2, [.ref qU, .int (nI n), .int (nI t), .int lo, .int hi])), (qU, .inl (cM, 187, .inl g))]) [3, 4] (by decide) rfl
        have hKc := hK.sub (tys' := [(cM, .int)]) [1] rfl
        refine rr_ri (va_runV (As := []) (rest := [.int lo]) ⟨hx, hb, hml, hown, hts⟩ (c_X2_low l D qM qU H.size cM g n t lo hi) (cwV 0 hts gL_law_X2_low rfl rfl rfl (by decide +kernel) ⟨Nat.le_of_ble_eq_true rfl, Nat.le_of_ble_eq_true rfl⟩) (rr_vR hKc hPc (va_recv hKc hPc (ci := 2) (q0 := 0) rfl rfl)) rfl rfl hl.1 rfl (lv_room (Nat.le_of_ble_eq_true rfl)) dL_law_278 ⟨Nat.le_of_ble_eq_true rfl, Nat.le_of_ble_eq_true rfl⟩) hS hA hP (fun r278 H locs e278 hP hS => ?_)
        replace e278 := e278.symm
        subst e278
        refine lv_icmp_eq (tgt := 299) hx hb dL_law_281 (by decide) (fun c281 => ?_) (fun c281 => ?_)
        · skip
          refine lv_iinc (v := nI (i + 6)) (lv' := [(3, .int (nI (i + 6))), (2, .ref qM), (1, .ref qX), (0, .ref b)]) hx hb dL_law_299 hl (k := 0) rfl (nI_add i 6) (by decide) rfl (fun ls hl => ?_)
          refine lv_goto (tgt := 18) hx hb dL_law_302 (by decide) ?_
          exact ih (i + 6) f g n t lo hi y z (by omega) (by omega) hiv H locs hP hD hS ls (lv_sub hl [0, 1, 2, 3] rfl)
        · skip
          exact absurd (rfl) c281
      · skip
        refine lv_tableIn (off := 253) (tgt := 286) hx hb dL_law_33 (by decide) (by decide) (by decide +kernel) (by decide) ?_
        refine lv_aload_n hx hb dL_law_286 rfl (lv_at hl 2 rfl) ?_
        have hPc := hP.sub (ws' := [(qX, .inr (1, [.ref qT, .int (nI n), .int (nI t), .int lo, .int hi, .ref qS])), (qT, .inl (cX, 187, .inl f)), (qS, .inr (0, [.long y, .long z]))]) [0, 1, 2] rfl
        have hDc := hD.sub (ws' := [(qX, .inr (1, [.ref qT, .int (nI n), .int (nI t), .int lo, .int hi, .ref qS])), (qT, .inl (cX, 187, .inl f)), (qS, .inr (0, [.long y, .long z]))]) [0, 1, 2] (by decide) rfl
        have hKc := hK.sub (tys' := [(cX, .int)]) [0] rfl
        refine rr_ri (va_runV (As := []) (rest := []) ⟨hx, hb, hml, hown, hts⟩ (c_X1_high l D qX qT qS H.size cX f n t lo hi y z) (cwV 0 hts gL_law_X1_high rfl rfl rfl (by decide +kernel) ⟨Nat.le_of_ble_eq_true rfl, Nat.le_of_ble_eq_true rfl⟩) (rr_vR hKc hPc (va_recv hKc hPc (ci := 1) (q0 := 0) rfl rfl)) rfl rfl hl.1 rfl (lv_room (Nat.le_of_ble_eq_true rfl)) dL_law_287 ⟨Nat.le_of_ble_eq_true rfl, Nat.le_of_ble_eq_true rfl⟩) hS hA hP (fun r287 H locs e287 hP hS => ?_)
        replace e287 := e287.symm
        subst e287
        refine lv_aload_n hx hb dL_law_290 rfl (lv_at hl 1 rfl) ?_
        have hPc := hP.sub (ws' := [(qM, .inr (2, [.ref qU, .int (nI n), .int (nI t), .int lo, .int hi])), (qU, .inl (cM, 187, .inl g))]) [3, 4] rfl
        have hDc := hD.sub (ws' := [(qM, .inr (2, [.ref qU, .int (nI n), .int (nI t), .int lo, .int hi])), (qU, .inl (cM, 187, .inl g))]) [3, 4] (by decide) rfl
        have hKc := hK.sub (tys' := [(cM, .int)]) [1] rfl
        refine rr_ri (va_runV (As := []) (rest := [.int hi]) ⟨hx, hb, hml, hown, hts⟩ (c_X2_high l D qM qU H.size cM g n t lo hi) (cwV 0 hts gL_law_X2_high rfl rfl rfl (by decide +kernel) ⟨Nat.le_of_ble_eq_true rfl, Nat.le_of_ble_eq_true rfl⟩) (rr_vR hKc hPc (va_recv hKc hPc (ci := 2) (q0 := 0) rfl rfl)) rfl rfl hl.1 rfl (lv_room (Nat.le_of_ble_eq_true rfl)) dL_law_291 ⟨Nat.le_of_ble_eq_true rfl, Nat.le_of_ble_eq_true rfl⟩) hS hA hP (fun r291 H locs e291 hP hS => ?_)
        replace e291 := e291.symm
        subst e291
        refine lv_icmp_eq (tgt := 299) hx hb dL_law_294 (by decide) (fun c294 => ?_) (fun c294 => ?_)
        · skip
          refine lv_iinc (v := nI (i + 6)) (lv' := [(3, .int (nI (i + 6))), (2, .ref qM), (1, .ref qX), (0, .ref b)]) hx hb dL_law_299 hl (k := 0) rfl (nI_add i 6) (by decide) rfl (fun ls hl => ?_)
          refine lv_goto (tgt := 18) hx hb dL_law_302 (by decide) ?_
          exact ih (i + 6) f g n t lo hi y z (by omega) (by omega) hiv H locs hP hD hS ls (lv_sub hl [0, 1, 2, 3] rfl)
        · skip
          exact absurd (rfl) c294
      · skip
        refine lv_tableOut (tgt := 299) hx hb dL_law_33 (Or.inr (by rw [nI_toInt (by omega)]; omega)) (by decide) ?_
        refine lv_iinc (v := nI (i + 6)) (lv' := [(3, .int (nI (i + 6))), (2, .ref qM), (1, .ref qX), (0, .ref b)]) hx hb dL_law_299 hl (k := 0) rfl (nI_add i 6) (by decide) rfl (fun ls hl => ?_)
        refine lv_goto (tgt := 18) hx hb dL_law_302 (by decide) ?_
        exact ih (i + 6) f g n t lo hi y z (by omega) (by omega) hiv H locs hP hD hS ls (lv_sub hl [0, 1, 2, 3] rfl)
end
section
set_option maxHeartbeats 1000000 in
set_option maxRecDepth 100000 in
/-- THE LAW, from its entry -/
theorem whole_start {p : Program} {e : Env} {s : State} {m : MethodId} {below : List Frame} {meth : Method} {c : Code} (l : Launch) {b L : Nat} {xs : Nat → Int32} (hL : L ≤ 3072) (C0 : lw_At p s m meth c b L xs) : W p l e room_1 s m #[Value.ref b] below meth c s.heap [] 0 0 (lw_Z below #[Value.ref b] s) (entryFrame m ([Value.ref b] : List Value).toArray 4) := by
  obtain ⟨hx, hb, hr, hml, hown0, hts0, hX, hXl, hlocks, hgv⟩ := id C0
  have hown : s.vm.findClass RL = some m.cls := hown0
  have hts : ∀ w ∈ wsL_law, w.before #[Value.ref b] s = true := fun w h => hts0 w (wsL_law_in w h)
  obtain ⟨A, hAe⟩ : ∃ A : Nat → Prop, A = fun q => s.heap.size ≤ q := ⟨_, rfl⟩
  have hA : ∀ q : Nat, s.heap.size ≤ q → A q := fun q h => by rw [hAe]; exact h
  have hA2 : ∀ q : Nat, A q → s.heap.size ≤ q := fun q h => by rw [hAe] at h; exact h
  have hN : rr_N s := ⟨va_Nw.of rfl (hts0 (.methodLinkNest RX1 101 yX0_empty RX1) (by decide +kernel)), va_Nw.of rfl (hts0 (.methodLinkNest RX1 104 yX0_take RX1) (by decide +kernel)), va_Nw.of rfl (hts0 (.fieldLinkNest RX1 108 "RangeRules$Span" "least" "J" RX1) (by decide +kernel)), va_Nw.of rfl (hts0 (.fieldLinkNest RX1 112 "RangeRules$Span" "greatest" "J" RX1) (by decide +kernel))⟩
  have hN37 : va_Nw (.methodLinkNest RX1 37 yX0_init RX1) s := va_Nw.of rfl (hts0 (.methodLinkNest RX1 37 yX0_init RX1) (by decide +kernel))
  have hs := flat_of_before _ hgv
  obtain ⟨t0, hst⟩ : ∃ t0 : Nat, rr_st t0 A s := by
    refine rr_stof (hts0 _ (by decide +kernel)) (hts0 _ (by decide +kernel)) (hs _ (by decide +kernel)) (hs _ (by decide +kernel)) (fun j hj => ?_) (fun a ha h => absurd (hA2 a h) (Nat.not_le.mpr ha))
    rcases (show j = 0 ∨ j = 1 ∨ j = 2 ∨ j = 3 ∨ j = 4 ∨ j = 5 ∨ j = 6 by omega) with rfl | rfl | rfl | rfl | rfl | rfl | rfl <;> exact hs _ (by decide +kernel)
  obtain ⟨c0, iS0, hKn0⟩ := u_known (C := RX0) (T := TX0) (N := 2) (n := 2) hts0 inX0 (hts0 (.instantiable RX0 2) (by decide +kernel))
  obtain ⟨c1, iS1, hKn1⟩ := u_known (C := RX1) (T := TX1) (N := 6) (n := 6) hts0 inX1 (hts0 (.instantiable RX1 6) (by decide +kernel))
  obtain ⟨c2, iS2, hKn2⟩ := u_known (C := RX2) (T := TX2) (N := 5) (n := 5) hts0 inX2 (hts0 (.instantiable RX2 5) (by decide +kernel))
  obtain ⟨D, hKc⟩ : ∃ D : va_G, ∀ (k : Nat) (q : vw_C), vwCl[k]? = some q → u_Kn s q.1 q.2.1 q.2.2 (D.1 k) (D.2 k) := by
    refine ⟨(fun k => if k = 0 then c0 else if k = 1 then c1 else c2, fun k => if k = 0 then iS0 else if k = 1 then iS1 else iS2), ?_⟩
    intro k q hq
    match k, hq with
    | 0, hq => cases hq; exact hKn0
    | 1, hq => cases hq; exact hKn1
    | 2, hq => cases hq; exact hKn2
    | k + 3, hq => simp [vwCl] at hq
  have hS : va_S A s.heap s.heap [] := va_S.rf
  have hK : va_K D vwCl [] s := ⟨hKc, fun k q h => by simp at h⟩
  have hP : va_P D vwCl [] s.heap := fun k q h => by simp at h
  have hD : va_D A [] := ⟨fun i j p q h => by simp at h, fun k q h => by simp at h⟩
  have hl := lv_entry ([.ref b]) (n := 4) (Nat.le_of_ble_eq_true rfl)
  rw [lg_entry_eq]
  generalize (lg_sl ([.ref b]) ++ List.replicate (4 - (lg_sl ([.ref b])).length) Slot.unset).toArray = ls at hl ⊢
  have hl : lv_has ls 4 [(0, .ref b)] := hl
  refine va_new (ci := 1) (fs := [.null, .int 0, .int 0, .int 0, .int 0, .null]) (C := RX1) (T := TX1) (N := 6) hx hb hts inlX1 tyX1 tyX1_ok hown (hts (.classLink RL 7 RX1) (by decide +kernel)) (hts (.instantiable RX1 6) (by decide +kernel)) (hts (.initialized RX1) (by decide +kernel)) hK hP hD hS hA rfl (fun j hj => by rcases (show j = 0 ∨ j = 1 ∨ j = 2 ∨ j = 3 ∨ j = 4 ∨ j = 5 by omega) with rfl | rfl | rfl | rfl | rfl | rfl <;> rfl) (Nat.le_of_ble_eq_true rfl) (Nat.le_of_ble_eq_true rfl) dL_law_0 (fun qX H hP hD hS => ?_)
  have hP : va_P D vwCl [(qX, .inr (1, [.null, .int 0, .int 0, .int 0, .int 0, .null]))] H := hP
  have hD : va_D A [(qX, .inr (1, [.null, .int 0, .int 0, .int 0, .int 0, .null]))] := hD
  refine W.widen (k := 1) (n := 6) (by omega) (by omega) ?_
  refine lv_dup hx hb dL_law_3 rfl ?_
  have hFc := va_free (wc := [(qX, .inr (1, [.null, .int 0, .int 0, .int 0, .int 0, .null]))]) hD hS hA [0] rfl
  refine va_callv (va_runI (As := []) (rest := [.ref qX]) ⟨hx, hb, hml, hown, hts⟩ (c_X1_init l D qX H.size t0) (cwI 0 hts gL_law_X1_init rfl rfl rfl (hts (.initialized RX1) (by decide +kernel)) (hts (.methodLink RL 9 yX1_init) (by decide +kernel)) (hts (.instanceMethod yX1_init) (by decide +kernel)) rfl (by decide +kernel) ⟨Nat.le_of_ble_eq_true rfl, Nat.le_of_ble_eq_true rfl⟩) (rr_vI hst hS hFc hN37 hK hP hD) rfl rfl hl.1 rfl (lv_room (Nat.le_of_ble_eq_true rfl)) dL_law_4 ⟨Nat.le_of_ble_eq_true rfl, Nat.le_of_ble_eq_true rfl⟩) hS (fun q _ h => hFc q h) hFc (fun u t H1 locs ht hvm hw hB hz1 hk1 hS => ?_)
  obtain ⟨qT, qS, cX, f⟩ := u
  obtain ⟨hP1, hK1, hD1⟩ := hB
  rw [ht] at hP1
  have hK1 := va_K.moved hvm.symm hK1
  dsimp only at hw hP1 hK1 hD1
  obtain ⟨hP, hD⟩ := va_join (wr := []) (w1 := rr_wx qX qT qS cX f 7 0 0 0 0 0) hP hD [0] [] rfl rfl (by decide) (by decide) hk1 hFc hP1 hD1
  have hK : va_K D vwCl [(cX, .int)] s := hK1
  generalize H1 = H at hP hS ⊢
  have hP : va_P D vwCl [(qX, .inr (1, [.ref qT, .int (nI 7), .int (nI 0), .int 0, .int 0, .ref qS])), (qT, .inl (cX, 187, .inl f)), (qS, .inr (0, [.long 0, .long 0]))] H := hP
  have hD : va_D A [(qX, .inr (1, [.ref qT, .int (nI 7), .int (nI 0), .int 0, .int 0, .ref qS])), (qT, .inl (cX, 187, .inl f)), (qS, .inr (0, [.long 0, .long 0]))] := hD
  refine W.widen (k := 3) (n := 195) (by omega) (by omega) ?_
  refine lv_astore_n (lv' := [(1, .ref qX), (0, .ref b)]) hx hb dL_law_7 rfl hl (by decide) rfl (fun ls hl => ?_)
  refine va_new (ci := 2) (fs := [.null, .int 0, .int 0, .int 0, .int 0]) (C := RX2) (T := TX2) (N := 5) hx hb hts inlX2 tyX2 tyX2_ok hown (hts (.classLink RL 10 RX2) (by decide +kernel)) (hts (.instantiable RX2 5) (by decide +kernel)) (hts (.initialized RX2) (by decide +kernel)) hK hP hD hS hA rfl (fun j hj => by rcases (show j = 0 ∨ j = 1 ∨ j = 2 ∨ j = 3 ∨ j = 4 by omega) with rfl | rfl | rfl | rfl | rfl <;> rfl) (Nat.le_of_ble_eq_true rfl) (Nat.le_of_ble_eq_true rfl) dL_law_8 (fun qM H hP hD hS => ?_)
  have hP : va_P D vwCl [(qX, .inr (1, [.ref qT, .int (nI 7), .int (nI 0), .int 0, .int 0, .ref qS])), (qT, .inl (cX, 187, .inl f)), (qS, .inr (0, [.long 0, .long 0])), (qM, .inr (2, [.null, .int 0, .int 0, .int 0, .int 0]))] H := hP
  have hD : va_D A [(qX, .inr (1, [.ref qT, .int (nI 7), .int (nI 0), .int 0, .int 0, .ref qS])), (qT, .inl (cX, 187, .inl f)), (qS, .inr (0, [.long 0, .long 0])), (qM, .inr (2, [.null, .int 0, .int 0, .int 0, .int 0]))] := hD
  refine W.widen (k := 4) (n := 200) (by omega) (by omega) ?_
  refine lv_dup hx hb dL_law_11 rfl ?_
  have hPc := hP.sub (ws' := [(qM, .inr (2, [.null, .int 0, .int 0, .int 0, .int 0]))]) [3] rfl
  have hDc := hD.sub (ws' := [(qM, .inr (2, [.null, .int 0, .int 0, .int 0, .int 0]))]) [3] (by decide) rfl
  have hKc := hK.sub (tys' := []) [] rfl
  have hFc := va_free (wc := [(qM, .inr (2, [.null, .int 0, .int 0, .int 0, .int 0]))]) hD hS hA [3] rfl
  refine va_callv (va_runI (As := []) (rest := [.ref qM]) ⟨hx, hb, hml, hown, hts⟩ (c_X2_init l D qM H.size) (cwI 0 hts gL_law_X2_init rfl rfl rfl (hts (.initialized RX2) (by decide +kernel)) (hts (.methodLink RL 12 yX2_init) (by decide +kernel)) (hts (.instanceMethod yX2_init) (by decide +kernel)) rfl (by decide +kernel) ⟨Nat.le_of_ble_eq_true rfl, Nat.le_of_ble_eq_true rfl⟩) (rr_vS hKc hPc hDc) rfl rfl hl.1 rfl (lv_room (Nat.le_of_ble_eq_true rfl)) dL_law_12 ⟨Nat.le_of_ble_eq_true rfl, Nat.le_of_ble_eq_true rfl⟩) hS (fun q _ h => hFc q h) hFc (fun u t H1 locs ht hvm hw2 hB hz1 hk1 hS => ?_)
  obtain ⟨qU, cM, g⟩ := u
  obtain ⟨hP1, hK1, hD1⟩ := hB
  rw [ht] at hP1
  have hK1 := va_K.moved hvm.symm hK1
  dsimp only at hw2 hP1 hK1 hD1
  obtain ⟨hP, hD⟩ := va_join (wr := [(qX, .inr (1, [.ref qT, .int (nI 7), .int (nI 0), .int 0, .int 0, .ref qS])), (qT, .inl (cX, 187, .inl f)), (qS, .inr (0, [.long 0, .long 0]))]) (w1 := rr_wm qM qU cM g 7 0 0 0) hP hD [3] [0, 1, 2] rfl rfl (by decide) (by decide) hk1 hFc hP1 hD1
  have hK : va_K D vwCl [(cX, .int), (cM, .int)] s := hK.app hK1
  generalize H1 = H at hP hS ⊢
  refine W.widen (k := 5) (n := 387) (by omega) (by omega) ?_
  refine lv_astore_n (lv' := [(2, .ref qM), (1, .ref qX), (0, .ref b)]) hx hb dL_law_15 rfl hl (by decide) rfl (fun ls hl => ?_)
  refine lv_iconst (v := 0) hx hb dL_law_16 (by decide) ?_
  refine lv_istore_n (lv' := [(3, .int 0), (2, .ref qM), (1, .ref qX), (0, .ref b)]) hx hb dL_law_17 rfl hl (by decide) rfl (fun ls hl => ?_)
  exact rr_loop hL C0 hA hA2 hN hst hK (L + 1) 0 f g 7 0 0 0 0 0 (Nat.zero_le L) (by omega) (rr_iv.st hw hw2) H locs hP hD hS ls hl
end
section
set_option maxHeartbeats 4000000 in
theorem lw_walk (l : Launch) (b : Addr) (xs : List Int32) : MetFree l x (headSpec (Jvm.Cond.code x code maxLocals ret :: tables_1) room_1) (lw_P b xs) (fun _ _ _ _ _ => True) lw_Q := by
  refine MetFree.of_bodyS (code := code) (maxLocals := maxLocals) (ret := ret) (by decide) ?_ ?_
  · intro args s m h hn
    obtain ⟨meth, c, h1, h2, h3, h4, h5, h6, -, -⟩ := Cond.code_spec hn (atoms_spec (ws := Jvm.Cond.code x code maxLocals ret :: tables_1) h _ List.mem_cons_self)
    exact ⟨meth, c, h1, h2, h3, h4, h5, h6⟩
  · intro p e s m args below meth c s₁ B hml0 hP _
    obtain ⟨rfl, hx, hbd, hgv⟩ := hP
    obtain ⟨scr, harrAt, hlist, hof, hsmall⟩ := hx
    obtain ⟨hcb, hkn, -, -⟩ := State.arrayAt?_spec harrAt
    have hown : s.vm.findClass R_law = some m.cls := findClass_of_methodNamed B.named
    have hts0 : ∀ c ∈ (Jvm.Cond.code x code maxLocals ret :: tables_1), c.before #[Value.ref b] s = true := atoms_spec (ws := Jvm.Cond.code x code maxLocals ret :: tables_1) B.pre
    have hts : ∀ w ∈ lw_tbl, w.before #[Value.ref b] s = true := k2_hts_sels lw_privs (fun w hw => hts0 w (List.mem_cons_of_mem _ hw)) lw_privs_ok
    have hml : c.maxLocals = 4 := B.maxLocals_eq (hts0 _ List.mem_cons_self)
    have X₀ : Stand p l e room_1 s m #[Value.ref b] below meth c s₁ [] 0 0 := Stand.of_body B
    have hh0 : s₁.heap = s.heap := by rw [B.state]; rfl
    have hsz : scr.slots.size = xs.length := by rw [← Array.length_toList, hlist, List.length_map]
    have hval : ∀ j : Nat, j < xs.length → scr.slots[j]? = some (.int (xs.getD j 0)) := fun j hj => by
      rw [← Array.getElem?_toList, hlist]
      simp [hj]
    have hbl : b < s.heap.size := (Array.getElem?_eq_some_iff.mp hcb).1
    have hX : va_X b xs.length (fun j => xs.getD j 0) s s.heap := ⟨scr, hcb, hof, hkn, hsz, hval⟩
    have K : W p l e room_1 s m #[Value.ref b] below meth c s₁.heap [] 0 0 (lw_Z below #[Value.ref b] s) (entryFrame m ([Value.ref b] : List Value).toArray 4) := by
      rw [hh0]
      exact whole_start l hbd ⟨B.exec, B.bytes, B.returns, hml, hown, hts, hX, hbl, B.notSynchronized, hgv⟩
    obtain ⟨t, a1, o, b1, b2, b3⟩ := K s₁ rfl X₀
    exact ⟨t, o, a1, b1, b2, b3⟩
theorem lw_pre_spec {args : Array Value} {s : State} (h : (Jvm.Cond.and given_1 narrow_1).before args s = true) (hr : rest_1_c.before args s = true) : ∃ (b : Addr) (xs : List Int32), lw_P b xs args s := by
  have hs := flat_of_before _ h
  have hq := flat_of_before _ hr
  have hc : (Cond.count 1).before args s = true := hs _ (by decide +kernel)
  have harr : (Cond.arrayOf (.arg 0) .int).before args s = true := hs _ (by decide +kernel)
  have hle : (Cond.le (.length (.arg 0)) (.int 3072)).before args s = true := hs _ (by decide +kernel)
  have hlen : (Cond.isInt (.length (.arg 0))).before args s = true := hq _ (by decide +kernel)
  have hall : (Cond.all (.arg 0) (.isInt (.elem (.arg 0) (.index 0)))).before args s = true := hq _ (by decide +kernel)
  obtain ⟨b, xs, hb, hx⟩ := State.ints_of_pre rfl harr hlen hall
  have hsm : xs.length < 2 ^ 31 := hx.choose_spec.2.2.2
  have hev : (Term.length (.arg 0)).eval args s none [] s = some (.int xs.length.toInt32) := hx.length_eval hb
  have hv := Cond.le_ints hev (show (Term.int 3072).eval args s none [] s = some (.int 3072) from rfl)
  have hd : xs.length.toInt32 ≤ 3072 := by
    simpa [Cond.before, Cond.holds, hv] using hle
  have hN : xs.length ≤ 3072 := (Int32.ofNat_le_ofNat hsm (by decide)).mp (show Int32.ofNat xs.length ≤ Int32.ofNat 3072 from hd)
  exact ⟨b, xs, Cond.one_arg hc (show args[0]? = some (.ref b) from hb), hx, hN, h⟩
theorem lw_comes (l : Launch) : Comes l x (Jvm.Cond.code x code maxLocals ret :: tables_1) room_1 (fun tb e args s => Calls_1 tb e args s ∧ rest_1 tb e args s ∧ Pre_1 tb e args s)
    (fun _ _ args s o t => lw_Q args s o t) := by
  intro p e ha hc hk s m args below hf hfit hheap happ hpre
  obtain ⟨b, xs, hP⟩ := lw_pre_spec hpre.2.2 hpre.2.1
  obtain ⟨k, o, h1, h2, h3, hQ⟩ := lw_walk l b xs p e ha hc hk s m args below hf ((Spec.applies_iff_loose hf).mp happ).1 hP trivial
  exact ⟨k, o, h1, h2, h3, hQ⟩
theorem lw_frame {s t : State} {o : Outcome} {args : Array Value} (h : Framed s o t [] 600000 7302250) :
    Framed s o t (fieldLocs frame_1_writes args s ++ arrayLocs frame_1_arrays args s ++ staticLocs frame_1_statics s) 600000 7302250 := h
theorem lw_limb (L : Cond) (hL : ∀ (args : Array Value) (s t : State), L.after args s (.returned (some (.int 1))) t = true) :
    ArmFor flags0 classFile x code maxLocals ret World_1 tables_1 room_1 Calls_1 rest_1 Pre_1
      (fun tb e a s o t => postC L tb e a s o t ∧ Framed s o t (fieldLocs frame_1_writes a s ++ arrayLocs frame_1_arrays a s ++ staticLocs frame_1_statics s) 600000 7302250) := by
  intro l _ _ _ p e ha hc hk s m args below hf hfit hheap happ hpre
  obtain ⟨k, o, h1, h2, h3, rfl, hF⟩ := lw_comes l p e ha hc hk s m args below hf hfit hheap happ hpre
  exact ⟨k, _, h1, h2, h3, hL args s _, lw_frame hF⟩
theorem i_vc : Claimed_1_1 ∧ Claimed_1_2 := ⟨lw_limb limb_1_1 (fun args s t => by simp [limb_1_1, Cond.after, Cond.holds, Cond.value]), lw_limb limb_1_2 (fun args s t => Cond.after_iff.mpr (by
  first | (rw [show limb_1_2 = Cond.eq .result (.int 1) from rfl, Cond.eq_ints (x := 1) (y := 1) rfl rfl]; simp; done) | (simp [limb_1_2, Cond.value, Term.eval]; done)))⟩
end
