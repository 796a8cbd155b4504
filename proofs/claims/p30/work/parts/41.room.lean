/-! ROOM, Math, and the model's small ways: each answers one expression -/
section
variable {g : hf_G} {I : hf_I} {J : hf_J} {a b c d v w : Int64} {i j k m n : Int32}
theorem c_max : hf_rn 149 0 [some (.int i), some (.int j)] [] g I J = some (.inl (some (.int (if j ≤ i then i else j))), g, I, J) := by
  by_cases h : i < j
  · have h2 : ¬ j ≤ i := by rw [Int32.le_iff_toInt_le]; rw [Int32.lt_iff_toInt_lt] at h; omega
    simp only [s149_0, s149_1, s149_2, s149_5, s149_6, s149_9, s149_10, hf_bd_v, hf_bd_n, hf_iv_i, hf_iv_l, hf_iv_a, hf_iv_n, hf_iv_2, z_lgl, z_lgg, z_lge, z_lgle, z_lgz, Option.getD_some, Option.isSome_some, ↓reduceIte, not_true_eq_false, not_false_eq_true, Option.toList_some, Option.toList_none, List.cons_append, List.nil_append, Nat.reduceAdd, Nat.add_assoc, ku_ne, ku_same, ne_eq, Nat.reduceEqDiff, reduceCtorEq, Nat.add_eq_left, Nat.left_eq_add, Nat.reduceEqDiff, q10, q_ne, true_or, or_true, h, h2]
  · have h2 : j ≤ i := by rw [Int32.le_iff_toInt_le]; rw [Int32.lt_iff_toInt_lt] at h; omega
    simp only [s149_0, s149_1, s149_2, s149_5, s149_6, s149_9, s149_10, hf_bd_v, hf_bd_n, hf_iv_i, hf_iv_l, hf_iv_a, hf_iv_n, hf_iv_2, z_lgl, z_lgg, z_lge, z_lgle, z_lgz, Option.getD_some, Option.isSome_some, ↓reduceIte, not_true_eq_false, not_false_eq_true, Option.toList_some, Option.toList_none, List.cons_append, List.nil_append, Nat.reduceAdd, Nat.add_assoc, ku_ne, ku_same, ne_eq, Nat.reduceEqDiff, reduceCtorEq, Nat.add_eq_left, Nat.left_eq_add, Nat.reduceEqDiff, q10, q_ne, true_or, or_true, h, h2]
theorem c_minI : hf_rn 150 0 [some (.int i), some (.int j)] [] g I J = some (.inl (some (.int (if i ≤ j then i else j))), g, I, J) := by
  by_cases h : j < i
  · have h2 : ¬ i ≤ j := by rw [Int32.le_iff_toInt_le]; rw [Int32.lt_iff_toInt_lt] at h; omega
    simp only [s150_0, s150_1, s150_2, s150_5, s150_6, s150_9, s150_10, hf_bd_v, hf_bd_n, hf_iv_i, hf_iv_l, hf_iv_a, hf_iv_n, hf_iv_2, z_lgl, z_lgg, z_lge, z_lgle, z_lgz, Option.getD_some, Option.isSome_some, ↓reduceIte, not_true_eq_false, not_false_eq_true, Option.toList_some, Option.toList_none, List.cons_append, List.nil_append, Nat.reduceAdd, Nat.add_assoc, ku_ne, ku_same, ne_eq, Nat.reduceEqDiff, reduceCtorEq, Nat.add_eq_left, Nat.left_eq_add, Nat.reduceEqDiff, q10, q_ne, true_or, or_true, h, h2]
  · have h2 : i ≤ j := by rw [Int32.le_iff_toInt_le]; rw [Int32.lt_iff_toInt_lt] at h; omega
    simp only [s150_0, s150_1, s150_2, s150_5, s150_6, s150_9, s150_10, hf_bd_v, hf_bd_n, hf_iv_i, hf_iv_l, hf_iv_a, hf_iv_n, hf_iv_2, z_lgl, z_lgg, z_lge, z_lgle, z_lgz, Option.getD_some, Option.isSome_some, ↓reduceIte, not_true_eq_false, not_false_eq_true, Option.toList_some, Option.toList_none, List.cons_append, List.nil_append, Nat.reduceAdd, Nat.add_assoc, ku_ne, ku_same, ne_eq, Nat.reduceEqDiff, reduceCtorEq, Nat.add_eq_left, Nat.left_eq_add, Nat.reduceEqDiff, q10, q_ne, true_or, or_true, h, h2]
theorem c_minL : hf_rn 151 0 [some (.long a), none, some (.long b), none] [] g I J = some (.inl (some (.long (if a ≤ b then a else b))), g, I, J) := by
  by_cases h : b < a
  · have h2 : ¬ a ≤ b := by rw [Int64.le_iff_toInt_le]; rw [Int64.lt_iff_toInt_lt] at h; omega
    simp only [s151_0, s151_1, s151_2, s151_3, s151_6, s151_7, s151_10, s151_11, hf_bd_v, hf_bd_n, hf_iv_i, hf_iv_l, hf_iv_a, hf_iv_n, hf_iv_2, z_lgl, z_lgg, z_lge, z_lgle, z_lgz, Option.getD_some, Option.isSome_some, ↓reduceIte, not_true_eq_false, not_false_eq_true, Option.toList_some, Option.toList_none, List.cons_append, List.nil_append, Nat.reduceAdd, Nat.add_assoc, ku_ne, ku_same, ne_eq, Nat.reduceEqDiff, reduceCtorEq, Nat.add_eq_left, Nat.left_eq_add, Nat.reduceEqDiff, q10, q_ne, true_or, or_true, h, h2]
  · have h2 : a ≤ b := by rw [Int64.le_iff_toInt_le]; rw [Int64.lt_iff_toInt_lt] at h; omega
    simp only [s151_0, s151_1, s151_2, s151_3, s151_6, s151_7, s151_10, s151_11, hf_bd_v, hf_bd_n, hf_iv_i, hf_iv_l, hf_iv_a, hf_iv_n, hf_iv_2, z_lgl, z_lgg, z_lge, z_lgle, z_lgz, Option.getD_some, Option.isSome_some, ↓reduceIte, not_true_eq_false, not_false_eq_true, Option.toList_some, Option.toList_none, List.cons_append, List.nil_append, Nat.reduceAdd, Nat.add_assoc, ku_ne, ku_same, ne_eq, Nat.reduceEqDiff, reduceCtorEq, Nat.add_eq_left, Nat.left_eq_add, Nat.reduceEqDiff, q10, q_ne, true_or, or_true, h, h2]
theorem c_abs : hf_rn 148 0 [some (.long a), none] [] g I J = some (.inl (some (.long (if 0 ≤ a then a else -a))), g, I, J) := by
  by_cases h : 0 ≤ a
  · simp only [s148_0, s148_1, s148_2, s148_3, s148_6, s148_7, s148_8, s148_11, s148_12, hf_bd_v, hf_bd_n, hf_iv_i, hf_iv_l, hf_iv_a, hf_iv_n, hf_iv_2, z_lgl, z_lgg, z_lge, z_lgle, z_lgz, Option.getD_some, Option.isSome_some, ↓reduceIte, not_true_eq_false, not_false_eq_true, Option.toList_some, Option.toList_none, List.cons_append, List.nil_append, Nat.reduceAdd, Nat.add_assoc, ku_ne, ku_same, ne_eq, Nat.reduceEqDiff, reduceCtorEq, Nat.add_eq_left, Nat.left_eq_add, Nat.reduceEqDiff, q10, q_ne, true_or, or_true, h]
  · simp only [s148_0, s148_1, s148_2, s148_3, s148_6, s148_7, s148_8, s148_11, s148_12, hf_bd_v, hf_bd_n, hf_iv_i, hf_iv_l, hf_iv_a, hf_iv_n, hf_iv_2, z_lgl, z_lgg, z_lge, z_lgle, z_lgz, Option.getD_some, Option.isSome_some, ↓reduceIte, not_true_eq_false, not_false_eq_true, Option.toList_some, Option.toList_none, List.cons_append, List.nil_append, Nat.reduceAdd, Nat.add_assoc, ku_ne, ku_same, ne_eq, Nat.reduceEqDiff, reduceCtorEq, Nat.add_eq_left, Nat.left_eq_add, Nat.reduceEqDiff, q10, q_ne, true_or, or_true, h]
/-- rounded down -/
def fdv (a b : Int64) : Int64 := if 0 ≤ a ^^^ b then a / b else if a / b * b = a then a / b else a / b - 1
def fmd (a b : Int64) : Int64 := if 0 ≤ a ^^^ b then a - a / b * b else if a - a / b * b = 0 then a - a / b * b else a - a / b * b + b
theorem c_fdv (h : ¬ b = 0) : hf_rn 146 0 [some (.long a), none, some (.long b), none, none, none] [] g I J = some (.inl (some (.long (fdv a b))), g, I, J) := by
  unfold fdv
  by_cases h1 : 0 ≤ a ^^^ b
  · simp only [s146_0, s146_1, s146_2, s146_3, s146_5, s146_6, s146_7, s146_8, s146_9, s146_10, s146_13, s146_15, s146_16, s146_17, s146_18, s146_19, s146_22, s146_24, s146_25, s146_26, s146_27, s146_29, hf_bd_v, hf_bd_n, hf_iv_i, hf_iv_l, hf_iv_a, hf_iv_n, hf_iv_2, z_lgl, z_lgg, z_lge, z_lgle, z_lgz, Option.getD_some, Option.isSome_some, ↓reduceIte, not_true_eq_false, not_false_eq_true, Option.toList_some, Option.toList_none, List.cons_append, List.nil_append, Nat.reduceAdd, Nat.add_assoc, ku_ne, ku_same, ne_eq, Nat.reduceEqDiff, reduceCtorEq, Nat.add_eq_left, Nat.left_eq_add, Nat.reduceEqDiff, q10, q_ne, true_or, or_true, h, h1]
  · by_cases h2 : a / b * b = a
    · simp only [s146_0, s146_1, s146_2, s146_3, s146_5, s146_6, s146_7, s146_8, s146_9, s146_10, s146_13, s146_15, s146_16, s146_17, s146_18, s146_19, s146_22, s146_24, s146_25, s146_26, s146_27, s146_29, hf_bd_v, hf_bd_n, hf_iv_i, hf_iv_l, hf_iv_a, hf_iv_n, hf_iv_2, z_lgl, z_lgg, z_lge, z_lgle, z_lgz, Option.getD_some, Option.isSome_some, ↓reduceIte, not_true_eq_false, not_false_eq_true, Option.toList_some, Option.toList_none, List.cons_append, List.nil_append, Nat.reduceAdd, Nat.add_assoc, ku_ne, ku_same, ne_eq, Nat.reduceEqDiff, reduceCtorEq, Nat.add_eq_left, Nat.left_eq_add, Nat.reduceEqDiff, q10, q_ne, true_or, or_true, h, h1, h2]
    · simp only [s146_0, s146_1, s146_2, s146_3, s146_5, s146_6, s146_7, s146_8, s146_9, s146_10, s146_13, s146_15, s146_16, s146_17, s146_18, s146_19, s146_22, s146_24, s146_25, s146_26, s146_27, s146_29, hf_bd_v, hf_bd_n, hf_iv_i, hf_iv_l, hf_iv_a, hf_iv_n, hf_iv_2, z_lgl, z_lgg, z_lge, z_lgle, z_lgz, Option.getD_some, Option.isSome_some, ↓reduceIte, not_true_eq_false, not_false_eq_true, Option.toList_some, Option.toList_none, List.cons_append, List.nil_append, Nat.reduceAdd, Nat.add_assoc, ku_ne, ku_same, ne_eq, Nat.reduceEqDiff, reduceCtorEq, Nat.add_eq_left, Nat.left_eq_add, Nat.reduceEqDiff, q10, q_ne, true_or, or_true, h, h1, h2]
theorem c_fmd (h : ¬ b = 0) : hf_rn 147 0 [some (.long a), none, some (.long b), none, none, none] [] g I J = some (.inl (some (.long (fmd a b))), g, I, J) := by
  unfold fmd
  by_cases h1 : 0 ≤ a ^^^ b
  · simp only [s147_0, s147_1, s147_2, s147_3, s147_5, s147_6, s147_7, s147_8, s147_9, s147_10, s147_13, s147_15, s147_16, s147_17, s147_20, s147_22, s147_23, s147_24, s147_25, s147_27, hf_bd_v, hf_bd_n, hf_iv_i, hf_iv_l, hf_iv_a, hf_iv_n, hf_iv_2, z_lgl, z_lgg, z_lge, z_lgle, z_lgz, Option.getD_some, Option.isSome_some, ↓reduceIte, not_true_eq_false, not_false_eq_true, Option.toList_some, Option.toList_none, List.cons_append, List.nil_append, Nat.reduceAdd, Nat.add_assoc, ku_ne, ku_same, ne_eq, Nat.reduceEqDiff, reduceCtorEq, Nat.add_eq_left, Nat.left_eq_add, Nat.reduceEqDiff, q10, q_ne, true_or, or_true, h, h1]
  · by_cases h2 : a - a / b * b = 0
    · simp only [s147_0, s147_1, s147_2, s147_3, s147_5, s147_6, s147_7, s147_8, s147_9, s147_10, s147_13, s147_15, s147_16, s147_17, s147_20, s147_22, s147_23, s147_24, s147_25, s147_27, hf_bd_v, hf_bd_n, hf_iv_i, hf_iv_l, hf_iv_a, hf_iv_n, hf_iv_2, z_lgl, z_lgg, z_lge, z_lgle, z_lgz, Option.getD_some, Option.isSome_some, ↓reduceIte, not_true_eq_false, not_false_eq_true, Option.toList_some, Option.toList_none, List.cons_append, List.nil_append, Nat.reduceAdd, Nat.add_assoc, ku_ne, ku_same, ne_eq, Nat.reduceEqDiff, reduceCtorEq, Nat.add_eq_left, Nat.left_eq_add, Nat.reduceEqDiff, q10, q_ne, true_or, or_true, h, h1, h2]
    · simp only [s147_0, s147_1, s147_2, s147_3, s147_5, s147_6, s147_7, s147_8, s147_9, s147_10, s147_13, s147_15, s147_16, s147_17, s147_20, s147_22, s147_23, s147_24, s147_25, s147_27, hf_bd_v, hf_bd_n, hf_iv_i, hf_iv_l, hf_iv_a, hf_iv_n, hf_iv_2, z_lgl, z_lgg, z_lge, z_lgle, z_lgz, Option.getD_some, Option.isSome_some, ↓reduceIte, not_true_eq_false, not_false_eq_true, Option.toList_some, Option.toList_none, List.cons_append, List.nil_append, Nat.reduceAdd, Nat.add_assoc, ku_ne, ku_same, ne_eq, Nat.reduceEqDiff, reduceCtorEq, Nat.add_eq_left, Nat.left_eq_add, Nat.reduceEqDiff, q10, q_ne, true_or, or_true, h, h1, h2]
theorem q4096 : ¬ (4096 : Int64) = 0 := by decide
def plc (a : Int64) : Int64 := fmd a 4096
def wayL (a b : Int64) : Int64 := fmd (b - a + 2048) 4096 - 2048
theorem c_place : hf_rn 61 0 [some (.long a), none] [] g I J = some (.inl (some (.long (plc a))), g, I, J) := by
  simp only [s61_0, s61_1, s61_4, s61_7, hf_bd_v, hf_bd_n, hf_iv_i, hf_iv_l, hf_iv_a, hf_iv_n, hf_iv_2, z_lgl, z_lgg, z_lge, z_lgle, z_lgz, Option.getD_some, Option.isSome_some, ↓reduceIte, not_true_eq_false, not_false_eq_true, Option.toList_some, Option.toList_none, List.cons_append, List.nil_append, Nat.reduceAdd, Nat.add_assoc, ku_ne, ku_same, ne_eq, Nat.reduceEqDiff, reduceCtorEq, Nat.add_eq_left, Nat.left_eq_add, Nat.reduceEqDiff, q10, q_ne, true_or, or_true, c_fmd q4096, plc]
theorem c_way : hf_rn 62 0 [some (.long a), none, some (.long b), none] [] g I J = some (.inl (some (.long (wayL a b))), g, I, J) := by
  simp only [s62_0, s62_1, s62_2, s62_3, s62_6, s62_7, s62_10, s62_13, s62_16, s62_17, hf_bd_v, hf_bd_n, hf_iv_i, hf_iv_l, hf_iv_a, hf_iv_n, hf_iv_2, z_lgl, z_lgg, z_lge, z_lgle, z_lgz, Option.getD_some, Option.isSome_some, ↓reduceIte, not_true_eq_false, not_false_eq_true, Option.toList_some, Option.toList_none, List.cons_append, List.nil_append, Nat.reduceAdd, Nat.add_assoc, ku_ne, ku_same, ne_eq, Nat.reduceEqDiff, reduceCtorEq, Nat.add_eq_left, Nat.left_eq_add, Nat.reduceEqDiff, q10, q_ne, true_or, or_true, c_fmd q4096, wayL]
def by0 (a b : Int64) : Int64 := if b = 0 then 0 else a / b
def by1 (a b : Int64) : Int64 := if b = 0 then 0 else fdv a b
theorem c_by : hf_rn 64 0 [some (.long a), none, some (.long b), none] [] g I J = some (.inl (some (.long (by0 a b))), g, I, J) := by
  unfold by0
  by_cases h : b = 0
  · simp only [s64_0, s64_1, s64_2, s64_3, s64_6, s64_7, s64_10, s64_11, s64_12, s64_13, hf_bd_v, hf_bd_n, hf_iv_i, hf_iv_l, hf_iv_a, hf_iv_n, hf_iv_2, z_lgl, z_lgg, z_lge, z_lgle, z_lgz, Option.getD_some, Option.isSome_some, ↓reduceIte, not_true_eq_false, not_false_eq_true, Option.toList_some, Option.toList_none, List.cons_append, List.nil_append, Nat.reduceAdd, Nat.add_assoc, ku_ne, ku_same, ne_eq, Nat.reduceEqDiff, reduceCtorEq, Nat.add_eq_left, Nat.left_eq_add, Nat.reduceEqDiff, q10, q_ne, true_or, or_true, h]
  · simp only [s64_0, s64_1, s64_2, s64_3, s64_6, s64_7, s64_10, s64_11, s64_12, s64_13, hf_bd_v, hf_bd_n, hf_iv_i, hf_iv_l, hf_iv_a, hf_iv_n, hf_iv_2, z_lgl, z_lgg, z_lge, z_lgle, z_lgz, Option.getD_some, Option.isSome_some, ↓reduceIte, not_true_eq_false, not_false_eq_true, Option.toList_some, Option.toList_none, List.cons_append, List.nil_append, Nat.reduceAdd, Nat.add_assoc, ku_ne, ku_same, ne_eq, Nat.reduceEqDiff, reduceCtorEq, Nat.add_eq_left, Nat.left_eq_add, Nat.reduceEqDiff, q10, q_ne, true_or, or_true, h]
theorem c_by1 : hf_rn 65 0 [some (.long a), none, some (.long b), none] [] g I J = some (.inl (some (.long (by1 a b))), g, I, J) := by
  unfold by1
  by_cases h : b = 0
  · simp only [s65_0, s65_1, s65_2, s65_3, s65_6, s65_7, s65_10, s65_11, s65_12, s65_15, hf_bd_v, hf_bd_n, hf_iv_i, hf_iv_l, hf_iv_a, hf_iv_n, hf_iv_2, z_lgl, z_lgg, z_lge, z_lgle, z_lgz, Option.getD_some, Option.isSome_some, ↓reduceIte, not_true_eq_false, not_false_eq_true, Option.toList_some, Option.toList_none, List.cons_append, List.nil_append, Nat.reduceAdd, Nat.add_assoc, ku_ne, ku_same, ne_eq, Nat.reduceEqDiff, reduceCtorEq, Nat.add_eq_left, Nat.left_eq_add, Nat.reduceEqDiff, q10, q_ne, true_or, or_true, h]
  · simp only [s65_0, s65_1, s65_2, s65_3, s65_6, s65_7, s65_10, s65_11, s65_12, s65_15, hf_bd_v, hf_bd_n, hf_iv_i, hf_iv_l, hf_iv_a, hf_iv_n, hf_iv_2, z_lgl, z_lgg, z_lge, z_lgle, z_lgz, Option.getD_some, Option.isSome_some, ↓reduceIte, not_true_eq_false, not_false_eq_true, Option.toList_some, Option.toList_none, List.cons_append, List.nil_append, Nat.reduceAdd, Nat.add_assoc, ku_ne, ku_same, ne_eq, Nat.reduceEqDiff, reduceCtorEq, Nat.add_eq_left, Nat.left_eq_add, Nat.reduceEqDiff, q10, q_ne, true_or, or_true, h, c_fdv h]
def bitL (k : Nat) : Int64 := 1 <<< ((nI k).toInt64 &&& 63)
theorem c_bit {k : Nat} (hk : k < 64) : hf_rn 66 0 [some (.int (nI k))] [] g I J = some (.inl (some (.long (bitL k))), g, I, J) := by
  have h1 : ¬ (64 : Int32) ≤ nI k := by rw [show (64 : Int32) = nI 64 from rfl, z_ii (by decide) (by omega)]; omega
  simp only [s66_0, s66_1, s66_4, s66_5, s66_7, s66_10, s66_11, s66_12, s66_13, s66_16, s66_17, hf_bd_v, hf_bd_n, hf_iv_i, hf_iv_l, hf_iv_a, hf_iv_n, hf_iv_2, z_lgl, z_lgg, z_lge, z_lgle, z_lgz, Option.getD_some, Option.isSome_some, ↓reduceIte, not_true_eq_false, not_false_eq_true, Option.toList_some, Option.toList_none, List.cons_append, List.nil_append, Nat.reduceAdd, Nat.add_assoc, ku_ne, ku_same, ne_eq, Nat.reduceEqDiff, reduceCtorEq, Nat.add_eq_left, Nat.left_eq_add, Nat.reduceEqDiff, q10, q_ne, true_or, or_true, z_i0 (show k < 2147483648 by omega), h1, bitL]
/-- a bit is among those of a number -/
def btL (a : Int64) (k : Nat) : Bool := decide (¬ a &&& bitL k = 0)
theorem c_has {k : Nat} (hk : k < 64) : hf_rn 67 0 [some (.long a), none, some (.int (nI k))] [] g I J = some (.inl (some (.int (if btL a k = true then 1 else 0))), g, I, J) := by
  unfold btL
  by_cases h : a &&& bitL k = 0
  · simp only [s67_0, s67_1, s67_2, s67_5, s67_6, s67_7, s67_8, s67_11, s67_12, s67_15, s67_16, hf_bd_v, hf_bd_n, hf_iv_i, hf_iv_l, hf_iv_a, hf_iv_n, hf_iv_2, z_lgl, z_lgg, z_lge, z_lgle, z_lgz, Option.getD_some, Option.isSome_some, ↓reduceIte, not_true_eq_false, not_false_eq_true, Option.toList_some, Option.toList_none, List.cons_append, List.nil_append, Nat.reduceAdd, Nat.add_assoc, ku_ne, ku_same, ne_eq, Nat.reduceEqDiff, reduceCtorEq, Nat.add_eq_left, Nat.left_eq_add, Nat.reduceEqDiff, q10, q_ne, true_or, or_true, c_bit hk, h, true_or, or_true]
    simp
  · simp only [s67_0, s67_1, s67_2, s67_5, s67_6, s67_7, s67_8, s67_11, s67_12, s67_15, s67_16, hf_bd_v, hf_bd_n, hf_iv_i, hf_iv_l, hf_iv_a, hf_iv_n, hf_iv_2, z_lgl, z_lgg, z_lge, z_lgle, z_lgz, Option.getD_some, Option.isSome_some, ↓reduceIte, not_true_eq_false, not_false_eq_true, Option.toList_some, Option.toList_none, List.cons_append, List.nil_append, Nat.reduceAdd, Nat.add_assoc, ku_ne, ku_same, ne_eq, Nat.reduceEqDiff, reduceCtorEq, Nat.add_eq_left, Nat.left_eq_add, Nat.reduceEqDiff, q10, q_ne, true_or, or_true, c_bit hk, h, true_or, or_true]
    simp
/-- the lowest of n that has it -/
def low (p : Nat → Bool) : Nat → Nat → Option Nat
  | 0, _ => none
  | d + 1, k => if p k = true then some k else low p d (k + 1)
def lowI (p : Nat → Bool) : Int32 := match low p 64 0 with
  | some k => nI k
  | none => -1
theorem c_lowest : hf_rn 68 0 [some (.long a), none, none] [] g I J = some (.inl (some (.int (lowI (btL a)))), g, I, J) := by
  have loop : ∀ (d k : Nat), k + d = 64 → hf_rn 68 2 [some (.long a), none, some (.int (nI k))] [] g I J = some (.inl (some (.int (match low (btL a) d k with | some k => nI k | none => -1))), g, I, J) := by
    intro d
    induction d with
    | zero =>
      intro k hk
      have : k = 64 := by omega
      subst this
      have h1 : (64 : Int32) ≤ nI 64 := by decide
      simp only [s68_0, s68_1, s68_2, s68_3, s68_5, s68_8, s68_9, s68_10, s68_13, s68_16, s68_17, s68_18, s68_24, s68_25, hf_bd_v, hf_bd_n, hf_iv_i, hf_iv_l, hf_iv_a, hf_iv_n, hf_iv_2, z_lgl, z_lgg, z_lge, z_lgle, z_lgz, Option.getD_some, Option.isSome_some, ↓reduceIte, not_true_eq_false, not_false_eq_true, Option.toList_some, Option.toList_none, List.cons_append, List.nil_append, Nat.reduceAdd, Nat.add_assoc, ku_ne, ku_same, ne_eq, Nat.reduceEqDiff, reduceCtorEq, Nat.add_eq_left, Nat.left_eq_add, Nat.reduceEqDiff, q10, q_ne, true_or, or_true, h1, low]
    | succ d ih =>
      intro k hk
      have h1 : ¬ (64 : Int32) ≤ nI k := by rw [show (64 : Int32) = nI 64 from rfl, z_ii (by decide) (by omega)]; omega
      by_cases hb : btL a k = true
      · simp only [s68_0, s68_1, s68_2, s68_3, s68_5, s68_8, s68_9, s68_10, s68_13, s68_16, s68_17, s68_18, s68_24, s68_25, hf_bd_v, hf_bd_n, hf_iv_i, hf_iv_l, hf_iv_a, hf_iv_n, hf_iv_2, z_lgl, z_lgg, z_lge, z_lgle, z_lgz, Option.getD_some, Option.isSome_some, ↓reduceIte, not_true_eq_false, not_false_eq_true, Option.toList_some, Option.toList_none, List.cons_append, List.nil_append, Nat.reduceAdd, Nat.add_assoc, ku_ne, ku_same, ne_eq, Nat.reduceEqDiff, reduceCtorEq, Nat.add_eq_left, Nat.left_eq_add, Nat.reduceEqDiff, q10, q_ne, true_or, or_true, h1, c_has (show k < 64 by omega), hb, low]
        all_goals simp [s68_16, s68_17, low, hb]
      · simp only [s68_0, s68_1, s68_2, s68_3, s68_5, s68_8, s68_9, s68_10, s68_13, s68_16, s68_17, s68_18, s68_24, s68_25, hf_bd_v, hf_bd_n, hf_iv_i, hf_iv_l, hf_iv_a, hf_iv_n, hf_iv_2, z_lgl, z_lgg, z_lge, z_lgle, z_lgz, Option.getD_some, Option.isSome_some, ↓reduceIte, not_true_eq_false, not_false_eq_true, Option.toList_some, Option.toList_none, List.cons_append, List.nil_append, Nat.reduceAdd, Nat.add_assoc, ku_ne, ku_same, ne_eq, Nat.reduceEqDiff, reduceCtorEq, Nat.add_eq_left, Nat.left_eq_add, Nat.reduceEqDiff, q10, q_ne, true_or, or_true, h1, c_has (show k < 64 by omega), hb, low, z_1]
        rw [s68_21, ih (k + 1) (by omega)]
        all_goals simp [low, hb]
  simp only [s68_0, s68_1, hf_bd_v, hf_bd_n, hf_iv_i, hf_iv_l, hf_iv_a, hf_iv_n, hf_iv_2, z_lgl, z_lgg, z_lge, z_lgle, z_lgz, Option.getD_some, Option.isSome_some, ↓reduceIte, not_true_eq_false, not_false_eq_true, Option.toList_some, Option.toList_none, List.cons_append, List.nil_append, Nat.reduceAdd, Nat.add_assoc, ku_ne, ku_same, ne_eq, Nat.reduceEqDiff, reduceCtorEq, Nat.add_eq_left, Nat.left_eq_add, Nat.reduceEqDiff, q10, q_ne, true_or, or_true]
  exact loop 64 0 rfl
end
