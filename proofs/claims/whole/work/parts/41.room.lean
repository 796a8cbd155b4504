/-! ROOM, Math, and the model's small ways: each answers one expression -/
section
variable {g : hf_G} {I : hf_I} {J : hf_J} {a b c d v w : Int64} {i j k m n : Int32}
theorem c_max : hf_rn 228 0 [some (.int i), some (.int j)] [] g I J = some (.inl (some (.int (if j ≤ i then i else j))), g, I, J) := by
  by_cases h : i < j
  · have h2 : ¬ j ≤ i := by rw [Int32.le_iff_toInt_le]; rw [Int32.lt_iff_toInt_lt] at h; omega
    simp only [s228_0, s228_1, s228_2, s228_5, s228_6, s228_9, s228_10, hf_bd_v, hf_bd_n, hf_iv_i, hf_iv_l, hf_iv_a, hf_iv_n, hf_iv_2, z_lgl, z_lgg, z_lge, z_lgle, z_lgz, Option.getD_some, Option.isSome_some, ↓reduceIte, not_true_eq_false, not_false_eq_true, Option.toList_some, Option.toList_none, List.cons_append, List.nil_append, Nat.reduceAdd, Nat.add_assoc, ku_ne, ku_same, ne_eq, Nat.reduceEqDiff, reduceCtorEq, Nat.add_eq_left, Nat.left_eq_add, Nat.reduceEqDiff, q10, q_ne, true_or, or_true, h, h2]
  · have h2 : j ≤ i := by rw [Int32.le_iff_toInt_le]; rw [Int32.lt_iff_toInt_lt] at h; omega
    simp only [s228_0, s228_1, s228_2, s228_5, s228_6, s228_9, s228_10, hf_bd_v, hf_bd_n, hf_iv_i, hf_iv_l, hf_iv_a, hf_iv_n, hf_iv_2, z_lgl, z_lgg, z_lge, z_lgle, z_lgz, Option.getD_some, Option.isSome_some, ↓reduceIte, not_true_eq_false, not_false_eq_true, Option.toList_some, Option.toList_none, List.cons_append, List.nil_append, Nat.reduceAdd, Nat.add_assoc, ku_ne, ku_same, ne_eq, Nat.reduceEqDiff, reduceCtorEq, Nat.add_eq_left, Nat.left_eq_add, Nat.reduceEqDiff, q10, q_ne, true_or, or_true, h, h2]
theorem c_minI : hf_rn 229 0 [some (.int i), some (.int j)] [] g I J = some (.inl (some (.int (if i ≤ j then i else j))), g, I, J) := by
  by_cases h : j < i
  · have h2 : ¬ i ≤ j := by rw [Int32.le_iff_toInt_le]; rw [Int32.lt_iff_toInt_lt] at h; omega
    simp only [s229_0, s229_1, s229_2, s229_5, s229_6, s229_9, s229_10, hf_bd_v, hf_bd_n, hf_iv_i, hf_iv_l, hf_iv_a, hf_iv_n, hf_iv_2, z_lgl, z_lgg, z_lge, z_lgle, z_lgz, Option.getD_some, Option.isSome_some, ↓reduceIte, not_true_eq_false, not_false_eq_true, Option.toList_some, Option.toList_none, List.cons_append, List.nil_append, Nat.reduceAdd, Nat.add_assoc, ku_ne, ku_same, ne_eq, Nat.reduceEqDiff, reduceCtorEq, Nat.add_eq_left, Nat.left_eq_add, Nat.reduceEqDiff, q10, q_ne, true_or, or_true, h, h2]
  · have h2 : i ≤ j := by rw [Int32.le_iff_toInt_le]; rw [Int32.lt_iff_toInt_lt] at h; omega
    simp only [s229_0, s229_1, s229_2, s229_5, s229_6, s229_9, s229_10, hf_bd_v, hf_bd_n, hf_iv_i, hf_iv_l, hf_iv_a, hf_iv_n, hf_iv_2, z_lgl, z_lgg, z_lge, z_lgle, z_lgz, Option.getD_some, Option.isSome_some, ↓reduceIte, not_true_eq_false, not_false_eq_true, Option.toList_some, Option.toList_none, List.cons_append, List.nil_append, Nat.reduceAdd, Nat.add_assoc, ku_ne, ku_same, ne_eq, Nat.reduceEqDiff, reduceCtorEq, Nat.add_eq_left, Nat.left_eq_add, Nat.reduceEqDiff, q10, q_ne, true_or, or_true, h, h2]
theorem c_minL : hf_rn 230 0 [some (.long a), none, some (.long b), none] [] g I J = some (.inl (some (.long (if a ≤ b then a else b))), g, I, J) := by
  by_cases h : b < a
  · have h2 : ¬ a ≤ b := by rw [Int64.le_iff_toInt_le]; rw [Int64.lt_iff_toInt_lt] at h; omega
    simp only [s230_0, s230_1, s230_2, s230_3, s230_6, s230_7, s230_10, s230_11, hf_bd_v, hf_bd_n, hf_iv_i, hf_iv_l, hf_iv_a, hf_iv_n, hf_iv_2, z_lgl, z_lgg, z_lge, z_lgle, z_lgz, Option.getD_some, Option.isSome_some, ↓reduceIte, not_true_eq_false, not_false_eq_true, Option.toList_some, Option.toList_none, List.cons_append, List.nil_append, Nat.reduceAdd, Nat.add_assoc, ku_ne, ku_same, ne_eq, Nat.reduceEqDiff, reduceCtorEq, Nat.add_eq_left, Nat.left_eq_add, Nat.reduceEqDiff, q10, q_ne, true_or, or_true, h, h2]
  · have h2 : a ≤ b := by rw [Int64.le_iff_toInt_le]; rw [Int64.lt_iff_toInt_lt] at h; omega
    simp only [s230_0, s230_1, s230_2, s230_3, s230_6, s230_7, s230_10, s230_11, hf_bd_v, hf_bd_n, hf_iv_i, hf_iv_l, hf_iv_a, hf_iv_n, hf_iv_2, z_lgl, z_lgg, z_lge, z_lgle, z_lgz, Option.getD_some, Option.isSome_some, ↓reduceIte, not_true_eq_false, not_false_eq_true, Option.toList_some, Option.toList_none, List.cons_append, List.nil_append, Nat.reduceAdd, Nat.add_assoc, ku_ne, ku_same, ne_eq, Nat.reduceEqDiff, reduceCtorEq, Nat.add_eq_left, Nat.left_eq_add, Nat.reduceEqDiff, q10, q_ne, true_or, or_true, h, h2]
theorem c_abs : hf_rn 227 0 [some (.long a), none] [] g I J = some (.inl (some (.long (if 0 ≤ a then a else -a))), g, I, J) := by
  by_cases h : 0 ≤ a
  · simp only [s227_0, s227_1, s227_2, s227_3, s227_6, s227_7, s227_8, s227_11, s227_12, hf_bd_v, hf_bd_n, hf_iv_i, hf_iv_l, hf_iv_a, hf_iv_n, hf_iv_2, z_lgl, z_lgg, z_lge, z_lgle, z_lgz, Option.getD_some, Option.isSome_some, ↓reduceIte, not_true_eq_false, not_false_eq_true, Option.toList_some, Option.toList_none, List.cons_append, List.nil_append, Nat.reduceAdd, Nat.add_assoc, ku_ne, ku_same, ne_eq, Nat.reduceEqDiff, reduceCtorEq, Nat.add_eq_left, Nat.left_eq_add, Nat.reduceEqDiff, q10, q_ne, true_or, or_true, h]
  · simp only [s227_0, s227_1, s227_2, s227_3, s227_6, s227_7, s227_8, s227_11, s227_12, hf_bd_v, hf_bd_n, hf_iv_i, hf_iv_l, hf_iv_a, hf_iv_n, hf_iv_2, z_lgl, z_lgg, z_lge, z_lgle, z_lgz, Option.getD_some, Option.isSome_some, ↓reduceIte, not_true_eq_false, not_false_eq_true, Option.toList_some, Option.toList_none, List.cons_append, List.nil_append, Nat.reduceAdd, Nat.add_assoc, ku_ne, ku_same, ne_eq, Nat.reduceEqDiff, reduceCtorEq, Nat.add_eq_left, Nat.left_eq_add, Nat.reduceEqDiff, q10, q_ne, true_or, or_true, h]
/-- rounded down -/
def fdv (a b : Int64) : Int64 := if 0 ≤ a ^^^ b then a / b else if a / b * b = a then a / b else a / b - 1
def fmd (a b : Int64) : Int64 := if 0 ≤ a ^^^ b then a - a / b * b else if a - a / b * b = 0 then a - a / b * b else a - a / b * b + b
theorem c_fdv (h : ¬ b = 0) : hf_rn 225 0 [some (.long a), none, some (.long b), none, none, none] [] g I J = some (.inl (some (.long (fdv a b))), g, I, J) := by
  unfold fdv
  by_cases h1 : 0 ≤ a ^^^ b
  · simp only [s225_0, s225_1, s225_2, s225_3, s225_5, s225_6, s225_7, s225_8, s225_9, s225_10, s225_13, s225_15, s225_16, s225_17, s225_18, s225_19, s225_22, s225_24, s225_25, s225_26, s225_27, s225_29, hf_bd_v, hf_bd_n, hf_iv_i, hf_iv_l, hf_iv_a, hf_iv_n, hf_iv_2, z_lgl, z_lgg, z_lge, z_lgle, z_lgz, Option.getD_some, Option.isSome_some, ↓reduceIte, not_true_eq_false, not_false_eq_true, Option.toList_some, Option.toList_none, List.cons_append, List.nil_append, Nat.reduceAdd, Nat.add_assoc, ku_ne, ku_same, ne_eq, Nat.reduceEqDiff, reduceCtorEq, Nat.add_eq_left, Nat.left_eq_add, Nat.reduceEqDiff, q10, q_ne, true_or, or_true, h, h1]
  · by_cases h2 : a / b * b = a
    · simp only [s225_0, s225_1, s225_2, s225_3, s225_5, s225_6, s225_7, s225_8, s225_9, s225_10, s225_13, s225_15, s225_16, s225_17, s225_18, s225_19, s225_22, s225_24, s225_25, s225_26, s225_27, s225_29, hf_bd_v, hf_bd_n, hf_iv_i, hf_iv_l, hf_iv_a, hf_iv_n, hf_iv_2, z_lgl, z_lgg, z_lge, z_lgle, z_lgz, Option.getD_some, Option.isSome_some, ↓reduceIte, not_true_eq_false, not_false_eq_true, Option.toList_some, Option.toList_none, List.cons_append, List.nil_append, Nat.reduceAdd, Nat.add_assoc, ku_ne, ku_same, ne_eq, Nat.reduceEqDiff, reduceCtorEq, Nat.add_eq_left, Nat.left_eq_add, Nat.reduceEqDiff, q10, q_ne, true_or, or_true, h, h1, h2]
    · simp only [s225_0, s225_1, s225_2, s225_3, s225_5, s225_6, s225_7, s225_8, s225_9, s225_10, s225_13, s225_15, s225_16, s225_17, s225_18, s225_19, s225_22, s225_24, s225_25, s225_26, s225_27, s225_29, hf_bd_v, hf_bd_n, hf_iv_i, hf_iv_l, hf_iv_a, hf_iv_n, hf_iv_2, z_lgl, z_lgg, z_lge, z_lgle, z_lgz, Option.getD_some, Option.isSome_some, ↓reduceIte, not_true_eq_false, not_false_eq_true, Option.toList_some, Option.toList_none, List.cons_append, List.nil_append, Nat.reduceAdd, Nat.add_assoc, ku_ne, ku_same, ne_eq, Nat.reduceEqDiff, reduceCtorEq, Nat.add_eq_left, Nat.left_eq_add, Nat.reduceEqDiff, q10, q_ne, true_or, or_true, h, h1, h2]
theorem c_fmd (h : ¬ b = 0) : hf_rn 226 0 [some (.long a), none, some (.long b), none, none, none] [] g I J = some (.inl (some (.long (fmd a b))), g, I, J) := by
  unfold fmd
  by_cases h1 : 0 ≤ a ^^^ b
  · simp only [s226_0, s226_1, s226_2, s226_3, s226_5, s226_6, s226_7, s226_8, s226_9, s226_10, s226_13, s226_15, s226_16, s226_17, s226_20, s226_22, s226_23, s226_24, s226_25, s226_27, hf_bd_v, hf_bd_n, hf_iv_i, hf_iv_l, hf_iv_a, hf_iv_n, hf_iv_2, z_lgl, z_lgg, z_lge, z_lgle, z_lgz, Option.getD_some, Option.isSome_some, ↓reduceIte, not_true_eq_false, not_false_eq_true, Option.toList_some, Option.toList_none, List.cons_append, List.nil_append, Nat.reduceAdd, Nat.add_assoc, ku_ne, ku_same, ne_eq, Nat.reduceEqDiff, reduceCtorEq, Nat.add_eq_left, Nat.left_eq_add, Nat.reduceEqDiff, q10, q_ne, true_or, or_true, h, h1]
  · by_cases h2 : a - a / b * b = 0
    · simp only [s226_0, s226_1, s226_2, s226_3, s226_5, s226_6, s226_7, s226_8, s226_9, s226_10, s226_13, s226_15, s226_16, s226_17, s226_20, s226_22, s226_23, s226_24, s226_25, s226_27, hf_bd_v, hf_bd_n, hf_iv_i, hf_iv_l, hf_iv_a, hf_iv_n, hf_iv_2, z_lgl, z_lgg, z_lge, z_lgle, z_lgz, Option.getD_some, Option.isSome_some, ↓reduceIte, not_true_eq_false, not_false_eq_true, Option.toList_some, Option.toList_none, List.cons_append, List.nil_append, Nat.reduceAdd, Nat.add_assoc, ku_ne, ku_same, ne_eq, Nat.reduceEqDiff, reduceCtorEq, Nat.add_eq_left, Nat.left_eq_add, Nat.reduceEqDiff, q10, q_ne, true_or, or_true, h, h1, h2]
    · simp only [s226_0, s226_1, s226_2, s226_3, s226_5, s226_6, s226_7, s226_8, s226_9, s226_10, s226_13, s226_15, s226_16, s226_17, s226_20, s226_22, s226_23, s226_24, s226_25, s226_27, hf_bd_v, hf_bd_n, hf_iv_i, hf_iv_l, hf_iv_a, hf_iv_n, hf_iv_2, z_lgl, z_lgg, z_lge, z_lgle, z_lgz, Option.getD_some, Option.isSome_some, ↓reduceIte, not_true_eq_false, not_false_eq_true, Option.toList_some, Option.toList_none, List.cons_append, List.nil_append, Nat.reduceAdd, Nat.add_assoc, ku_ne, ku_same, ne_eq, Nat.reduceEqDiff, reduceCtorEq, Nat.add_eq_left, Nat.left_eq_add, Nat.reduceEqDiff, q10, q_ne, true_or, or_true, h, h1, h2]
theorem q4096 : ¬ (4096 : Int64) = 0 := by decide
def plc (a : Int64) : Int64 := fmd a 4096
def wayL (a b : Int64) : Int64 := fmd (b - a + 2048) 4096 - 2048
theorem c_place : hf_rn 62 0 [some (.long a), none] [] g I J = some (.inl (some (.long (plc a))), g, I, J) := by
  simp only [s62_0, s62_1, s62_4, s62_7, hf_bd_v, hf_bd_n, hf_iv_i, hf_iv_l, hf_iv_a, hf_iv_n, hf_iv_2, z_lgl, z_lgg, z_lge, z_lgle, z_lgz, Option.getD_some, Option.isSome_some, ↓reduceIte, not_true_eq_false, not_false_eq_true, Option.toList_some, Option.toList_none, List.cons_append, List.nil_append, Nat.reduceAdd, Nat.add_assoc, ku_ne, ku_same, ne_eq, Nat.reduceEqDiff, reduceCtorEq, Nat.add_eq_left, Nat.left_eq_add, Nat.reduceEqDiff, q10, q_ne, true_or, or_true, c_fmd q4096, plc]
theorem c_way : hf_rn 63 0 [some (.long a), none, some (.long b), none] [] g I J = some (.inl (some (.long (wayL a b))), g, I, J) := by
  simp only [s63_0, s63_1, s63_2, s63_3, s63_6, s63_7, s63_10, s63_13, s63_16, s63_17, hf_bd_v, hf_bd_n, hf_iv_i, hf_iv_l, hf_iv_a, hf_iv_n, hf_iv_2, z_lgl, z_lgg, z_lge, z_lgle, z_lgz, Option.getD_some, Option.isSome_some, ↓reduceIte, not_true_eq_false, not_false_eq_true, Option.toList_some, Option.toList_none, List.cons_append, List.nil_append, Nat.reduceAdd, Nat.add_assoc, ku_ne, ku_same, ne_eq, Nat.reduceEqDiff, reduceCtorEq, Nat.add_eq_left, Nat.left_eq_add, Nat.reduceEqDiff, q10, q_ne, true_or, or_true, c_fmd q4096, wayL]
def by0 (a b : Int64) : Int64 := if b = 0 then 0 else a / b
def by1 (a b : Int64) : Int64 := if b = 0 then 0 else fdv a b
theorem c_by : hf_rn 65 0 [some (.long a), none, some (.long b), none] [] g I J = some (.inl (some (.long (by0 a b))), g, I, J) := by
  unfold by0
  by_cases h : b = 0
  · simp only [s65_0, s65_1, s65_2, s65_3, s65_6, s65_7, s65_10, s65_11, s65_12, s65_13, hf_bd_v, hf_bd_n, hf_iv_i, hf_iv_l, hf_iv_a, hf_iv_n, hf_iv_2, z_lgl, z_lgg, z_lge, z_lgle, z_lgz, Option.getD_some, Option.isSome_some, ↓reduceIte, not_true_eq_false, not_false_eq_true, Option.toList_some, Option.toList_none, List.cons_append, List.nil_append, Nat.reduceAdd, Nat.add_assoc, ku_ne, ku_same, ne_eq, Nat.reduceEqDiff, reduceCtorEq, Nat.add_eq_left, Nat.left_eq_add, Nat.reduceEqDiff, q10, q_ne, true_or, or_true, h]
  · simp only [s65_0, s65_1, s65_2, s65_3, s65_6, s65_7, s65_10, s65_11, s65_12, s65_13, hf_bd_v, hf_bd_n, hf_iv_i, hf_iv_l, hf_iv_a, hf_iv_n, hf_iv_2, z_lgl, z_lgg, z_lge, z_lgle, z_lgz, Option.getD_some, Option.isSome_some, ↓reduceIte, not_true_eq_false, not_false_eq_true, Option.toList_some, Option.toList_none, List.cons_append, List.nil_append, Nat.reduceAdd, Nat.add_assoc, ku_ne, ku_same, ne_eq, Nat.reduceEqDiff, reduceCtorEq, Nat.add_eq_left, Nat.left_eq_add, Nat.reduceEqDiff, q10, q_ne, true_or, or_true, h]
theorem c_by1 : hf_rn 66 0 [some (.long a), none, some (.long b), none] [] g I J = some (.inl (some (.long (by1 a b))), g, I, J) := by
  unfold by1
  by_cases h : b = 0
  · simp only [s66_0, s66_1, s66_2, s66_3, s66_6, s66_7, s66_10, s66_11, s66_12, s66_15, hf_bd_v, hf_bd_n, hf_iv_i, hf_iv_l, hf_iv_a, hf_iv_n, hf_iv_2, z_lgl, z_lgg, z_lge, z_lgle, z_lgz, Option.getD_some, Option.isSome_some, ↓reduceIte, not_true_eq_false, not_false_eq_true, Option.toList_some, Option.toList_none, List.cons_append, List.nil_append, Nat.reduceAdd, Nat.add_assoc, ku_ne, ku_same, ne_eq, Nat.reduceEqDiff, reduceCtorEq, Nat.add_eq_left, Nat.left_eq_add, Nat.reduceEqDiff, q10, q_ne, true_or, or_true, h]
  · simp only [s66_0, s66_1, s66_2, s66_3, s66_6, s66_7, s66_10, s66_11, s66_12, s66_15, hf_bd_v, hf_bd_n, hf_iv_i, hf_iv_l, hf_iv_a, hf_iv_n, hf_iv_2, z_lgl, z_lgg, z_lge, z_lgle, z_lgz, Option.getD_some, Option.isSome_some, ↓reduceIte, not_true_eq_false, not_false_eq_true, Option.toList_some, Option.toList_none, List.cons_append, List.nil_append, Nat.reduceAdd, Nat.add_assoc, ku_ne, ku_same, ne_eq, Nat.reduceEqDiff, reduceCtorEq, Nat.add_eq_left, Nat.left_eq_add, Nat.reduceEqDiff, q10, q_ne, true_or, or_true, h, c_fdv h]
def bitL (k : Nat) : Int64 := 1 <<< ((nI k).toInt64 &&& 63)
theorem c_bit {k : Nat} (hk : k < 64) : hf_rn 67 0 [some (.int (nI k))] [] g I J = some (.inl (some (.long (bitL k))), g, I, J) := by
  have h1 : ¬ (64 : Int32) ≤ nI k := by rw [show (64 : Int32) = nI 64 from rfl, z_ii (by decide) (by omega)]; omega
  simp only [s67_0, s67_1, s67_4, s67_5, s67_7, s67_10, s67_11, s67_12, s67_13, s67_16, s67_17, hf_bd_v, hf_bd_n, hf_iv_i, hf_iv_l, hf_iv_a, hf_iv_n, hf_iv_2, z_lgl, z_lgg, z_lge, z_lgle, z_lgz, Option.getD_some, Option.isSome_some, ↓reduceIte, not_true_eq_false, not_false_eq_true, Option.toList_some, Option.toList_none, List.cons_append, List.nil_append, Nat.reduceAdd, Nat.add_assoc, ku_ne, ku_same, ne_eq, Nat.reduceEqDiff, reduceCtorEq, Nat.add_eq_left, Nat.left_eq_add, Nat.reduceEqDiff, q10, q_ne, true_or, or_true, z_i0 (show k < 2147483648 by omega), h1, bitL]
/-- a bit is among those of a number -/
def btL (a : Int64) (k : Nat) : Bool := decide (¬ a &&& bitL k = 0)
theorem c_has {k : Nat} (hk : k < 64) : hf_rn 68 0 [some (.long a), none, some (.int (nI k))] [] g I J = some (.inl (some (.int (if btL a k = true then 1 else 0))), g, I, J) := by
  unfold btL
  by_cases h : a &&& bitL k = 0
  · simp only [s68_0, s68_1, s68_2, s68_5, s68_6, s68_7, s68_8, s68_11, s68_12, s68_15, s68_16, hf_bd_v, hf_bd_n, hf_iv_i, hf_iv_l, hf_iv_a, hf_iv_n, hf_iv_2, z_lgl, z_lgg, z_lge, z_lgle, z_lgz, Option.getD_some, Option.isSome_some, ↓reduceIte, not_true_eq_false, not_false_eq_true, Option.toList_some, Option.toList_none, List.cons_append, List.nil_append, Nat.reduceAdd, Nat.add_assoc, ku_ne, ku_same, ne_eq, Nat.reduceEqDiff, reduceCtorEq, Nat.add_eq_left, Nat.left_eq_add, Nat.reduceEqDiff, q10, q_ne, true_or, or_true, c_bit hk, h, true_or, or_true]
    simp
  · simp only [s68_0, s68_1, s68_2, s68_5, s68_6, s68_7, s68_8, s68_11, s68_12, s68_15, s68_16, hf_bd_v, hf_bd_n, hf_iv_i, hf_iv_l, hf_iv_a, hf_iv_n, hf_iv_2, z_lgl, z_lgg, z_lge, z_lgle, z_lgz, Option.getD_some, Option.isSome_some, ↓reduceIte, not_true_eq_false, not_false_eq_true, Option.toList_some, Option.toList_none, List.cons_append, List.nil_append, Nat.reduceAdd, Nat.add_assoc, ku_ne, ku_same, ne_eq, Nat.reduceEqDiff, reduceCtorEq, Nat.add_eq_left, Nat.left_eq_add, Nat.reduceEqDiff, q10, q_ne, true_or, or_true, c_bit hk, h, true_or, or_true]
    simp
/-- the lowest of n that has it -/
def low (p : Nat → Bool) : Nat → Nat → Option Nat
  | 0, _ => none
  | d + 1, k => if p k = true then some k else low p d (k + 1)
def lowI (p : Nat → Bool) : Int32 := match low p 64 0 with
  | some k => nI k
  | none => -1
theorem c_lowest : hf_rn 69 0 [some (.long a), none, none] [] g I J = some (.inl (some (.int (lowI (btL a)))), g, I, J) := by
  have loop : ∀ (d k : Nat), k + d = 64 → hf_rn 69 2 [some (.long a), none, some (.int (nI k))] [] g I J = some (.inl (some (.int (match low (btL a) d k with | some k => nI k | none => -1))), g, I, J) := by
    intro d
    induction d with
    | zero =>
      intro k hk
      have : k = 64 := by omega
      subst this
      have h1 : (64 : Int32) ≤ nI 64 := by decide
      simp only [s69_0, s69_1, s69_2, s69_3, s69_5, s69_8, s69_9, s69_10, s69_13, s69_16, s69_17, s69_18, s69_24, s69_25, hf_bd_v, hf_bd_n, hf_iv_i, hf_iv_l, hf_iv_a, hf_iv_n, hf_iv_2, z_lgl, z_lgg, z_lge, z_lgle, z_lgz, Option.getD_some, Option.isSome_some, ↓reduceIte, not_true_eq_false, not_false_eq_true, Option.toList_some, Option.toList_none, List.cons_append, List.nil_append, Nat.reduceAdd, Nat.add_assoc, ku_ne, ku_same, ne_eq, Nat.reduceEqDiff, reduceCtorEq, Nat.add_eq_left, Nat.left_eq_add, Nat.reduceEqDiff, q10, q_ne, true_or, or_true, h1, low]
    | succ d ih =>
      intro k hk
      have h1 : ¬ (64 : Int32) ≤ nI k := by rw [show (64 : Int32) = nI 64 from rfl, z_ii (by decide) (by omega)]; omega
      by_cases hb : btL a k = true
      · simp only [s69_0, s69_1, s69_2, s69_3, s69_5, s69_8, s69_9, s69_10, s69_13, s69_16, s69_17, s69_18, s69_24, s69_25, hf_bd_v, hf_bd_n, hf_iv_i, hf_iv_l, hf_iv_a, hf_iv_n, hf_iv_2, z_lgl, z_lgg, z_lge, z_lgle, z_lgz, Option.getD_some, Option.isSome_some, ↓reduceIte, not_true_eq_false, not_false_eq_true, Option.toList_some, Option.toList_none, List.cons_append, List.nil_append, Nat.reduceAdd, Nat.add_assoc, ku_ne, ku_same, ne_eq, Nat.reduceEqDiff, reduceCtorEq, Nat.add_eq_left, Nat.left_eq_add, Nat.reduceEqDiff, q10, q_ne, true_or, or_true, h1, c_has (show k < 64 by omega), hb, low]
        all_goals simp [s69_16, s69_17, low, hb]
      · simp only [s69_0, s69_1, s69_2, s69_3, s69_5, s69_8, s69_9, s69_10, s69_13, s69_16, s69_17, s69_18, s69_24, s69_25, hf_bd_v, hf_bd_n, hf_iv_i, hf_iv_l, hf_iv_a, hf_iv_n, hf_iv_2, z_lgl, z_lgg, z_lge, z_lgle, z_lgz, Option.getD_some, Option.isSome_some, ↓reduceIte, not_true_eq_false, not_false_eq_true, Option.toList_some, Option.toList_none, List.cons_append, List.nil_append, Nat.reduceAdd, Nat.add_assoc, ku_ne, ku_same, ne_eq, Nat.reduceEqDiff, reduceCtorEq, Nat.add_eq_left, Nat.left_eq_add, Nat.reduceEqDiff, q10, q_ne, true_or, or_true, h1, c_has (show k < 64 by omega), hb, low, z_1]
        rw [s69_21, ih (k + 1) (by omega)]
        all_goals simp [low, hb]
  simp only [s69_0, s69_1, hf_bd_v, hf_bd_n, hf_iv_i, hf_iv_l, hf_iv_a, hf_iv_n, hf_iv_2, z_lgl, z_lgg, z_lge, z_lgle, z_lgz, Option.getD_some, Option.isSome_some, ↓reduceIte, not_true_eq_false, not_false_eq_true, Option.toList_some, Option.toList_none, List.cons_append, List.nil_append, Nat.reduceAdd, Nat.add_assoc, ku_ne, ku_same, ne_eq, Nat.reduceEqDiff, reduceCtorEq, Nat.add_eq_left, Nat.left_eq_add, Nat.reduceEqDiff, q10, q_ne, true_or, or_true]
  exact loop 64 0 rfl
end
