/-! PULLS: all forces, cells -/
section
variable {g : hf_G} {I : hf_I} {J : hf_J} {G c s k m : Nat} {u v w : Int64} {i j : Int32}
theorem rwm_w {α : Type} {J : Nat → Nat → α} {a c : Nat} {f : Nat → α} : rwm J a c f = hf_w J a (fun j => if j < c then f j else J a j) := rfl
/-- a row of n zeros -/
def zeR (J : hf_J) (a n : Nat) : Nat → Int64 := fun j => if j < n then 0 else J a j
def fr0 (c : Nat) (p : Nat → Nat → Int64) (F : Nat → Int64) : Nat → Int64 := it c F fun lo F => abF c p lo F
theorem c_findAll (hp : Pu g) (h : Gr g G) (hG : G + 8 < 238) (hc : I G 5 = nI c) (hc2 : c ≤ 64) : hf_rn 52 0 [some (.ref 238), some (.ref G), none] [] g I J = some (.inl none, g, I, w2 J 240 242 (fr0 c (prX (J 238 0) (J 238 1) (J (G + 2)) (J (G + 4))) (zeR J 240 64)) (fr0 c (prY (J 238 0) (J 238 1) (J (G + 2)) (J (G + 4))) (zeR J 242 64))) := by
  have loop : ∀ (d k : Nat) (F H : Nat → Int64), k + d = c → F = it k (zeR J 240 64) (fun lo F => abF c (prX (J 238 0) (J 238 1) (J (G + 2)) (J (G + 4))) lo F) → H = it k (zeR J 242 64) (fun lo F => abF c (prY (J 238 0) (J 238 1) (J (G + 2)) (J (G + 4))) lo F) → hf_rn 52 18 [some (.ref 238), some (.ref G), some (.int (nI k))] [] g I (w2 J 240 242 F H) = some (.inl none, g, I, w2 J 240 242 (fr0 c (prX (J 238 0) (J 238 1) (J (G + 2)) (J (G + 4))) (zeR J 240 64)) (fr0 c (prY (J 238 0) (J 238 1) (J (G + 2)) (J (G + 4))) (zeR J 242 64))) := by
    intro d
    induction d with
    | zero =>
      intro k F H hk hF hH
      have e : k = c := by omega
      subst e
      simp only [s52_0, s52_1, s52_4, s52_5, s52_8, s52_9, s52_12, s52_13, s52_16, s52_17, s52_18, s52_19, s52_20, s52_23, s52_26, s52_27, s52_28, s52_29, s52_32, s52_38, hf_bd_v, hf_bd_n, hf_iv_i, hf_iv_l, hf_iv_a, hf_iv_n, hf_iv_2, z_lgl, z_lgg, z_lge, z_lgle, z_lgz, Option.getD_some, Option.isSome_some, ↓reduceIte, not_true_eq_false, not_false_eq_true, Option.toList_some, Option.toList_none, List.cons_append, List.nil_append, Nat.reduceAdd, Nat.add_assoc, ku_ne, ku_same, ne_eq, Nat.reduceEqDiff, reduceCtorEq, Nat.add_eq_left, Nat.left_eq_add, Nat.reduceEqDiff, q10, q_ne, true_or, or_true, gr_k h, gr_r0 h, gr_r1 h, gr_r2 h, gr_r3 h, hc, hF, hH, z_ii (show k < 2147483648 by omega) (show k < 2147483648 by omega), Nat.le_refl]
      rfl
    | succ d ih =>
      intro k F H hk hF hH
      have hk1 : ¬ c ≤ k := by omega
      simp only [s52_18, s52_19, s52_20, s52_23, s52_26, s52_27, s52_28, s52_29, s52_32, hf_bd_v, hf_bd_n, hf_iv_i, hf_iv_l, hf_iv_a, hf_iv_n, hf_iv_2, z_lgl, z_lgg, z_lge, z_lgle, z_lgz, Option.getD_some, Option.isSome_some, ↓reduceIte, not_true_eq_false, not_false_eq_true, Option.toList_some, Option.toList_none, List.cons_append, List.nil_append, Nat.reduceAdd, Nat.add_assoc, ku_ne, ku_same, ne_eq, Nat.reduceEqDiff, reduceCtorEq, Nat.add_eq_left, Nat.left_eq_add, Nat.reduceEqDiff, q10, q_ne, true_or, or_true, gr_k h, gr_r0 h, gr_r1 h, gr_r2 h, gr_r3 h, hc, z_ii (show c < 2147483648 by omega) (show k < 2147483648 by omega), hk1, z_1, hp.1, c_above hp h hG hc hc2 (show k < c by omega)]
      rw [s52_35]
      exact ih _ _ _ (by omega) (by rw [hF]; rfl) (by rw [hH]; rfl)
  have e : rwm (rwm J 240 64 (fun _ => 0)) 242 64 (fun _ => 0) = w2 J 240 242 (zeR J 240 64) (zeR J 242 64) := by
    rw [rwm_w, rwm_w, w2]
    rw [kw_ne (show 242 ≠ 240 by decide)]
    rfl
  simp only [s52_0, s52_1, s52_4, s52_5, s52_8, s52_9, s52_12, s52_13, s52_16, s52_17, hf_bd_v, hf_bd_n, hf_iv_i, hf_iv_l, hf_iv_a, hf_iv_n, hf_iv_2, z_lgl, z_lgg, z_lge, z_lgle, z_lgz, Option.getD_some, Option.isSome_some, ↓reduceIte, not_true_eq_false, not_false_eq_true, Option.toList_some, Option.toList_none, List.cons_append, List.nil_append, Nat.reduceAdd, Nat.add_assoc, ku_ne, ku_same, ne_eq, Nat.reduceEqDiff, reduceCtorEq, Nat.add_eq_left, Nat.left_eq_add, Nat.reduceEqDiff, q10, q_ne, true_or, or_true, pu_k hp, pu_r2 hp, pu_r3 hp, pu_r4 hp, pu_r5 hp, pu_r6 hp, (pu_rw239 hp).1, (pu_rw241 hp).1, c_fil (pu_rw239 hp), c_fil (pu_rw241 hp), e]
  exact loop c 0 _ _ (by omega) rfl rfl
def lnL (p o : Int64) : Bool := decide (¬ fmd (p / 1024 - o / 1024) 4 = 2)
theorem q4 : ¬ (4 : Int64) = 0 := by decide
theorem q1024 : ¬ (1024 : Int64) = 0 := by decide
theorem c_lines : hf_rn 58 0 [some (.long v), none, some (.long w), none] [] g I J = some (.inl (some (.int (if lnL v w = true then 1 else 0))), g, I, J) := by
  by_cases hb : fmd (v / 1024 - w / 1024) 4 = 2
  · simp only [s58_0, s58_1, s58_4, s58_5, s58_6, s58_9, s58_10, s58_11, s58_14, s58_17, s58_20, s58_21, s58_24, s58_25, s58_28, s58_29, hf_bd_v, hf_bd_n, hf_iv_i, hf_iv_l, hf_iv_a, hf_iv_n, hf_iv_2, z_lgl, z_lgg, z_lge, z_lgle, z_lgz, Option.getD_some, Option.isSome_some, ↓reduceIte, not_true_eq_false, not_false_eq_true, Option.toList_some, Option.toList_none, List.cons_append, List.nil_append, Nat.reduceAdd, Nat.add_assoc, ku_ne, ku_same, ne_eq, Nat.reduceEqDiff, reduceCtorEq, Nat.add_eq_left, Nat.left_eq_add, Nat.reduceEqDiff, q10, q_ne, true_or, or_true, q1024, c_fmd q4, hb, lnL, decide_false, Bool.false_eq_true]
  · simp only [s58_0, s58_1, s58_4, s58_5, s58_6, s58_9, s58_10, s58_11, s58_14, s58_17, s58_20, s58_21, s58_24, s58_25, s58_28, s58_29, hf_bd_v, hf_bd_n, hf_iv_i, hf_iv_l, hf_iv_a, hf_iv_n, hf_iv_2, z_lgl, z_lgg, z_lge, z_lgle, z_lgz, Option.getD_some, Option.isSome_some, ↓reduceIte, not_true_eq_false, not_false_eq_true, Option.toList_some, Option.toList_none, List.cons_append, List.nil_append, Nat.reduceAdd, Nat.add_assoc, ku_ne, ku_same, ne_eq, Nat.reduceEqDiff, reduceCtorEq, Nat.add_eq_left, Nat.left_eq_add, Nat.reduceEqDiff, q10, q_ne, true_or, or_true, q1024, c_fmd q4, hb, lnL, decide_true]
def neL (X Y : Nat → Int64) (a b : Nat) : Bool := lnL (X a) (X b) && lnL (Y a) (Y b)
theorem c_near (h : Gr g G) (hk : k < 64) (hm : m < 64) : hf_rn 57 0 [some (.ref G), some (.int (nI k)), some (.int (nI m))] [] g I J = some (.inl (some (.int (if neL (J (G + 2)) (J (G + 4)) k m = true then 1 else 0))), g, I, J) := by
  cases h1 : lnL (J (G + 2) k) (J (G + 2) m)
  · simp only [s57_0, s57_1, s57_4, s57_5, s57_8, s57_9, s57_12, s57_13, s57_16, s57_19, s57_22, s57_23, s57_26, s57_27, s57_30, s57_31, s57_34, s57_35, s57_38, s57_41, s57_44, s57_45, s57_48, s57_49, hf_bd_v, hf_bd_n, hf_iv_i, hf_iv_l, hf_iv_a, hf_iv_n, hf_iv_2, z_lgl, z_lgg, z_lge, z_lgle, z_lgz, Option.getD_some, Option.isSome_some, ↓reduceIte, not_true_eq_false, not_false_eq_true, Option.toList_some, Option.toList_none, List.cons_append, List.nil_append, Nat.reduceAdd, Nat.add_assoc, ku_ne, ku_same, ne_eq, Nat.reduceEqDiff, reduceCtorEq, Nat.add_eq_left, Nat.left_eq_add, Nat.reduceEqDiff, q10, q_ne, true_or, or_true, gr_k h, gr_r0 h, gr_r1 h, gr_r2 h, gr_r3 h, (gr_rw1 h).1, (gr_rw3 h).1, c_get (gr_rw1 h) hk, c_get (gr_rw1 h) hm, c_get (gr_rw3 h) hk, c_get (gr_rw3 h) hm, c_lines, h1, neL, Bool.false_eq_true, Bool.false_and]
  · cases h2 : lnL (J (G + 4) k) (J (G + 4) m)
    · simp only [s57_0, s57_1, s57_4, s57_5, s57_8, s57_9, s57_12, s57_13, s57_16, s57_19, s57_22, s57_23, s57_26, s57_27, s57_30, s57_31, s57_34, s57_35, s57_38, s57_41, s57_44, s57_45, s57_48, s57_49, hf_bd_v, hf_bd_n, hf_iv_i, hf_iv_l, hf_iv_a, hf_iv_n, hf_iv_2, z_lgl, z_lgg, z_lge, z_lgle, z_lgz, Option.getD_some, Option.isSome_some, ↓reduceIte, not_true_eq_false, not_false_eq_true, Option.toList_some, Option.toList_none, List.cons_append, List.nil_append, Nat.reduceAdd, Nat.add_assoc, ku_ne, ku_same, ne_eq, Nat.reduceEqDiff, reduceCtorEq, Nat.add_eq_left, Nat.left_eq_add, Nat.reduceEqDiff, q10, q_ne, true_or, or_true, gr_k h, gr_r0 h, gr_r1 h, gr_r2 h, gr_r3 h, (gr_rw1 h).1, (gr_rw3 h).1, c_get (gr_rw1 h) hk, c_get (gr_rw1 h) hm, c_get (gr_rw3 h) hk, c_get (gr_rw3 h) hm, c_lines, h1, h2, neL, Bool.false_eq_true, Bool.and_false]
    · simp only [s57_0, s57_1, s57_4, s57_5, s57_8, s57_9, s57_12, s57_13, s57_16, s57_19, s57_22, s57_23, s57_26, s57_27, s57_30, s57_31, s57_34, s57_35, s57_38, s57_41, s57_44, s57_45, s57_48, s57_49, hf_bd_v, hf_bd_n, hf_iv_i, hf_iv_l, hf_iv_a, hf_iv_n, hf_iv_2, z_lgl, z_lgg, z_lge, z_lgle, z_lgz, Option.getD_some, Option.isSome_some, ↓reduceIte, not_true_eq_false, not_false_eq_true, Option.toList_some, Option.toList_none, List.cons_append, List.nil_append, Nat.reduceAdd, Nat.add_assoc, ku_ne, ku_same, ne_eq, Nat.reduceEqDiff, reduceCtorEq, Nat.add_eq_left, Nat.left_eq_add, Nat.reduceEqDiff, q10, q_ne, true_or, or_true, gr_k h, gr_r0 h, gr_r1 h, gr_r2 h, gr_r3 h, (gr_rw1 h).1, (gr_rw3 h).1, c_get (gr_rw1 h) hk, c_get (gr_rw1 h) hm, c_get (gr_rw3 h) hk, c_get (gr_rw3 h) hm, c_lines, h1, h2, neL, Bool.and_true]
def rmL (a b : Int64) : Int64 := a - a / b * b
def rmI (a b : Int32) : Int32 := a - a / b * b
def clL (X Y : Nat → Int64) (k : Nat) : Int32 := (X k / 1024 * 4 + Y k / 1024).toInt32
theorem c_putIn (hp : Pu g) (h : Gr g G) (hG : G + 8 < 238) (hk : k < 64) (hm : m < 16) (hcl : clL (J (G + 2)) (J (G + 4)) k = nI m) {N BX BY : Nat → Int64} : hf_rn 59 0 [some (.ref 238), some (.ref G), some (.int (nI k)), none, none, none, none, none] [] g I (w3 J 244 246 248 N BX BY) = some (.inl none, g, I, w3 J 244 246 248 (up N m (N m + 1)) (up BX m (BX m + rmL (J (G + 2) k) 1024)) (up BY m (BY m + rmL (J (G + 4) k) 1024))) := by
  have n1 : G + 2 ≠ 244 := by omega
  have n2 : G + 2 ≠ 246 := by omega
  have n3 : G + 2 ≠ 248 := by omega
  have n4 : G + 4 ≠ 244 := by omega
  have n5 : G + 4 ≠ 246 := by omega
  have n6 : G + 4 ≠ 248 := by omega
  have e : (J (G + 2) k / 1024 * 4 + J (G + 4) k / 1024).toInt32 = nI m := hcl
  have f1 : hf_w (hf_w (hf_w J 244 N) 246 BX) 248 BY (G + 2) = J (G + 2) := w3_n n1 n2 n3
  simp only [s59_0, s59_1, s59_4, s59_5, s59_8, s59_9, s59_10, s59_13, s59_14, s59_17, s59_19, s59_20, s59_23, s59_24, s59_27, s59_28, s59_30, s59_33, s59_34, s59_35, s59_36, s59_38, s59_39, s59_42, s59_44, s59_45, s59_48, s59_49, s59_52, s59_54, s59_55, s59_58, s59_59, s59_62, s59_63, s59_66, s59_68, s59_70, s59_73, s59_74, s59_77, hf_bd_v, hf_bd_n, hf_iv_i, hf_iv_l, hf_iv_a, hf_iv_n, hf_iv_2, z_lgl, z_lgg, z_lge, z_lgle, z_lgz, Option.getD_some, Option.isSome_some, ↓reduceIte, not_true_eq_false, not_false_eq_true, Option.toList_some, Option.toList_none, List.cons_append, List.nil_append, Nat.reduceAdd, Nat.add_assoc, ku_ne, ku_same, ne_eq, Nat.reduceEqDiff, reduceCtorEq, Nat.add_eq_left, Nat.left_eq_add, Nat.reduceEqDiff, q10, q_ne, true_or, or_true, gr_k h, gr_r0 h, gr_r1 h, gr_r2 h, gr_r3 h, pu_k hp, pu_r2 hp, pu_r3 hp, pu_r4 hp, pu_r5 hp, pu_r6 hp, (gr_rw1 h).1, (gr_rw3 h).1, c_get (gr_rw1 h) hk, c_get (gr_rw3 h) hk, w3_n, n1, n2, n3, n4, n5, n6, q1024, e, (pu_rw243 hp).1, (pu_rw245 hp).1, (pu_rw247 hp).1, c_add (pu_rw243 hp) hm, c_add (pu_rw245 hp) hm, c_add (pu_rw247 hp) hm, w3_a, w3_b, w3_c, w3_ua, w3_ub, w3_uc, rmL]
def pcX (cell : Nat) (n b : Int64) : Int64 := (nI cell / 4).toInt64 * 1024 + by0 b n
def pcY (cell : Nat) (n b : Int64) : Int64 := (rmI (nI cell) 4).toInt64 * 1024 + by0 b n
theorem qi4 : ¬ (4 : Int32) = 0 := by decide
def pocX (gg sf : Int64) (X Y N BX BY : Nat → Int64) (k cell : Nat) : Int64 := N cell * plX gg sf (wayL (X k) (pcX cell (N cell) (BX cell))) (wayL (Y k) (pcY cell (N cell) (BY cell)))
theorem c_ofCellX (hp : Pu g) (h : Gr g G) (hk : k < 64) (hm : m < 16) : hf_rn 60 0 [some (.ref 238), some (.ref G), some (.int (nI k)), some (.int (nI m)), some (.int 1), none, none, none, none, none, none, none, none, none, none] [] g I J = some (.inl (some (.long (pocX (J 238 0) (J 238 1) (J (G + 2)) (J (G + 4)) (J 244) (J 246) (J 248) k m))), g, I, J) := by
  simp only [s60_0, s60_1, s60_4, s60_5, s60_8, s60_10, s60_11, s60_12, s60_13, s60_14, s60_17, s60_18, s60_19, s60_22, s60_23, s60_26, s60_28, s60_31, s60_32, s60_34, s60_35, s60_36, s60_37, s60_38, s60_41, s60_42, s60_43, s60_46, s60_47, s60_50, s60_52, s60_55, s60_56, s60_58, s60_59, s60_62, s60_63, s60_66, s60_68, s60_71, s60_73, s60_74, s60_77, s60_78, s60_81, s60_83, s60_86, s60_88, s60_90, s60_91, s60_93, s60_95, s60_97, s60_100, s60_101, hf_bd_v, hf_bd_n, hf_iv_i, hf_iv_l, hf_iv_a, hf_iv_n, hf_iv_2, z_lgl, z_lgg, z_lge, z_lgle, z_lgz, Option.getD_some, Option.isSome_some, ↓reduceIte, not_true_eq_false, not_false_eq_true, Option.toList_some, Option.toList_none, List.cons_append, List.nil_append, Nat.reduceAdd, Nat.add_assoc, ku_ne, ku_same, ne_eq, Nat.reduceEqDiff, reduceCtorEq, Nat.add_eq_left, Nat.left_eq_add, Nat.reduceEqDiff, q10, q_ne, true_or, or_true, gr_k h, gr_r0 h, gr_r1 h, gr_r2 h, gr_r3 h, pu_k hp, pu_r2 hp, pu_r3 hp, pu_r4 hp, pu_r5 hp, pu_r6 hp, (gr_rw1 h).1, (gr_rw3 h).1, c_get (gr_rw1 h) hk, c_get (gr_rw3 h) hk, q1024, qi4, (pu_rw243 hp).1, (pu_rw245 hp).1, (pu_rw247 hp).1, c_get (pu_rw243 hp) hm, c_get (pu_rw245 hp) hm, c_get (pu_rw247 hp) hm, c_by, c_way, c_pullFromX hp, pocX, pcX, pcY, rmI]
def pocY (gg sf : Int64) (X Y N BX BY : Nat → Int64) (k cell : Nat) : Int64 := N cell * plY gg sf (wayL (X k) (pcX cell (N cell) (BX cell))) (wayL (Y k) (pcY cell (N cell) (BY cell)))
theorem c_ofCellY (hp : Pu g) (h : Gr g G) (hk : k < 64) (hm : m < 16) : hf_rn 60 0 [some (.ref 238), some (.ref G), some (.int (nI k)), some (.int (nI m)), some (.int 0), none, none, none, none, none, none, none, none, none, none] [] g I J = some (.inl (some (.long (pocY (J 238 0) (J 238 1) (J (G + 2)) (J (G + 4)) (J 244) (J 246) (J 248) k m))), g, I, J) := by
  simp only [s60_0, s60_1, s60_4, s60_5, s60_8, s60_10, s60_11, s60_12, s60_13, s60_14, s60_17, s60_18, s60_19, s60_22, s60_23, s60_26, s60_28, s60_31, s60_32, s60_34, s60_35, s60_36, s60_37, s60_38, s60_41, s60_42, s60_43, s60_46, s60_47, s60_50, s60_52, s60_55, s60_56, s60_58, s60_59, s60_62, s60_63, s60_66, s60_68, s60_71, s60_73, s60_74, s60_77, s60_78, s60_81, s60_83, s60_86, s60_88, s60_90, s60_91, s60_93, s60_95, s60_97, s60_100, s60_101, hf_bd_v, hf_bd_n, hf_iv_i, hf_iv_l, hf_iv_a, hf_iv_n, hf_iv_2, z_lgl, z_lgg, z_lge, z_lgle, z_lgz, Option.getD_some, Option.isSome_some, ↓reduceIte, not_true_eq_false, not_false_eq_true, Option.toList_some, Option.toList_none, List.cons_append, List.nil_append, Nat.reduceAdd, Nat.add_assoc, ku_ne, ku_same, ne_eq, Nat.reduceEqDiff, reduceCtorEq, Nat.add_eq_left, Nat.left_eq_add, Nat.reduceEqDiff, q10, q_ne, true_or, or_true, gr_k h, gr_r0 h, gr_r1 h, gr_r2 h, gr_r3 h, pu_k hp, pu_r2 hp, pu_r3 hp, pu_r4 hp, pu_r5 hp, pu_r6 hp, (gr_rw1 h).1, (gr_rw3 h).1, c_get (gr_rw1 h) hk, c_get (gr_rw3 h) hk, q1024, qi4, (pu_rw243 hp).1, (pu_rw245 hp).1, (pu_rw247 hp).1, c_get (pu_rw243 hp) hm, c_get (pu_rw245 hp) hm, c_get (pu_rw247 hp) hm, c_by, c_way, c_pullFromY hp, pocY, pcX, pcY, rmI]

/-- the sums of the cells: how many, beyond the edges -/
def cs1 (c : Nat) (p : Nat → Bool) (cl : Nat → Nat) (f : Nat → Int64) (F0 : Nat → Int64) : Nat → Int64 := it c F0 fun k F => if p k = true then F else up F (cl k) (F (cl k) + f k)
def nsmX (gg sf : Int64) (c : Nat) (X Y : Nat → Int64) (k : Nat) : Int64 := it c 0 fun m s => if neL X Y k m = true then s + prX gg sf X Y k m else s
def bclX (J : hf_J) (G c k : Nat) (cl : Nat → Nat) : Int64 := it 16 (nsmX (J 238 0) (J 238 1) c (J (G + 2)) (J (G + 4)) k) fun t s => s + pocX (J 238 0) (J 238 1) (J (G + 2)) (J (G + 4)) (cs1 c (neL (J (G + 2)) (J (G + 4)) k) cl (fun _ => 1) (zeR J 244 16)) (cs1 c (neL (J (G + 2)) (J (G + 4)) k) cl (fun m => rmL (J (G + 2) m) 1024) (zeR J 246 16)) (cs1 c (neL (J (G + 2)) (J (G + 4)) k) cl (fun m => rmL (J (G + 4) m) 1024) (zeR J 248 16)) k t
theorem c_byCellsX (hp : Pu g) (h : Gr g G) (hG : G + 8 < 238) (hc : I G 5 = nI c) (hc2 : c ≤ 64) (hk : k < 64) (cl : Nat → Nat) (hcl : ∀ m, m < c → cl m < 16 ∧ clL (J (G + 2)) (J (G + 4)) m = nI (cl m)) : hf_rn 56 0 [some (.ref 238), some (.ref G), some (.int (nI k)), some (.int 1), none, none, none] [] g I J = some (.inl (some (.long (bclX J G c k cl))), g, I, w3 J 244 246 248 (cs1 c (neL (J (G + 2)) (J (G + 4)) k) cl (fun _ => 1) (zeR J 244 16)) (cs1 c (neL (J (G + 2)) (J (G + 4)) k) cl (fun m => rmL (J (G + 2) m) 1024) (zeR J 246 16)) (cs1 c (neL (J (G + 2)) (J (G + 4)) k) cl (fun m => rmL (J (G + 4) m) 1024) (zeR J 248 16))) := by
  have n1 : G + 2 ≠ 244 := by omega
  have n2 : G + 2 ≠ 246 := by omega
  have n3 : G + 2 ≠ 248 := by omega
  have n4 : G + 4 ≠ 244 := by omega
  have n5 : G + 4 ≠ 246 := by omega
  have n6 : G + 4 ≠ 248 := by omega
  have loop2 : ∀ (N BX BY : Nat → Int64) (s0 : Int64) (d t : Nat) (x : Int64), t + d = 16 → x = it t s0 (fun t s => s + pocX (J 238 0) (J 238 1) (J (G + 2)) (J (G + 4)) N BX BY k t) → hf_rn 56 94 [some (.ref 238), some (.ref G), some (.int (nI k)), some (.int 1), some (.long x), none, some (.int (nI t))] [] g I (w3 J 244 246 248 N BX BY) = some (.inl (some (.long (it 16 s0 (fun t s => s + pocX (J 238 0) (J 238 1) (J (G + 2)) (J (G + 4)) N BX BY k t)))), g, I, w3 J 244 246 248 N BX BY) := by
    intro N BX BY s0 d
    induction d with
    | zero =>
      intro t x ht hx
      have e : t = 16 := by omega
      subst e
      have h16 : (16 : Int32) ≤ nI 16 := by decide
      simp only [s56_94, s56_96, s56_98, s56_101, s56_103, s56_104, s56_105, s56_106, s56_108, s56_109, s56_112, s56_113, s56_115, s56_121, s56_123, hf_bd_v, hf_bd_n, hf_iv_i, hf_iv_l, hf_iv_a, hf_iv_n, hf_iv_2, z_lgl, z_lgg, z_lge, z_lgle, z_lgz, Option.getD_some, Option.isSome_some, ↓reduceIte, not_true_eq_false, not_false_eq_true, Option.toList_some, Option.toList_none, List.cons_append, List.nil_append, Nat.reduceAdd, Nat.add_assoc, ku_ne, ku_same, ne_eq, Nat.reduceEqDiff, reduceCtorEq, Nat.add_eq_left, Nat.left_eq_add, Nat.reduceEqDiff, q10, q_ne, true_or, or_true, h16, hx]
    | succ d ih =>
      intro t x ht hx
      have h16 : ((16 : Int32) ≤ nI t) = (16 ≤ t) := z_ii (a := 16) (by decide) (by omega)
      have hk1 : ¬ 16 ≤ t := by omega
      simp only [s56_94, s56_96, s56_98, s56_101, s56_103, s56_104, s56_105, s56_106, s56_108, s56_109, s56_112, s56_113, s56_115, hf_bd_v, hf_bd_n, hf_iv_i, hf_iv_l, hf_iv_a, hf_iv_n, hf_iv_2, z_lgl, z_lgg, z_lge, z_lgle, z_lgz, Option.getD_some, Option.isSome_some, ↓reduceIte, not_true_eq_false, not_false_eq_true, Option.toList_some, Option.toList_none, List.cons_append, List.nil_append, Nat.reduceAdd, Nat.add_assoc, ku_ne, ku_same, ne_eq, Nat.reduceEqDiff, reduceCtorEq, Nat.add_eq_left, Nat.left_eq_add, Nat.reduceEqDiff, q10, q_ne, true_or, or_true, h16, hk1, hp.1, c_ofCellX hp h hk (show t < 16 by omega), w3_n, w3_a, w3_b, w3_c, n1, n2, n3, n4, n5, n6, z_1]
      rw [s56_118]
      exact ih (t + 1) _ (by omega) (by rw [hx]; rfl)
  have loop : ∀ (d t : Nat) (N BX BY : Nat → Int64) (x : Int64), t + d = c → N = cs1 t (neL (J (G + 2)) (J (G + 4)) k) cl (fun _ => 1) (zeR J 244 16) → BX = cs1 t (neL (J (G + 2)) (J (G + 4)) k) cl (fun m => rmL (J (G + 2) m) 1024) (zeR J 246 16) → BY = cs1 t (neL (J (G + 2)) (J (G + 4)) k) cl (fun m => rmL (J (G + 4) m) 1024) (zeR J 248 16) → x = nsmX (J 238 0) (J 238 1) t (J (G + 2)) (J (G + 4)) k → hf_rn 56 30 [some (.ref 238), some (.ref G), some (.int (nI k)), some (.int 1), some (.long x), none, some (.int (nI t))] [] g I (w3 J 244 246 248 N BX BY) = some (.inl (some (.long (bclX J G c k cl))), g, I, w3 J 244 246 248 (cs1 c (neL (J (G + 2)) (J (G + 4)) k) cl (fun _ => 1) (zeR J 244 16)) (cs1 c (neL (J (G + 2)) (J (G + 4)) k) cl (fun m => rmL (J (G + 2) m) 1024) (zeR J 246 16)) (cs1 c (neL (J (G + 2)) (J (G + 4)) k) cl (fun m => rmL (J (G + 4) m) 1024) (zeR J 248 16))) := by
    intro d
    induction d with
    | zero =>
      intro t N BX BY x ht hN hBX hBY hx
      have e : t = c := by omega
      subst e
      simp only [s56_30, s56_32, s56_33, s56_36, s56_39, s56_40, s56_41, s56_43, s56_46, s56_49, s56_51, s56_52, s56_53, s56_54, s56_56, s56_57, s56_60, s56_61, s56_62, s56_64, s56_65, s56_68, s56_69, s56_72, s56_73, s56_75, s56_78, s56_79, s56_80, s56_82, s56_85, s56_91, s56_92, hf_bd_v, hf_bd_n, hf_iv_i, hf_iv_l, hf_iv_a, hf_iv_n, hf_iv_2, z_lgl, z_lgg, z_lge, z_lgle, z_lgz, Option.getD_some, Option.isSome_some, ↓reduceIte, not_true_eq_false, not_false_eq_true, Option.toList_some, Option.toList_none, List.cons_append, List.nil_append, Nat.reduceAdd, Nat.add_assoc, ku_ne, ku_same, ne_eq, Nat.reduceEqDiff, reduceCtorEq, Nat.add_eq_left, Nat.left_eq_add, Nat.reduceEqDiff, q10, q_ne, true_or, or_true, gr_k h, gr_r0 h, gr_r1 h, gr_r2 h, gr_r3 h, hc, z_ii (show t < 2147483648 by omega) (show t < 2147483648 by omega), Nat.le_refl]
      refine Eq.trans (loop2 N BX BY x 16 0 x rfl rfl) ?_
      rw [hN, hBX, hBY, hx]
      rfl
    | succ d ih =>
      intro t N BX BY x ht hN hBX hBY hx
      have hk1 : ¬ c ≤ t := by omega
      have ht64 : t < 64 := by omega
      obtain ⟨m1, m2⟩ := hcl t (by omega)
      have m3 : clL (w3 J 244 246 248 N BX BY (G + 2)) (w3 J 244 246 248 N BX BY (G + 4)) t = nI (cl t) := by rw [w3_n n1 n2 n3, w3_n n4 n5 n6]; exact m2
      cases hb : neL (J (G + 2)) (J (G + 4)) k t
      · simp only [s56_30, s56_32, s56_33, s56_36, s56_39, s56_40, s56_41, s56_43, s56_46, s56_49, s56_51, s56_52, s56_53, s56_54, s56_56, s56_57, s56_60, s56_61, s56_62, s56_64, s56_65, s56_68, s56_69, s56_72, s56_73, s56_75, s56_78, s56_79, s56_80, s56_82, s56_85, hf_bd_v, hf_bd_n, hf_iv_i, hf_iv_l, hf_iv_a, hf_iv_n, hf_iv_2, z_lgl, z_lgg, z_lge, z_lgle, z_lgz, Option.getD_some, Option.isSome_some, ↓reduceIte, not_true_eq_false, not_false_eq_true, Option.toList_some, Option.toList_none, List.cons_append, List.nil_append, Nat.reduceAdd, Nat.add_assoc, ku_ne, ku_same, ne_eq, Nat.reduceEqDiff, reduceCtorEq, Nat.add_eq_left, Nat.left_eq_add, Nat.reduceEqDiff, q10, q_ne, true_or, or_true, gr_k h, gr_r0 h, gr_r1 h, gr_r2 h, gr_r3 h, hc, z_ii (show c < 2147483648 by omega) (show t < 2147483648 by omega), hk1, z_1, hp.1, c_near h hk ht64, c_putIn hp h hG ht64 m1 m2, w3_n, n1, n2, n3, n4, n5, n6, hb, Bool.false_eq_true]
        rw [s56_88]
        exact ih (t + 1) _ _ _ _ (by omega) (by rw [hN, cs1, cs1, it_s, hb]; rfl) (by rw [hBX, cs1, cs1, it_s, hb]; rfl) (by rw [hBY, cs1, cs1, it_s, hb]; rfl) (by rw [hx, nsmX, nsmX, it_s, hb]; rfl)
      · simp only [s56_30, s56_32, s56_33, s56_36, s56_39, s56_40, s56_41, s56_43, s56_46, s56_49, s56_51, s56_52, s56_53, s56_54, s56_56, s56_57, s56_60, s56_61, s56_62, s56_64, s56_65, s56_68, s56_69, s56_72, s56_73, s56_75, s56_78, s56_79, s56_80, s56_82, s56_85, hf_bd_v, hf_bd_n, hf_iv_i, hf_iv_l, hf_iv_a, hf_iv_n, hf_iv_2, z_lgl, z_lgg, z_lge, z_lgle, z_lgz, Option.getD_some, Option.isSome_some, ↓reduceIte, not_true_eq_false, not_false_eq_true, Option.toList_some, Option.toList_none, List.cons_append, List.nil_append, Nat.reduceAdd, Nat.add_assoc, ku_ne, ku_same, ne_eq, Nat.reduceEqDiff, reduceCtorEq, Nat.add_eq_left, Nat.left_eq_add, Nat.reduceEqDiff, q10, q_ne, true_or, or_true, gr_k h, gr_r0 h, gr_r1 h, gr_r2 h, gr_r3 h, hc, z_ii (show c < 2147483648 by omega) (show t < 2147483648 by omega), hk1, z_1, hp.1, c_near h hk ht64, c_grwayX h hk ht64, c_grwayY h hk ht64, c_pullFromX hp, w3_n, n1, n2, n3, n4, n5, n6, hb]
        rw [s56_88]
        exact ih (t + 1) _ _ _ _ (by omega) (by rw [hN, cs1, cs1, it_s, hb]; rfl) (by rw [hBX, cs1, cs1, it_s, hb]; rfl) (by rw [hBY, cs1, cs1, it_s, hb]; rfl) (by rw [hx, nsmX, nsmX, it_s, hb]; rfl)
  have e : rwm (rwm (rwm J 244 16 (fun _ => 0)) 246 16 (fun _ => 0)) 248 16 (fun _ => 0) = w3 J 244 246 248 (zeR J 244 16) (zeR J 246 16) (zeR J 248 16) := by
    rw [rwm_w, rwm_w, rwm_w, w3]
    rw [kw_ne (show 248 ≠ 246 by decide), kw_ne (show 248 ≠ 244 by decide), kw_ne (show 246 ≠ 244 by decide)]
    rfl
  simp only [s56_0, s56_1, s56_4, s56_5, s56_8, s56_9, s56_12, s56_13, s56_16, s56_17, s56_20, s56_21, s56_24, s56_25, s56_27, s56_28, hf_bd_v, hf_bd_n, hf_iv_i, hf_iv_l, hf_iv_a, hf_iv_n, hf_iv_2, z_lgl, z_lgg, z_lge, z_lgle, z_lgz, Option.getD_some, Option.isSome_some, ↓reduceIte, not_true_eq_false, not_false_eq_true, Option.toList_some, Option.toList_none, List.cons_append, List.nil_append, Nat.reduceAdd, Nat.add_assoc, ku_ne, ku_same, ne_eq, Nat.reduceEqDiff, reduceCtorEq, Nat.add_eq_left, Nat.left_eq_add, Nat.reduceEqDiff, q10, q_ne, true_or, or_true, pu_k hp, pu_r2 hp, pu_r3 hp, pu_r4 hp, pu_r5 hp, pu_r6 hp, (pu_rw243 hp).1, (pu_rw245 hp).1, (pu_rw247 hp).1, c_fil (pu_rw243 hp), c_fil (pu_rw245 hp), c_fil (pu_rw247 hp), e]
  exact loop c 0 _ _ _ _ (by omega) rfl rfl rfl rfl
def nsmY (gg sf : Int64) (c : Nat) (X Y : Nat → Int64) (k : Nat) : Int64 := it c 0 fun m s => if neL X Y k m = true then s + prY gg sf X Y k m else s
def bclY (J : hf_J) (G c k : Nat) (cl : Nat → Nat) : Int64 := it 16 (nsmY (J 238 0) (J 238 1) c (J (G + 2)) (J (G + 4)) k) fun t s => s + pocY (J 238 0) (J 238 1) (J (G + 2)) (J (G + 4)) (cs1 c (neL (J (G + 2)) (J (G + 4)) k) cl (fun _ => 1) (zeR J 244 16)) (cs1 c (neL (J (G + 2)) (J (G + 4)) k) cl (fun m => rmL (J (G + 2) m) 1024) (zeR J 246 16)) (cs1 c (neL (J (G + 2)) (J (G + 4)) k) cl (fun m => rmL (J (G + 4) m) 1024) (zeR J 248 16)) k t
theorem c_byCellsY (hp : Pu g) (h : Gr g G) (hG : G + 8 < 238) (hc : I G 5 = nI c) (hc2 : c ≤ 64) (hk : k < 64) (cl : Nat → Nat) (hcl : ∀ m, m < c → cl m < 16 ∧ clL (J (G + 2)) (J (G + 4)) m = nI (cl m)) : hf_rn 56 0 [some (.ref 238), some (.ref G), some (.int (nI k)), some (.int 0), none, none, none] [] g I J = some (.inl (some (.long (bclY J G c k cl))), g, I, w3 J 244 246 248 (cs1 c (neL (J (G + 2)) (J (G + 4)) k) cl (fun _ => 1) (zeR J 244 16)) (cs1 c (neL (J (G + 2)) (J (G + 4)) k) cl (fun m => rmL (J (G + 2) m) 1024) (zeR J 246 16)) (cs1 c (neL (J (G + 2)) (J (G + 4)) k) cl (fun m => rmL (J (G + 4) m) 1024) (zeR J 248 16))) := by
  have n1 : G + 2 ≠ 244 := by omega
  have n2 : G + 2 ≠ 246 := by omega
  have n3 : G + 2 ≠ 248 := by omega
  have n4 : G + 4 ≠ 244 := by omega
  have n5 : G + 4 ≠ 246 := by omega
  have n6 : G + 4 ≠ 248 := by omega
  have loop2 : ∀ (N BX BY : Nat → Int64) (s0 : Int64) (d t : Nat) (x : Int64), t + d = 16 → x = it t s0 (fun t s => s + pocY (J 238 0) (J 238 1) (J (G + 2)) (J (G + 4)) N BX BY k t) → hf_rn 56 94 [some (.ref 238), some (.ref G), some (.int (nI k)), some (.int 0), some (.long x), none, some (.int (nI t))] [] g I (w3 J 244 246 248 N BX BY) = some (.inl (some (.long (it 16 s0 (fun t s => s + pocY (J 238 0) (J 238 1) (J (G + 2)) (J (G + 4)) N BX BY k t)))), g, I, w3 J 244 246 248 N BX BY) := by
    intro N BX BY s0 d
    induction d with
    | zero =>
      intro t x ht hx
      have e : t = 16 := by omega
      subst e
      have h16 : (16 : Int32) ≤ nI 16 := by decide
      simp only [s56_94, s56_96, s56_98, s56_101, s56_103, s56_104, s56_105, s56_106, s56_108, s56_109, s56_112, s56_113, s56_115, s56_121, s56_123, hf_bd_v, hf_bd_n, hf_iv_i, hf_iv_l, hf_iv_a, hf_iv_n, hf_iv_2, z_lgl, z_lgg, z_lge, z_lgle, z_lgz, Option.getD_some, Option.isSome_some, ↓reduceIte, not_true_eq_false, not_false_eq_true, Option.toList_some, Option.toList_none, List.cons_append, List.nil_append, Nat.reduceAdd, Nat.add_assoc, ku_ne, ku_same, ne_eq, Nat.reduceEqDiff, reduceCtorEq, Nat.add_eq_left, Nat.left_eq_add, Nat.reduceEqDiff, q10, q_ne, true_or, or_true, h16, hx]
    | succ d ih =>
      intro t x ht hx
      have h16 : ((16 : Int32) ≤ nI t) = (16 ≤ t) := z_ii (a := 16) (by decide) (by omega)
      have hk1 : ¬ 16 ≤ t := by omega
      simp only [s56_94, s56_96, s56_98, s56_101, s56_103, s56_104, s56_105, s56_106, s56_108, s56_109, s56_112, s56_113, s56_115, hf_bd_v, hf_bd_n, hf_iv_i, hf_iv_l, hf_iv_a, hf_iv_n, hf_iv_2, z_lgl, z_lgg, z_lge, z_lgle, z_lgz, Option.getD_some, Option.isSome_some, ↓reduceIte, not_true_eq_false, not_false_eq_true, Option.toList_some, Option.toList_none, List.cons_append, List.nil_append, Nat.reduceAdd, Nat.add_assoc, ku_ne, ku_same, ne_eq, Nat.reduceEqDiff, reduceCtorEq, Nat.add_eq_left, Nat.left_eq_add, Nat.reduceEqDiff, q10, q_ne, true_or, or_true, h16, hk1, hp.1, c_ofCellY hp h hk (show t < 16 by omega), w3_n, w3_a, w3_b, w3_c, n1, n2, n3, n4, n5, n6, z_1]
      rw [s56_118]
      exact ih (t + 1) _ (by omega) (by rw [hx]; rfl)
  have loop : ∀ (d t : Nat) (N BX BY : Nat → Int64) (x : Int64), t + d = c → N = cs1 t (neL (J (G + 2)) (J (G + 4)) k) cl (fun _ => 1) (zeR J 244 16) → BX = cs1 t (neL (J (G + 2)) (J (G + 4)) k) cl (fun m => rmL (J (G + 2) m) 1024) (zeR J 246 16) → BY = cs1 t (neL (J (G + 2)) (J (G + 4)) k) cl (fun m => rmL (J (G + 4) m) 1024) (zeR J 248 16) → x = nsmY (J 238 0) (J 238 1) t (J (G + 2)) (J (G + 4)) k → hf_rn 56 30 [some (.ref 238), some (.ref G), some (.int (nI k)), some (.int 0), some (.long x), none, some (.int (nI t))] [] g I (w3 J 244 246 248 N BX BY) = some (.inl (some (.long (bclY J G c k cl))), g, I, w3 J 244 246 248 (cs1 c (neL (J (G + 2)) (J (G + 4)) k) cl (fun _ => 1) (zeR J 244 16)) (cs1 c (neL (J (G + 2)) (J (G + 4)) k) cl (fun m => rmL (J (G + 2) m) 1024) (zeR J 246 16)) (cs1 c (neL (J (G + 2)) (J (G + 4)) k) cl (fun m => rmL (J (G + 4) m) 1024) (zeR J 248 16))) := by
    intro d
    induction d with
    | zero =>
      intro t N BX BY x ht hN hBX hBY hx
      have e : t = c := by omega
      subst e
      simp only [s56_30, s56_32, s56_33, s56_36, s56_39, s56_40, s56_41, s56_43, s56_46, s56_49, s56_51, s56_52, s56_53, s56_54, s56_56, s56_57, s56_60, s56_61, s56_62, s56_64, s56_65, s56_68, s56_69, s56_72, s56_73, s56_75, s56_78, s56_79, s56_80, s56_82, s56_85, s56_91, s56_92, hf_bd_v, hf_bd_n, hf_iv_i, hf_iv_l, hf_iv_a, hf_iv_n, hf_iv_2, z_lgl, z_lgg, z_lge, z_lgle, z_lgz, Option.getD_some, Option.isSome_some, ↓reduceIte, not_true_eq_false, not_false_eq_true, Option.toList_some, Option.toList_none, List.cons_append, List.nil_append, Nat.reduceAdd, Nat.add_assoc, ku_ne, ku_same, ne_eq, Nat.reduceEqDiff, reduceCtorEq, Nat.add_eq_left, Nat.left_eq_add, Nat.reduceEqDiff, q10, q_ne, true_or, or_true, gr_k h, gr_r0 h, gr_r1 h, gr_r2 h, gr_r3 h, hc, z_ii (show t < 2147483648 by omega) (show t < 2147483648 by omega), Nat.le_refl]
      refine Eq.trans (loop2 N BX BY x 16 0 x rfl rfl) ?_
      rw [hN, hBX, hBY, hx]
      rfl
    | succ d ih =>
      intro t N BX BY x ht hN hBX hBY hx
      have hk1 : ¬ c ≤ t := by omega
      have ht64 : t < 64 := by omega
      obtain ⟨m1, m2⟩ := hcl t (by omega)
      have m3 : clL (w3 J 244 246 248 N BX BY (G + 2)) (w3 J 244 246 248 N BX BY (G + 4)) t = nI (cl t) := by rw [w3_n n1 n2 n3, w3_n n4 n5 n6]; exact m2
      cases hb : neL (J (G + 2)) (J (G + 4)) k t
      · simp only [s56_30, s56_32, s56_33, s56_36, s56_39, s56_40, s56_41, s56_43, s56_46, s56_49, s56_51, s56_52, s56_53, s56_54, s56_56, s56_57, s56_60, s56_61, s56_62, s56_64, s56_65, s56_68, s56_69, s56_72, s56_73, s56_75, s56_78, s56_79, s56_80, s56_82, s56_85, hf_bd_v, hf_bd_n, hf_iv_i, hf_iv_l, hf_iv_a, hf_iv_n, hf_iv_2, z_lgl, z_lgg, z_lge, z_lgle, z_lgz, Option.getD_some, Option.isSome_some, ↓reduceIte, not_true_eq_false, not_false_eq_true, Option.toList_some, Option.toList_none, List.cons_append, List.nil_append, Nat.reduceAdd, Nat.add_assoc, ku_ne, ku_same, ne_eq, Nat.reduceEqDiff, reduceCtorEq, Nat.add_eq_left, Nat.left_eq_add, Nat.reduceEqDiff, q10, q_ne, true_or, or_true, gr_k h, gr_r0 h, gr_r1 h, gr_r2 h, gr_r3 h, hc, z_ii (show c < 2147483648 by omega) (show t < 2147483648 by omega), hk1, z_1, hp.1, c_near h hk ht64, c_putIn hp h hG ht64 m1 m2, w3_n, n1, n2, n3, n4, n5, n6, hb, Bool.false_eq_true]
        rw [s56_88]
        exact ih (t + 1) _ _ _ _ (by omega) (by rw [hN, cs1, cs1, it_s, hb]; rfl) (by rw [hBX, cs1, cs1, it_s, hb]; rfl) (by rw [hBY, cs1, cs1, it_s, hb]; rfl) (by rw [hx, nsmY, nsmY, it_s, hb]; rfl)
      · simp only [s56_30, s56_32, s56_33, s56_36, s56_39, s56_40, s56_41, s56_43, s56_46, s56_49, s56_51, s56_52, s56_53, s56_54, s56_56, s56_57, s56_60, s56_61, s56_62, s56_64, s56_65, s56_68, s56_69, s56_72, s56_73, s56_75, s56_78, s56_79, s56_80, s56_82, s56_85, hf_bd_v, hf_bd_n, hf_iv_i, hf_iv_l, hf_iv_a, hf_iv_n, hf_iv_2, z_lgl, z_lgg, z_lge, z_lgle, z_lgz, Option.getD_some, Option.isSome_some, ↓reduceIte, not_true_eq_false, not_false_eq_true, Option.toList_some, Option.toList_none, List.cons_append, List.nil_append, Nat.reduceAdd, Nat.add_assoc, ku_ne, ku_same, ne_eq, Nat.reduceEqDiff, reduceCtorEq, Nat.add_eq_left, Nat.left_eq_add, Nat.reduceEqDiff, q10, q_ne, true_or, or_true, gr_k h, gr_r0 h, gr_r1 h, gr_r2 h, gr_r3 h, hc, z_ii (show c < 2147483648 by omega) (show t < 2147483648 by omega), hk1, z_1, hp.1, c_near h hk ht64, c_grwayX h hk ht64, c_grwayY h hk ht64, c_pullFromY hp, w3_n, n1, n2, n3, n4, n5, n6, hb]
        rw [s56_88]
        exact ih (t + 1) _ _ _ _ (by omega) (by rw [hN, cs1, cs1, it_s, hb]; rfl) (by rw [hBX, cs1, cs1, it_s, hb]; rfl) (by rw [hBY, cs1, cs1, it_s, hb]; rfl) (by rw [hx, nsmY, nsmY, it_s, hb]; rfl)
  have e : rwm (rwm (rwm J 244 16 (fun _ => 0)) 246 16 (fun _ => 0)) 248 16 (fun _ => 0) = w3 J 244 246 248 (zeR J 244 16) (zeR J 246 16) (zeR J 248 16) := by
    rw [rwm_w, rwm_w, rwm_w, w3]
    rw [kw_ne (show 248 ≠ 246 by decide), kw_ne (show 248 ≠ 244 by decide), kw_ne (show 246 ≠ 244 by decide)]
    rfl
  simp only [s56_0, s56_1, s56_4, s56_5, s56_8, s56_9, s56_12, s56_13, s56_16, s56_17, s56_20, s56_21, s56_24, s56_25, s56_27, s56_28, hf_bd_v, hf_bd_n, hf_iv_i, hf_iv_l, hf_iv_a, hf_iv_n, hf_iv_2, z_lgl, z_lgg, z_lge, z_lgle, z_lgz, Option.getD_some, Option.isSome_some, ↓reduceIte, not_true_eq_false, not_false_eq_true, Option.toList_some, Option.toList_none, List.cons_append, List.nil_append, Nat.reduceAdd, Nat.add_assoc, ku_ne, ku_same, ne_eq, Nat.reduceEqDiff, reduceCtorEq, Nat.add_eq_left, Nat.left_eq_add, Nat.reduceEqDiff, q10, q_ne, true_or, or_true, pu_k hp, pu_r2 hp, pu_r3 hp, pu_r4 hp, pu_r5 hp, pu_r6 hp, (pu_rw243 hp).1, (pu_rw245 hp).1, (pu_rw247 hp).1, c_fil (pu_rw243 hp), c_fil (pu_rw245 hp), c_fil (pu_rw247 hp), e]
  exact loop c 0 _ _ _ _ (by omega) rfl rfl rfl rfl
end
