/-! GRAINS, the loops -/
section
variable {g : hf_G} {I : hf_I} {J : hf_J} {G c s k m rx ry : Nat} {v w kx ky am ph : Int64} {i j : Int32}
def dgL (k : Nat) : Int64 := lZ (2048 / 2 ^ k : Nat)
theorem dgL_s : ∀ k, k < 12 → dgL k / 2 = dgL (k + 1) := by decide
theorem dgL_p : ∀ k, k < 12 → ¬ dgL k ≤ 0 := by decide
def rtL (q : Int64) (k : Nat) : Int64 := it k 0 fun k r => if (r + dgL k) * (r + dgL k) ≤ q then r + dgL k else r
theorem q2 : ¬ (2 : Int64) = 0 := by decide
theorem c_far : hf_rn 64 0 [some (.long v), none, some (.long w), none, none, none, none, none, none, none, none, none] [] g I J = some (.inl (some (.long (rtL (sqL v w) 12))), g, I, J) := by
  have loop : ∀ (d k : Nat) (x y : Int64) (l10 l11 : Option Value), k + d = 12 → x = rtL (sqL v w) k → y = dgL k → hf_rn 64 17 [some (.long v), none, some (.long w), none, some (.long (sqL v w)), none, some (.long x), none, some (.long y), none, l10, l11] [] g I J = some (.inl (some (.long (rtL (sqL v w) 12))), g, I, J) := by
    intro d
    induction d with
    | zero =>
      intro k x y l10 l11 hk hx hy
      have e : k = 12 := by omega
      subst e
      have h0 : dgL 12 ≤ 0 := by decide
      subst hx hy
      simp only [s64_0, s64_1, s64_2, s64_3, s64_4, s64_5, s64_6, s64_7, s64_9, s64_10, s64_12, s64_15, s64_17, s64_19, s64_20, s64_21, s64_24, s64_26, s64_28, s64_29, s64_31, s64_33, s64_35, s64_36, s64_38, s64_39, s64_42, s64_44, s64_46, s64_48, s64_51, s64_52, s64_57, s64_59, hf_bd_v, hf_bd_n, hf_iv_i, hf_iv_l, hf_iv_a, hf_iv_n, hf_iv_2, z_lgl, z_lgg, z_lge, z_lgle, z_lgz, Option.getD_some, Option.isSome_some, ↓reduceIte, not_true_eq_false, not_false_eq_true, Option.toList_some, Option.toList_none, List.cons_append, List.nil_append, Nat.reduceAdd, Nat.add_assoc, ku_ne, ku_same, ne_eq, Nat.reduceEqDiff, reduceCtorEq, Nat.add_eq_left, Nat.left_eq_add, Nat.reduceEqDiff, q10, q_ne, true_or, or_true, h0]
    | succ d ih =>
      intro k x y l10 l11 hk hx hy
      have hb := dgL_p k (by omega)
      have hs := dgL_s k (by omega)
      subst hy
      by_cases hc : (x + dgL k) * (x + dgL k) ≤ sqL v w
      · have hc2 : ¬ sqL v w < (x + dgL k) * (x + dgL k) := by rw [Int64.lt_iff_toInt_lt]; rw [Int64.le_iff_toInt_le] at hc; omega
        simp only [s64_17, s64_19, s64_20, s64_21, s64_24, s64_26, s64_28, s64_29, s64_31, s64_33, s64_35, s64_36, s64_38, s64_39, s64_42, s64_44, s64_46, s64_48, s64_51, s64_52, hf_bd_v, hf_bd_n, hf_iv_i, hf_iv_l, hf_iv_a, hf_iv_n, hf_iv_2, z_lgl, z_lgg, z_lge, z_lgle, z_lgz, Option.getD_some, Option.isSome_some, ↓reduceIte, not_true_eq_false, not_false_eq_true, Option.toList_some, Option.toList_none, List.cons_append, List.nil_append, Nat.reduceAdd, Nat.add_assoc, ku_ne, ku_same, ne_eq, Nat.reduceEqDiff, reduceCtorEq, Nat.add_eq_left, Nat.left_eq_add, Nat.reduceEqDiff, q10, q_ne, true_or, or_true, hb, hc2, q2, hs]
        rw [s64_54]
        exact ih _ _ _ _ _ (by omega) (by rw [rtL, it_s, if_pos (by rw [hx] at hc; exact hc), hx]; rfl) rfl
      · have hc2 : sqL v w < (x + dgL k) * (x + dgL k) := by rw [Int64.lt_iff_toInt_lt]; rw [Int64.le_iff_toInt_le] at hc; omega
        simp only [s64_17, s64_19, s64_20, s64_21, s64_24, s64_26, s64_28, s64_29, s64_31, s64_33, s64_35, s64_36, s64_38, s64_39, s64_42, s64_44, s64_46, s64_48, s64_51, s64_52, hf_bd_v, hf_bd_n, hf_iv_i, hf_iv_l, hf_iv_a, hf_iv_n, hf_iv_2, z_lgl, z_lgg, z_lge, z_lgle, z_lgz, Option.getD_some, Option.isSome_some, ↓reduceIte, not_true_eq_false, not_false_eq_true, Option.toList_some, Option.toList_none, List.cons_append, List.nil_append, Nat.reduceAdd, Nat.add_assoc, ku_ne, ku_same, ne_eq, Nat.reduceEqDiff, reduceCtorEq, Nat.add_eq_left, Nat.left_eq_add, Nat.reduceEqDiff, q10, q_ne, true_or, or_true, hb, hc2, q2, hs]
        rw [s64_54]
        exact ih _ _ _ _ _ (by omega) (by rw [rtL, it_s, if_neg (by rw [hx] at hc; exact hc), hx]; rfl) rfl
  have h0 : (v * v + w * w) = sqL v w := rfl
  simp only [s64_0, s64_1, s64_2, s64_3, s64_4, s64_5, s64_6, s64_7, s64_9, s64_10, s64_12, s64_15, hf_bd_v, hf_bd_n, hf_iv_i, hf_iv_l, hf_iv_a, hf_iv_n, hf_iv_2, z_lgl, z_lgg, z_lge, z_lgle, z_lgz, Option.getD_some, Option.isSome_some, ↓reduceIte, not_true_eq_false, not_false_eq_true, Option.toList_some, Option.toList_none, List.cons_append, List.nil_append, Nat.reduceAdd, Nat.add_assoc, ku_ne, ku_same, ne_eq, Nat.reduceEqDiff, reduceCtorEq, Nat.add_eq_left, Nat.left_eq_add, Nat.reduceEqDiff, q10, q_ne, true_or, or_true, h0]
  exact loop 12 0 _ _ _ _ rfl rfl rfl
def farL (X Y : Nat → Int64) (k m : Nat) : Int64 := rtL (sqL (wayL (X k) (X m)) (wayL (Y k) (Y m))) 12
theorem c_farBetween (h : Gr g G) (hk : k < 64) (hm : m < 64) : hf_rn 34 0 [some (.ref G), some (.int (nI k)), some (.int (nI m))] [] g I J = some (.inl (some (.long (farL (J (G + 2)) (J (G + 4)) k m))), g, I, J) := by
  simp only [s34_0, s34_1, s34_2, s34_3, s34_4, s34_7, s34_8, s34_9, s34_10, s34_11, s34_14, s34_17, hf_bd_v, hf_bd_n, hf_iv_i, hf_iv_l, hf_iv_a, hf_iv_n, hf_iv_2, z_lgl, z_lgg, z_lge, z_lgle, z_lgz, Option.getD_some, Option.isSome_some, ↓reduceIte, not_true_eq_false, not_false_eq_true, Option.toList_some, Option.toList_none, List.cons_append, List.nil_append, Nat.reduceAdd, Nat.add_assoc, ku_ne, ku_same, ne_eq, Nat.reduceEqDiff, reduceCtorEq, Nat.add_eq_left, Nat.left_eq_add, Nat.reduceEqDiff, q10, q_ne, true_or, or_true, gr_k h, gr_r0 h, gr_r1 h, gr_r2 h, gr_r3 h, c_grwayX h hk hm, c_grwayY h hk hm, c_far, farL]
def valL (X Y U W : Nat → Int64) (k m : Nat) : Int64 := if m = 0 then X k else if m = 1 then Y k else if m = 2 then U k else W k
theorem c_grval (h : Gr g G) (hk : k < 64) (hm : m < 4) : hf_rn 30 0 [some (.ref G), some (.int (nI k)), some (.int (nI m))] [] g I J = some (.inl (some (.long (valL (J (G + 2)) (J (G + 4)) (J (G + 6)) (J (G + 8)) k m))), g, I, J) := by
  have e1 : ((2 : Int32) ≤ nI m) = (2 ≤ m) := z_ii (a := 2) (by decide) (by omega)
  have e2 : (nI m = 2) = (m = 2) := z_ie (b := 2) (by omega) (by decide)
  have e3 : (nI m = 0) = (m = 0) := z_ie (b := 0) (by omega) (by decide)
  match m, hm with
  | 0, _ => simp only [s30_0, s30_1, s30_2, s30_5, s30_6, s30_7, s30_10, s30_11, s30_14, s30_15, s30_18, s30_21, s30_22, s30_23, s30_24, s30_27, s30_28, s30_31, s30_32, s30_35, s30_36, s30_39, hf_bd_v, hf_bd_n, hf_iv_i, hf_iv_l, hf_iv_a, hf_iv_n, hf_iv_2, z_lgl, z_lgg, z_lge, z_lgle, z_lgz, Option.getD_some, Option.isSome_some, ↓reduceIte, not_true_eq_false, not_false_eq_true, Option.toList_some, Option.toList_none, List.cons_append, List.nil_append, Nat.reduceAdd, Nat.add_assoc, ku_ne, ku_same, ne_eq, Nat.reduceEqDiff, reduceCtorEq, Nat.add_eq_left, Nat.left_eq_add, Nat.reduceEqDiff, q10, q_ne, true_or, or_true, gr_k h, gr_r0 h, gr_r1 h, gr_r2 h, gr_r3 h, e1, e2, e3, c_placesX h, c_placesY h, c_speedsX h, c_speedsY h, (gr_rw1 h).1, c_get (gr_rw1 h) hk, Nat.reduceLeDiff, valL]
  | 1, _ => simp only [s30_0, s30_1, s30_2, s30_5, s30_6, s30_7, s30_10, s30_11, s30_14, s30_15, s30_18, s30_21, s30_22, s30_23, s30_24, s30_27, s30_28, s30_31, s30_32, s30_35, s30_36, s30_39, hf_bd_v, hf_bd_n, hf_iv_i, hf_iv_l, hf_iv_a, hf_iv_n, hf_iv_2, z_lgl, z_lgg, z_lge, z_lgle, z_lgz, Option.getD_some, Option.isSome_some, ↓reduceIte, not_true_eq_false, not_false_eq_true, Option.toList_some, Option.toList_none, List.cons_append, List.nil_append, Nat.reduceAdd, Nat.add_assoc, ku_ne, ku_same, ne_eq, Nat.reduceEqDiff, reduceCtorEq, Nat.add_eq_left, Nat.left_eq_add, Nat.reduceEqDiff, q10, q_ne, true_or, or_true, gr_k h, gr_r0 h, gr_r1 h, gr_r2 h, gr_r3 h, e1, e2, e3, c_placesX h, c_placesY h, c_speedsX h, c_speedsY h, (gr_rw3 h).1, c_get (gr_rw3 h) hk, Nat.reduceLeDiff, valL]
  | 2, _ => simp only [s30_0, s30_1, s30_2, s30_5, s30_6, s30_7, s30_10, s30_11, s30_14, s30_15, s30_18, s30_21, s30_22, s30_23, s30_24, s30_27, s30_28, s30_31, s30_32, s30_35, s30_36, s30_39, hf_bd_v, hf_bd_n, hf_iv_i, hf_iv_l, hf_iv_a, hf_iv_n, hf_iv_2, z_lgl, z_lgg, z_lge, z_lgle, z_lgz, Option.getD_some, Option.isSome_some, ↓reduceIte, not_true_eq_false, not_false_eq_true, Option.toList_some, Option.toList_none, List.cons_append, List.nil_append, Nat.reduceAdd, Nat.add_assoc, ku_ne, ku_same, ne_eq, Nat.reduceEqDiff, reduceCtorEq, Nat.add_eq_left, Nat.left_eq_add, Nat.reduceEqDiff, q10, q_ne, true_or, or_true, gr_k h, gr_r0 h, gr_r1 h, gr_r2 h, gr_r3 h, e1, e2, e3, c_placesX h, c_placesY h, c_speedsX h, c_speedsY h, (gr_rw5 h).1, c_get (gr_rw5 h) hk, Nat.reduceLeDiff, valL]
  | 3, _ => simp only [s30_0, s30_1, s30_2, s30_5, s30_6, s30_7, s30_10, s30_11, s30_14, s30_15, s30_18, s30_21, s30_22, s30_23, s30_24, s30_27, s30_28, s30_31, s30_32, s30_35, s30_36, s30_39, hf_bd_v, hf_bd_n, hf_iv_i, hf_iv_l, hf_iv_a, hf_iv_n, hf_iv_2, z_lgl, z_lgg, z_lge, z_lgle, z_lgz, Option.getD_some, Option.isSome_some, ↓reduceIte, not_true_eq_false, not_false_eq_true, Option.toList_some, Option.toList_none, List.cons_append, List.nil_append, Nat.reduceAdd, Nat.add_assoc, ku_ne, ku_same, ne_eq, Nat.reduceEqDiff, reduceCtorEq, Nat.add_eq_left, Nat.left_eq_add, Nat.reduceEqDiff, q10, q_ne, true_or, or_true, gr_k h, gr_r0 h, gr_r1 h, gr_r2 h, gr_r3 h, e1, e2, e3, c_placesX h, c_placesY h, c_speedsX h, c_speedsY h, (gr_rw7 h).1, c_get (gr_rw7 h) hk, Nat.reduceLeDiff, valL]
/-- what bitCount answers -/
def smA (c : Nat) (f : Nat → Int64) : Int64 := it c 0 fun k s => s + f k
def smP (c : Nat) (p : Nat → Bool) (f : Nat → Int64) : Int64 := it c 0 fun k s => if p k = true then s + f k else s
theorem c_sumX (h : Gr g G) (hc : I G 5 = nI c) (hc2 : c ≤ 64) : hf_rn 35 0 [some (.ref G), some (.int 1), none, none, none, none] [] g I J = some (.inl (some (.long (smA c (J (G + 6))))), g, I, J) := by
  have loop : ∀ (d k : Nat) (x : Int64), k + d = c → x = smA k (J (G + 6)) → hf_rn 35 11 [some (.ref G), some (.int 1), some (.ref (G + 5)), some (.long x), none, some (.int (nI k))] [] g I J = some (.inl (some (.long (smA c (J (G + 6))))), g, I, J) := by
    intro d
    induction d with
    | zero =>
      intro k x hk hx
      have e : k = c := by omega
      subst e
      simp only [s35_0, s35_1, s35_2, s35_5, s35_6, s35_7, s35_8, s35_9, s35_11, s35_13, s35_14, s35_17, s35_20, s35_21, s35_22, s35_24, s35_27, s35_28, s35_29, s35_35, s35_36, hf_bd_v, hf_bd_n, hf_iv_i, hf_iv_l, hf_iv_a, hf_iv_n, hf_iv_2, z_lgl, z_lgg, z_lge, z_lgle, z_lgz, Option.getD_some, Option.isSome_some, ↓reduceIte, not_true_eq_false, not_false_eq_true, Option.toList_some, Option.toList_none, List.cons_append, List.nil_append, Nat.reduceAdd, Nat.add_assoc, ku_ne, ku_same, ne_eq, Nat.reduceEqDiff, reduceCtorEq, Nat.add_eq_left, Nat.left_eq_add, Nat.reduceEqDiff, q10, q_ne, true_or, or_true, gr_k h, gr_r0 h, gr_r1 h, gr_r2 h, gr_r3 h, hc, hx, z_ii (show k < 2147483648 by omega) (show k < 2147483648 by omega), Nat.le_refl]
    | succ d ih =>
      intro k x hk hx
      have hk1 : ¬ c ≤ k := by omega
      simp only [s35_11, s35_13, s35_14, s35_17, s35_20, s35_21, s35_22, s35_24, s35_27, s35_28, s35_29, hf_bd_v, hf_bd_n, hf_iv_i, hf_iv_l, hf_iv_a, hf_iv_n, hf_iv_2, z_lgl, z_lgg, z_lge, z_lgle, z_lgz, Option.getD_some, Option.isSome_some, ↓reduceIte, not_true_eq_false, not_false_eq_true, Option.toList_some, Option.toList_none, List.cons_append, List.nil_append, Nat.reduceAdd, Nat.add_assoc, ku_ne, ku_same, ne_eq, Nat.reduceEqDiff, reduceCtorEq, Nat.add_eq_left, Nat.left_eq_add, Nat.reduceEqDiff, q10, q_ne, true_or, or_true, gr_k h, gr_r0 h, gr_r1 h, gr_r2 h, gr_r3 h, hc, z_ii (show c < 2147483648 by omega) (show k < 2147483648 by omega), hk1, (gr_rw5 h).1, c_get (gr_rw5 h) (show k < 64 by omega), z_1]
      rw [s35_32]
      exact ih _ _ (by omega) (by rw [hx]; rfl)
  simp only [s35_0, s35_1, s35_2, s35_5, s35_6, s35_7, s35_8, s35_9, hf_bd_v, hf_bd_n, hf_iv_i, hf_iv_l, hf_iv_a, hf_iv_n, hf_iv_2, z_lgl, z_lgg, z_lge, z_lgle, z_lgz, Option.getD_some, Option.isSome_some, ↓reduceIte, not_true_eq_false, not_false_eq_true, Option.toList_some, Option.toList_none, List.cons_append, List.nil_append, Nat.reduceAdd, Nat.add_assoc, ku_ne, ku_same, ne_eq, Nat.reduceEqDiff, reduceCtorEq, Nat.add_eq_left, Nat.left_eq_add, Nat.reduceEqDiff, q10, q_ne, true_or, or_true, c_speedsX h, gr_k h, gr_r0 h, gr_r1 h, gr_r2 h, gr_r3 h]
  exact loop c 0 0 (by omega) rfl
theorem c_sumY (h : Gr g G) (hc : I G 5 = nI c) (hc2 : c ≤ 64) : hf_rn 35 0 [some (.ref G), some (.int 0), none, none, none, none] [] g I J = some (.inl (some (.long (smA c (J (G + 8))))), g, I, J) := by
  have loop : ∀ (d k : Nat) (x : Int64), k + d = c → x = smA k (J (G + 8)) → hf_rn 35 11 [some (.ref G), some (.int 0), some (.ref (G + 7)), some (.long x), none, some (.int (nI k))] [] g I J = some (.inl (some (.long (smA c (J (G + 8))))), g, I, J) := by
    intro d
    induction d with
    | zero =>
      intro k x hk hx
      have e : k = c := by omega
      subst e
      simp only [s35_0, s35_1, s35_2, s35_5, s35_6, s35_7, s35_8, s35_9, s35_11, s35_13, s35_14, s35_17, s35_20, s35_21, s35_22, s35_24, s35_27, s35_28, s35_29, s35_35, s35_36, hf_bd_v, hf_bd_n, hf_iv_i, hf_iv_l, hf_iv_a, hf_iv_n, hf_iv_2, z_lgl, z_lgg, z_lge, z_lgle, z_lgz, Option.getD_some, Option.isSome_some, ↓reduceIte, not_true_eq_false, not_false_eq_true, Option.toList_some, Option.toList_none, List.cons_append, List.nil_append, Nat.reduceAdd, Nat.add_assoc, ku_ne, ku_same, ne_eq, Nat.reduceEqDiff, reduceCtorEq, Nat.add_eq_left, Nat.left_eq_add, Nat.reduceEqDiff, q10, q_ne, true_or, or_true, gr_k h, gr_r0 h, gr_r1 h, gr_r2 h, gr_r3 h, hc, hx, z_ii (show k < 2147483648 by omega) (show k < 2147483648 by omega), Nat.le_refl]
    | succ d ih =>
      intro k x hk hx
      have hk1 : ¬ c ≤ k := by omega
      simp only [s35_11, s35_13, s35_14, s35_17, s35_20, s35_21, s35_22, s35_24, s35_27, s35_28, s35_29, hf_bd_v, hf_bd_n, hf_iv_i, hf_iv_l, hf_iv_a, hf_iv_n, hf_iv_2, z_lgl, z_lgg, z_lge, z_lgle, z_lgz, Option.getD_some, Option.isSome_some, ↓reduceIte, not_true_eq_false, not_false_eq_true, Option.toList_some, Option.toList_none, List.cons_append, List.nil_append, Nat.reduceAdd, Nat.add_assoc, ku_ne, ku_same, ne_eq, Nat.reduceEqDiff, reduceCtorEq, Nat.add_eq_left, Nat.left_eq_add, Nat.reduceEqDiff, q10, q_ne, true_or, or_true, gr_k h, gr_r0 h, gr_r1 h, gr_r2 h, gr_r3 h, hc, z_ii (show c < 2147483648 by omega) (show k < 2147483648 by omega), hk1, (gr_rw7 h).1, c_get (gr_rw7 h) (show k < 64 by omega), z_1]
      rw [s35_32]
      exact ih _ _ (by omega) (by rw [hx]; rfl)
  simp only [s35_0, s35_1, s35_2, s35_5, s35_6, s35_7, s35_8, s35_9, hf_bd_v, hf_bd_n, hf_iv_i, hf_iv_l, hf_iv_a, hf_iv_n, hf_iv_2, z_lgl, z_lgg, z_lge, z_lgle, z_lgz, Option.getD_some, Option.isSome_some, ↓reduceIte, not_true_eq_false, not_false_eq_true, Option.toList_some, Option.toList_none, List.cons_append, List.nil_append, Nat.reduceAdd, Nat.add_assoc, ku_ne, ku_same, ne_eq, Nat.reduceEqDiff, reduceCtorEq, Nat.add_eq_left, Nat.left_eq_add, Nat.reduceEqDiff, q10, q_ne, true_or, or_true, c_speedsY h, gr_k h, gr_r0 h, gr_r1 h, gr_r2 h, gr_r3 h]
  exact loop c 0 0 (by omega) rfl
end
