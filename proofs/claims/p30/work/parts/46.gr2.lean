/-! GRAINS, the loops -/
section
variable {g : hf_G} {I : hf_I} {J : hf_J} {G c s k m rx ry : Nat} {v w kx ky am ph : Int64} {i j : Int32}
def dgL (k : Nat) : Int64 := lZ (2048 / 2 ^ k : Nat)
theorem dgL_s : ∀ k, k < 12 → dgL k / 2 = dgL (k + 1) := by decide
theorem dgL_p : ∀ k, k < 12 → ¬ dgL k ≤ 0 := by decide
def rtL (q : Int64) (k : Nat) : Int64 := it k 0 fun k r => if (r + dgL k) * (r + dgL k) ≤ q then r + dgL k else r
theorem q2 : ¬ (2 : Int64) = 0 := by decide
theorem c_far : hf_rn 63 0 [some (.long v), none, some (.long w), none, none, none, none, none, none, none, none, none] [] g I J = some (.inl (some (.long (rtL (sqL v w) 12))), g, I, J) := by
  have loop : ∀ (d k : Nat) (x y : Int64) (l10 l11 : Option Value), k + d = 12 → x = rtL (sqL v w) k → y = dgL k → hf_rn 63 17 [some (.long v), none, some (.long w), none, some (.long (sqL v w)), none, some (.long x), none, some (.long y), none, l10, l11] [] g I J = some (.inl (some (.long (rtL (sqL v w) 12))), g, I, J) := by
    intro d
    induction d with
    | zero =>
      intro k x y l10 l11 hk hx hy
      have e : k = 12 := by omega
      subst e
      have h0 : dgL 12 ≤ 0 := by decide
      subst hx hy
      simp only [s63_0, s63_1, s63_2, s63_3, s63_4, s63_5, s63_6, s63_7, s63_9, s63_10, s63_12, s63_15, s63_17, s63_19, s63_20, s63_21, s63_24, s63_26, s63_28, s63_29, s63_31, s63_33, s63_35, s63_36, s63_38, s63_39, s63_42, s63_44, s63_46, s63_48, s63_51, s63_52, s63_57, s63_59, hf_bd_v, hf_bd_n, hf_iv_i, hf_iv_l, hf_iv_a, hf_iv_n, hf_iv_2, z_lgl, z_lgg, z_lge, z_lgle, z_lgz, Option.getD_some, Option.isSome_some, ↓reduceIte, not_true_eq_false, not_false_eq_true, Option.toList_some, Option.toList_none, List.cons_append, List.nil_append, Nat.reduceAdd, Nat.add_assoc, ku_ne, ku_same, ne_eq, Nat.reduceEqDiff, reduceCtorEq, Nat.add_eq_left, Nat.left_eq_add, Nat.reduceEqDiff, q10, q_ne, true_or, or_true, h0]
    | succ d ih =>
      intro k x y l10 l11 hk hx hy
      have hb := dgL_p k (by omega)
      have hs := dgL_s k (by omega)
      subst hy
      by_cases hc : (x + dgL k) * (x + dgL k) ≤ sqL v w
      · have hc2 : ¬ sqL v w < (x + dgL k) * (x + dgL k) := by rw [Int64.lt_iff_toInt_lt]; rw [Int64.le_iff_toInt_le] at hc; omega
        simp only [s63_17, s63_19, s63_20, s63_21, s63_24, s63_26, s63_28, s63_29, s63_31, s63_33, s63_35, s63_36, s63_38, s63_39, s63_42, s63_44, s63_46, s63_48, s63_51, s63_52, hf_bd_v, hf_bd_n, hf_iv_i, hf_iv_l, hf_iv_a, hf_iv_n, hf_iv_2, z_lgl, z_lgg, z_lge, z_lgle, z_lgz, Option.getD_some, Option.isSome_some, ↓reduceIte, not_true_eq_false, not_false_eq_true, Option.toList_some, Option.toList_none, List.cons_append, List.nil_append, Nat.reduceAdd, Nat.add_assoc, ku_ne, ku_same, ne_eq, Nat.reduceEqDiff, reduceCtorEq, Nat.add_eq_left, Nat.left_eq_add, Nat.reduceEqDiff, q10, q_ne, true_or, or_true, hb, hc2, q2, hs]
        rw [s63_54]
        exact ih _ _ _ _ _ (by omega) (by rw [rtL, it_s, if_pos (by rw [hx] at hc; exact hc), hx]; rfl) rfl
      · have hc2 : sqL v w < (x + dgL k) * (x + dgL k) := by rw [Int64.lt_iff_toInt_lt]; rw [Int64.le_iff_toInt_le] at hc; omega
        simp only [s63_17, s63_19, s63_20, s63_21, s63_24, s63_26, s63_28, s63_29, s63_31, s63_33, s63_35, s63_36, s63_38, s63_39, s63_42, s63_44, s63_46, s63_48, s63_51, s63_52, hf_bd_v, hf_bd_n, hf_iv_i, hf_iv_l, hf_iv_a, hf_iv_n, hf_iv_2, z_lgl, z_lgg, z_lge, z_lgle, z_lgz, Option.getD_some, Option.isSome_some, ↓reduceIte, not_true_eq_false, not_false_eq_true, Option.toList_some, Option.toList_none, List.cons_append, List.nil_append, Nat.reduceAdd, Nat.add_assoc, ku_ne, ku_same, ne_eq, Nat.reduceEqDiff, reduceCtorEq, Nat.add_eq_left, Nat.left_eq_add, Nat.reduceEqDiff, q10, q_ne, true_or, or_true, hb, hc2, q2, hs]
        rw [s63_54]
        exact ih _ _ _ _ _ (by omega) (by rw [rtL, it_s, if_neg (by rw [hx] at hc; exact hc), hx]; rfl) rfl
  have h0 : (v * v + w * w) = sqL v w := rfl
  simp only [s63_0, s63_1, s63_2, s63_3, s63_4, s63_5, s63_6, s63_7, s63_9, s63_10, s63_12, s63_15, hf_bd_v, hf_bd_n, hf_iv_i, hf_iv_l, hf_iv_a, hf_iv_n, hf_iv_2, z_lgl, z_lgg, z_lge, z_lgle, z_lgz, Option.getD_some, Option.isSome_some, ↓reduceIte, not_true_eq_false, not_false_eq_true, Option.toList_some, Option.toList_none, List.cons_append, List.nil_append, Nat.reduceAdd, Nat.add_assoc, ku_ne, ku_same, ne_eq, Nat.reduceEqDiff, reduceCtorEq, Nat.add_eq_left, Nat.left_eq_add, Nat.reduceEqDiff, q10, q_ne, true_or, or_true, h0]
  exact loop 12 0 _ _ _ _ rfl rfl rfl
def farL (X Y : Nat → Int64) (k m : Nat) : Int64 := rtL (sqL (wayL (X k) (X m)) (wayL (Y k) (Y m))) 12
theorem c_farBetween (h : Gr g G) (hk : k < 64) (hm : m < 64) : hf_rn 33 0 [some (.ref G), some (.int (nI k)), some (.int (nI m))] [] g I J = some (.inl (some (.long (farL (J (G + 2)) (J (G + 4)) k m))), g, I, J) := by
  simp only [s33_0, s33_1, s33_2, s33_3, s33_4, s33_7, s33_8, s33_9, s33_10, s33_11, s33_14, s33_17, hf_bd_v, hf_bd_n, hf_iv_i, hf_iv_l, hf_iv_a, hf_iv_n, hf_iv_2, z_lgl, z_lgg, z_lge, z_lgle, z_lgz, Option.getD_some, Option.isSome_some, ↓reduceIte, not_true_eq_false, not_false_eq_true, Option.toList_some, Option.toList_none, List.cons_append, List.nil_append, Nat.reduceAdd, Nat.add_assoc, ku_ne, ku_same, ne_eq, Nat.reduceEqDiff, reduceCtorEq, Nat.add_eq_left, Nat.left_eq_add, Nat.reduceEqDiff, q10, q_ne, true_or, or_true, gr_k h, gr_r0 h, gr_r1 h, gr_r2 h, gr_r3 h, c_grwayX h hk hm, c_grwayY h hk hm, c_far, farL]
def valL (X Y U W : Nat → Int64) (k m : Nat) : Int64 := if m = 0 then X k else if m = 1 then Y k else if m = 2 then U k else W k
/-- what bitCount answers -/
def smA (c : Nat) (f : Nat → Int64) : Int64 := it c 0 fun k s => s + f k
def smP (c : Nat) (p : Nat → Bool) (f : Nat → Int64) : Int64 := it c 0 fun k s => if p k = true then s + f k else s
theorem c_sumX (h : Gr g G) (hc : I G 5 = nI c) (hc2 : c ≤ 64) : hf_rn 34 0 [some (.ref G), some (.int 1), none, none, none, none] [] g I J = some (.inl (some (.long (smA c (J (G + 6))))), g, I, J) := by
  have loop : ∀ (d k : Nat) (x : Int64), k + d = c → x = smA k (J (G + 6)) → hf_rn 34 11 [some (.ref G), some (.int 1), some (.ref (G + 5)), some (.long x), none, some (.int (nI k))] [] g I J = some (.inl (some (.long (smA c (J (G + 6))))), g, I, J) := by
    intro d
    induction d with
    | zero =>
      intro k x hk hx
      have e : k = c := by omega
      subst e
      simp only [s34_0, s34_1, s34_2, s34_5, s34_6, s34_7, s34_8, s34_9, s34_11, s34_13, s34_14, s34_17, s34_20, s34_21, s34_22, s34_24, s34_27, s34_28, s34_29, s34_35, s34_36, hf_bd_v, hf_bd_n, hf_iv_i, hf_iv_l, hf_iv_a, hf_iv_n, hf_iv_2, z_lgl, z_lgg, z_lge, z_lgle, z_lgz, Option.getD_some, Option.isSome_some, ↓reduceIte, not_true_eq_false, not_false_eq_true, Option.toList_some, Option.toList_none, List.cons_append, List.nil_append, Nat.reduceAdd, Nat.add_assoc, ku_ne, ku_same, ne_eq, Nat.reduceEqDiff, reduceCtorEq, Nat.add_eq_left, Nat.left_eq_add, Nat.reduceEqDiff, q10, q_ne, true_or, or_true, gr_k h, gr_r0 h, gr_r1 h, gr_r2 h, gr_r3 h, hc, hx, z_ii (show k < 2147483648 by omega) (show k < 2147483648 by omega), Nat.le_refl]
    | succ d ih =>
      intro k x hk hx
      have hk1 : ¬ c ≤ k := by omega
      simp only [s34_11, s34_13, s34_14, s34_17, s34_20, s34_21, s34_22, s34_24, s34_27, s34_28, s34_29, hf_bd_v, hf_bd_n, hf_iv_i, hf_iv_l, hf_iv_a, hf_iv_n, hf_iv_2, z_lgl, z_lgg, z_lge, z_lgle, z_lgz, Option.getD_some, Option.isSome_some, ↓reduceIte, not_true_eq_false, not_false_eq_true, Option.toList_some, Option.toList_none, List.cons_append, List.nil_append, Nat.reduceAdd, Nat.add_assoc, ku_ne, ku_same, ne_eq, Nat.reduceEqDiff, reduceCtorEq, Nat.add_eq_left, Nat.left_eq_add, Nat.reduceEqDiff, q10, q_ne, true_or, or_true, gr_k h, gr_r0 h, gr_r1 h, gr_r2 h, gr_r3 h, hc, z_ii (show c < 2147483648 by omega) (show k < 2147483648 by omega), hk1, (gr_rw5 h).1, c_get (gr_rw5 h) (show k < 64 by omega), z_1]
      rw [s34_32]
      exact ih _ _ (by omega) (by rw [hx]; rfl)
  simp only [s34_0, s34_1, s34_2, s34_5, s34_6, s34_7, s34_8, s34_9, hf_bd_v, hf_bd_n, hf_iv_i, hf_iv_l, hf_iv_a, hf_iv_n, hf_iv_2, z_lgl, z_lgg, z_lge, z_lgle, z_lgz, Option.getD_some, Option.isSome_some, ↓reduceIte, not_true_eq_false, not_false_eq_true, Option.toList_some, Option.toList_none, List.cons_append, List.nil_append, Nat.reduceAdd, Nat.add_assoc, ku_ne, ku_same, ne_eq, Nat.reduceEqDiff, reduceCtorEq, Nat.add_eq_left, Nat.left_eq_add, Nat.reduceEqDiff, q10, q_ne, true_or, or_true, c_speedsX h, gr_k h, gr_r0 h, gr_r1 h, gr_r2 h, gr_r3 h]
  exact loop c 0 0 (by omega) rfl
theorem c_sumY (h : Gr g G) (hc : I G 5 = nI c) (hc2 : c ≤ 64) : hf_rn 34 0 [some (.ref G), some (.int 0), none, none, none, none] [] g I J = some (.inl (some (.long (smA c (J (G + 8))))), g, I, J) := by
  have loop : ∀ (d k : Nat) (x : Int64), k + d = c → x = smA k (J (G + 8)) → hf_rn 34 11 [some (.ref G), some (.int 0), some (.ref (G + 7)), some (.long x), none, some (.int (nI k))] [] g I J = some (.inl (some (.long (smA c (J (G + 8))))), g, I, J) := by
    intro d
    induction d with
    | zero =>
      intro k x hk hx
      have e : k = c := by omega
      subst e
      simp only [s34_0, s34_1, s34_2, s34_5, s34_6, s34_7, s34_8, s34_9, s34_11, s34_13, s34_14, s34_17, s34_20, s34_21, s34_22, s34_24, s34_27, s34_28, s34_29, s34_35, s34_36, hf_bd_v, hf_bd_n, hf_iv_i, hf_iv_l, hf_iv_a, hf_iv_n, hf_iv_2, z_lgl, z_lgg, z_lge, z_lgle, z_lgz, Option.getD_some, Option.isSome_some, ↓reduceIte, not_true_eq_false, not_false_eq_true, Option.toList_some, Option.toList_none, List.cons_append, List.nil_append, Nat.reduceAdd, Nat.add_assoc, ku_ne, ku_same, ne_eq, Nat.reduceEqDiff, reduceCtorEq, Nat.add_eq_left, Nat.left_eq_add, Nat.reduceEqDiff, q10, q_ne, true_or, or_true, gr_k h, gr_r0 h, gr_r1 h, gr_r2 h, gr_r3 h, hc, hx, z_ii (show k < 2147483648 by omega) (show k < 2147483648 by omega), Nat.le_refl]
    | succ d ih =>
      intro k x hk hx
      have hk1 : ¬ c ≤ k := by omega
      simp only [s34_11, s34_13, s34_14, s34_17, s34_20, s34_21, s34_22, s34_24, s34_27, s34_28, s34_29, hf_bd_v, hf_bd_n, hf_iv_i, hf_iv_l, hf_iv_a, hf_iv_n, hf_iv_2, z_lgl, z_lgg, z_lge, z_lgle, z_lgz, Option.getD_some, Option.isSome_some, ↓reduceIte, not_true_eq_false, not_false_eq_true, Option.toList_some, Option.toList_none, List.cons_append, List.nil_append, Nat.reduceAdd, Nat.add_assoc, ku_ne, ku_same, ne_eq, Nat.reduceEqDiff, reduceCtorEq, Nat.add_eq_left, Nat.left_eq_add, Nat.reduceEqDiff, q10, q_ne, true_or, or_true, gr_k h, gr_r0 h, gr_r1 h, gr_r2 h, gr_r3 h, hc, z_ii (show c < 2147483648 by omega) (show k < 2147483648 by omega), hk1, (gr_rw7 h).1, c_get (gr_rw7 h) (show k < 64 by omega), z_1]
      rw [s34_32]
      exact ih _ _ (by omega) (by rw [hx]; rfl)
  simp only [s34_0, s34_1, s34_2, s34_5, s34_6, s34_7, s34_8, s34_9, hf_bd_v, hf_bd_n, hf_iv_i, hf_iv_l, hf_iv_a, hf_iv_n, hf_iv_2, z_lgl, z_lgg, z_lge, z_lgle, z_lgz, Option.getD_some, Option.isSome_some, ↓reduceIte, not_true_eq_false, not_false_eq_true, Option.toList_some, Option.toList_none, List.cons_append, List.nil_append, Nat.reduceAdd, Nat.add_assoc, ku_ne, ku_same, ne_eq, Nat.reduceEqDiff, reduceCtorEq, Nat.add_eq_left, Nat.left_eq_add, Nat.reduceEqDiff, q10, q_ne, true_or, or_true, c_speedsY h, gr_k h, gr_r0 h, gr_r1 h, gr_r2 h, gr_r3 h]
  exact loop c 0 0 (by omega) rfl
end
