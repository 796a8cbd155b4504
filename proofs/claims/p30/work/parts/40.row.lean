/-! ROWS (Halofinder$Row): the one place where longs are kept -/
/-- a row of n longs lies at r, its longs behind it -/
def Rw (g : hf_G) (r n : Nat) : Prop := hf_k g r = (0, 5) ∧ hf_r g r 0 = some (r + 1) ∧ hf_k g (r + 1) = (3, n) ∧ n < 2147483648
section
variable {g : hf_G} {r n k : Nat} {I : hf_I} {J : hf_J} {v : Int64}
theorem c_fill (h : Rw g r n) : hf_rn 73 0 [some (.ref r), some (.long v), none, none] [] g I J = some (.inl none, g, I, hf_w J (r + 1) (fun j => if j < n then v else J (r + 1) j)) := by
  obtain ⟨h1, h2, h3, h4⟩ := h
  have loop : ∀ (d k : Nat) (J : hf_J), k + d = n → hf_rn 73 2 [some (.ref r), some (.long v), none, some (.int (nI k))] [] g I J = some (.inl none, g, I, hf_w J (r + 1) (fun j => if k ≤ j ∧ j < n then v else J (r + 1) j)) := by
    intro d
    induction d with
    | zero =>
      intro k J hk
      have hk2 : k = n := by omega
      subst hk2
      simp only [s73_0, s73_1, s73_2, s73_3, s73_4, s73_7, s73_8, s73_11, s73_12, s73_15, s73_16, s73_17, s73_18, s73_21, s73_24, hf_bd_v, hf_bd_n, hf_iv_i, hf_iv_l, hf_iv_a, hf_iv_n, hf_iv_2, z_lgl, z_lgg, z_lge, z_lgle, z_lgz, Option.getD_some, Option.isSome_some, ↓reduceIte, not_true_eq_false, not_false_eq_true, Option.toList_some, Option.toList_none, List.cons_append, List.nil_append, Nat.reduceAdd, Nat.add_assoc, ku_ne, ku_same, ne_eq, Nat.reduceEqDiff, reduceCtorEq, Nat.add_eq_left, Nat.left_eq_add, Nat.reduceEqDiff, q10, q_ne, true_or, or_true, h1, h2, h3, h4, z_ii h4 h4, Nat.le_refl, Nat.reduceLeDiff, and_self]
      rw [kw_id (by funext j; rw [if_neg (by omega)])]
    | succ d ih =>
      intro k J hk
      have hk2 : k < n := by omega
      have hk3 : k < 2147483648 := by omega
      simp only [s73_2, s73_3, s73_4, s73_7, s73_8, s73_11, s73_12, s73_15, s73_16, s73_17, s73_18, hf_bd_v, hf_bd_n, hf_iv_i, hf_iv_l, hf_iv_a, hf_iv_n, hf_iv_2, z_lgl, z_lgg, z_lge, z_lgle, z_lgz, Option.getD_some, Option.isSome_some, ↓reduceIte, not_true_eq_false, not_false_eq_true, Option.toList_some, Option.toList_none, List.cons_append, List.nil_append, Nat.reduceAdd, Nat.add_assoc, ku_ne, ku_same, ne_eq, Nat.reduceEqDiff, reduceCtorEq, Nat.add_eq_left, Nat.left_eq_add, Nat.reduceEqDiff, q10, q_ne, true_or, or_true, h1, h2, h3, h4, z_ii h4 hk3, z_in hk3, z_cl hk3, z_1, Nat.not_le.mpr hk2, Nat.le_refl, Nat.reduceLeDiff, and_self, decide_true, hk2]
      rw [s73_21, ih (k + 1) _ (by omega)]
      congr 4
      rw [ku_as_w, kw_w]
      apply kw_cong
      funext j
      rw [kw_row]
      by_cases e : j = k
      · subst e; simp [hk2]
      · simp only [e, if_false]
        by_cases c : k ≤ j ∧ j < n
        · rw [if_pos c, if_pos (by omega)]
        · rw [if_neg c, if_neg (by omega)]
  simp only [s73_0, s73_1, hf_bd_v, hf_bd_n, hf_iv_i, hf_iv_l, hf_iv_a, hf_iv_n, hf_iv_2, z_lgl, z_lgg, z_lge, z_lgle, z_lgz, Option.getD_some, Option.isSome_some, ↓reduceIte, not_true_eq_false, not_false_eq_true, Option.toList_some, Option.toList_none, List.cons_append, List.nil_append, Nat.reduceAdd, Nat.add_assoc, ku_ne, ku_same, ne_eq, Nat.reduceEqDiff, reduceCtorEq, Nat.add_eq_left, Nat.left_eq_add, Nat.reduceEqDiff, q10, q_ne, true_or, or_true]
  rw [show (0 : Int32) = nI 0 from rfl, loop n 0 J (by omega)]
  simp
end
section
variable {g : hf_G} {r q n k : Nat} {I : hf_I} {J : hf_J} {v : Int64}
theorem Rw.th (h : Rw g r n) : Rw (hf_th g) r n := h
theorem c_get (h : Rw g r n) (hk : k < n) : hf_rn 70 0 [some (.ref r), some (.int (nI k))] [] g I J = some (.inl (some (.long (J (r + 1) k))), g, I, J) := by
  obtain ⟨h1, h2, h3, h4⟩ := h
  have hk3 : k < 2147483648 := by omega
  simp only [s70_0, s70_1, s70_4, s70_5, s70_6, s70_9, s70_10, s70_13, s70_14, s70_17, s70_18, s70_19, s70_22, s70_23, hf_bd_v, hf_bd_n, hf_iv_i, hf_iv_l, hf_iv_a, hf_iv_n, hf_iv_2, z_lgl, z_lgg, z_lge, z_lgle, z_lgz, Option.getD_some, Option.isSome_some, ↓reduceIte, not_true_eq_false, not_false_eq_true, Option.toList_some, Option.toList_none, List.cons_append, List.nil_append, Nat.reduceAdd, Nat.add_assoc, ku_ne, ku_same, ne_eq, Nat.reduceEqDiff, reduceCtorEq, Nat.add_eq_left, Nat.left_eq_add, Nat.reduceEqDiff, q10, q_ne, true_or, or_true, h1, h2, h3, h4, z_i0 hk3, z_ii h4 hk3, z_in hk3, z_cl hk3, Nat.not_le.mpr hk, Nat.le_refl, Nat.reduceLeDiff, and_self, decide_true, hk]
theorem c_set (h : Rw g r n) (hk : k < n) : hf_rn 71 0 [some (.ref r), some (.int (nI k)), some (.long v), none] [] g I J = some (.inl none, g, I, hf_u J (r + 1) k v) := by
  obtain ⟨h1, h2, h3, h4⟩ := h
  have hk3 : k < 2147483648 := by omega
  simp only [s71_0, s71_1, s71_4, s71_5, s71_6, s71_9, s71_10, s71_13, s71_14, s71_17, s71_18, s71_19, s71_20, hf_bd_v, hf_bd_n, hf_iv_i, hf_iv_l, hf_iv_a, hf_iv_n, hf_iv_2, z_lgl, z_lgg, z_lge, z_lgle, z_lgz, Option.getD_some, Option.isSome_some, ↓reduceIte, not_true_eq_false, not_false_eq_true, Option.toList_some, Option.toList_none, List.cons_append, List.nil_append, Nat.reduceAdd, Nat.add_assoc, ku_ne, ku_same, ne_eq, Nat.reduceEqDiff, reduceCtorEq, Nat.add_eq_left, Nat.left_eq_add, Nat.reduceEqDiff, q10, q_ne, true_or, or_true, h1, h2, h3, h4, z_i0 hk3, z_ii h4 hk3, z_in hk3, z_cl hk3, Nat.not_le.mpr hk, Nat.le_refl, Nat.reduceLeDiff, and_self, decide_true, hk]
theorem c_add (h : Rw g r n) (hk : k < n) : hf_rn 72 0 [some (.ref r), some (.int (nI k)), some (.long v), none] [] g I J = some (.inl none, g, I, hf_u J (r + 1) k (J (r + 1) k + v)) := by
  obtain ⟨h1, h2, h3, h4⟩ := h
  have hk3 : k < 2147483648 := by omega
  simp only [s72_0, s72_1, s72_4, s72_5, s72_6, s72_9, s72_10, s72_13, s72_14, s72_17, s72_18, s72_19, s72_20, s72_21, s72_22, s72_23, hf_bd_v, hf_bd_n, hf_iv_i, hf_iv_l, hf_iv_a, hf_iv_n, hf_iv_2, z_lgl, z_lgg, z_lge, z_lgle, z_lgz, Option.getD_some, Option.isSome_some, ↓reduceIte, not_true_eq_false, not_false_eq_true, Option.toList_some, Option.toList_none, List.cons_append, List.nil_append, Nat.reduceAdd, Nat.add_assoc, ku_ne, ku_same, ne_eq, Nat.reduceEqDiff, reduceCtorEq, Nat.add_eq_left, Nat.left_eq_add, Nat.reduceEqDiff, q10, q_ne, true_or, or_true, h1, h2, h3, h4, z_i0 hk3, z_ii h4 hk3, z_in hk3, z_cl hk3, Nat.not_le.mpr hk, Nat.le_refl, Nat.reduceLeDiff, and_self, decide_true, hk]
theorem c_copy (h : Rw g r n) (hq : Rw g q n) (hn : q ≠ r) : hf_rn 74 0 [some (.ref r), some (.ref q), none] [] g I J = some (.inl none, g, I, hf_w J (r + 1) (fun j => if j < n then J (q + 1) j else J (r + 1) j)) := by
  have hr := h
  obtain ⟨h1, h2, h3, h4⟩ := h
  have loop : ∀ (d k : Nat) (J1 : hf_J), k + d = n → J1 (q + 1) = J (q + 1) → hf_rn 74 2 [some (.ref r), some (.ref q), some (.int (nI k))] [] g I J1 = some (.inl none, g, I, hf_w J1 (r + 1) (fun j => if k ≤ j ∧ j < n then J (q + 1) j else J1 (r + 1) j)) := by
    intro d
    induction d with
    | zero =>
      intro k J1 hk hj
      have hk2 : k = n := by omega
      subst hk2
      simp only [s74_0, s74_1, s74_2, s74_3, s74_4, s74_7, s74_8, s74_11, s74_12, s74_15, s74_16, s74_17, s74_18, s74_21, s74_22, s74_25, s74_28, hf_bd_v, hf_bd_n, hf_iv_i, hf_iv_l, hf_iv_a, hf_iv_n, hf_iv_2, z_lgl, z_lgg, z_lge, z_lgle, z_lgz, Option.getD_some, Option.isSome_some, ↓reduceIte, not_true_eq_false, not_false_eq_true, Option.toList_some, Option.toList_none, List.cons_append, List.nil_append, Nat.reduceAdd, Nat.add_assoc, ku_ne, ku_same, ne_eq, Nat.reduceEqDiff, reduceCtorEq, Nat.add_eq_left, Nat.left_eq_add, Nat.reduceEqDiff, q10, q_ne, true_or, or_true, h1, h2, h3, h4, z_ii h4 h4, Nat.le_refl, Nat.reduceLeDiff, and_self]
      rw [kw_id (by funext j; rw [if_neg (by omega)])]
    | succ d ih =>
      intro k J1 hk hj
      have hk2 : k < n := by omega
      have hk3 : k < 2147483648 := by omega
      simp only [s74_2, s74_3, s74_4, s74_7, s74_8, s74_11, s74_12, s74_15, s74_16, s74_17, s74_18, s74_21, s74_22, hf_bd_v, hf_bd_n, hf_iv_i, hf_iv_l, hf_iv_a, hf_iv_n, hf_iv_2, z_lgl, z_lgg, z_lge, z_lgle, z_lgz, Option.getD_some, Option.isSome_some, ↓reduceIte, not_true_eq_false, not_false_eq_true, Option.toList_some, Option.toList_none, List.cons_append, List.nil_append, Nat.reduceAdd, Nat.add_assoc, ku_ne, ku_same, ne_eq, Nat.reduceEqDiff, reduceCtorEq, Nat.add_eq_left, Nat.left_eq_add, Nat.reduceEqDiff, q10, q_ne, true_or, or_true, h1, h2, h3, h4, hq.1, c_get hq hk2, hj, z_ii h4 hk3, z_in hk3, z_cl hk3, z_1, Nat.not_le.mpr hk2, Nat.le_refl, Nat.reduceLeDiff, and_self, decide_true, hk2, Option.toList_some, List.cons_append, List.nil_append]
      rw [s74_25, ih (k + 1) _ (by omega) (by rw [ku_ne (by omega), hj])]
      congr 4
      rw [ku_as_w, kw_w]
      apply kw_cong
      funext j
      rw [kw_row]
      by_cases e : j = k
      · subst e; simp [hk2]
      · simp only [e, if_false]
        by_cases c : k ≤ j ∧ j < n
        · rw [if_pos c, if_pos (by omega)]
        · rw [if_neg c, if_neg (by omega)]
  simp only [s74_0, s74_1, hf_bd_v, hf_bd_n, hf_iv_i, hf_iv_l, hf_iv_a, hf_iv_n, hf_iv_2, z_lgl, z_lgg, z_lge, z_lgle, z_lgz, Option.getD_some, Option.isSome_some, ↓reduceIte, not_true_eq_false, not_false_eq_true, Option.toList_some, Option.toList_none, List.cons_append, List.nil_append, Nat.reduceAdd, Nat.add_assoc, ku_ne, ku_same, ne_eq, Nat.reduceEqDiff, reduceCtorEq, Nat.add_eq_left, Nat.left_eq_add, Nat.reduceEqDiff, q10, q_ne, true_or, or_true]
  rw [show (0 : Int32) = nI 0 from rfl, loop n 0 J (by omega) rfl]
  simp
end
