/-! GRAINS, more loops -/
section
variable {g : hf_G} {I : hf_I} {J : hf_J} {G c s k m rx ry : Nat} {u v w kx ky am ph : Int64} {i j : Int32}
def ushL (v : Int64) (n : Int32) : Int64 := (v.toUInt64 >>> (n.toInt64.toUInt64 &&& Int64.toUInt64 63)).toInt64
/-- what bitCount answers -/
def popI (v : Int64) : Int32 :=
  let v1 := v - (ushL v 1 &&& 6148914691236517205)
  let v2 := (v1 &&& 3689348814741910323) + (ushL v1 2 &&& 3689348814741910323)
  let v3 := v2 + ushL v2 4 &&& 1085102592571150095
  let v4 := v3 + ushL v3 8
  let v5 := v4 + ushL v4 16
  let v6 := v5 + ushL v5 32
  v6.toInt32 &&& 127
theorem c_pop : hf_rn 145 0 [some (.long v), none] [] g I J = some (.inl (some (.int (popI v))), g, I, J) := by
  simp only [s145_0, s145_1, s145_2, s145_3, s145_4, s145_7, s145_8, s145_9, s145_10, s145_11, s145_14, s145_15, s145_16, s145_17, s145_18, s145_21, s145_22, s145_23, s145_24, s145_25, s145_26, s145_27, s145_28, s145_29, s145_32, s145_33, s145_34, s145_35, s145_36, s145_38, s145_39, s145_40, s145_41, s145_42, s145_43, s145_45, s145_46, s145_47, s145_48, s145_49, s145_50, s145_52, s145_53, s145_54, s145_55, s145_56, s145_57, s145_59, s145_60, hf_bd_v, hf_bd_n, hf_iv_i, hf_iv_l, hf_iv_a, hf_iv_n, hf_iv_2, z_lgl, z_lgg, z_lge, z_lgle, z_lgz, Option.getD_some, Option.isSome_some, ↓reduceIte, not_true_eq_false, not_false_eq_true, Option.toList_some, Option.toList_none, List.cons_append, List.nil_append, Nat.reduceAdd, Nat.add_assoc, ku_ne, ku_same, ne_eq, Nat.reduceEqDiff, reduceCtorEq, Nat.add_eq_left, Nat.left_eq_add, Nat.reduceEqDiff, q10, q_ne, true_or, or_true, popI, ushL]
theorem c_commonX (h : Gr g G) (hc : I G 5 = nI c) (hc2 : c ≤ 64) : hf_rn 35 0 [some (.ref G), some (.long v), none, some (.int 1), none, none, none, none] [] g I J = some (.inl (some (.long (by1 (smP c (btL v) (J (G + 6))) (popI v).toInt64))), g, I, J) := by
  have loop : ∀ (d k : Nat) (x : Int64), k + d = c → x = smP k (btL v) (J (G + 6)) → hf_rn 35 13 [some (.ref G), some (.long v), none, some (.int 1), some (.ref (G + 5)), some (.long x), none, some (.int (nI k))] [] g I J = some (.inl (some (.long (by1 (smP c (btL v) (J (G + 6))) (popI v).toInt64))), g, I, J) := by
    intro d
    induction d with
    | zero =>
      intro k x hk hx
      have e : k = c := by omega
      subst e
      simp only [s35_0, s35_1, s35_2, s35_5, s35_7, s35_8, s35_10, s35_11, s35_13, s35_15, s35_16, s35_19, s35_22, s35_23, s35_25, s35_28, s35_31, s35_33, s35_35, s35_37, s35_40, s35_41, s35_43, s35_49, s35_51, s35_52, s35_55, s35_56, s35_59, hf_bd_v, hf_bd_n, hf_iv_i, hf_iv_l, hf_iv_a, hf_iv_n, hf_iv_2, z_lgl, z_lgg, z_lge, z_lgle, z_lgz, Option.getD_some, Option.isSome_some, ↓reduceIte, not_true_eq_false, not_false_eq_true, Option.toList_some, Option.toList_none, List.cons_append, List.nil_append, Nat.reduceAdd, Nat.add_assoc, ku_ne, ku_same, ne_eq, Nat.reduceEqDiff, reduceCtorEq, Nat.add_eq_left, Nat.left_eq_add, Nat.reduceEqDiff, q10, q_ne, true_or, or_true, gr_k h, gr_r0 h, gr_r1 h, gr_r2 h, gr_r3 h, hc, hx, z_ii (show k < 2147483648 by omega) (show k < 2147483648 by omega), Nat.le_refl, c_pop, c_by1]
    | succ d ih =>
      intro k x hk hx
      have hk1 : ¬ c ≤ k := by omega
      by_cases hb : btL v k = true
      · simp only [s35_13, s35_15, s35_16, s35_19, s35_22, s35_23, s35_25, s35_28, s35_31, s35_33, s35_35, s35_37, s35_40, s35_41, s35_43, hf_bd_v, hf_bd_n, hf_iv_i, hf_iv_l, hf_iv_a, hf_iv_n, hf_iv_2, z_lgl, z_lgg, z_lge, z_lgle, z_lgz, Option.getD_some, Option.isSome_some, ↓reduceIte, not_true_eq_false, not_false_eq_true, Option.toList_some, Option.toList_none, List.cons_append, List.nil_append, Nat.reduceAdd, Nat.add_assoc, ku_ne, ku_same, ne_eq, Nat.reduceEqDiff, reduceCtorEq, Nat.add_eq_left, Nat.left_eq_add, Nat.reduceEqDiff, q10, q_ne, true_or, or_true, gr_k h, gr_r0 h, gr_r1 h, gr_r2 h, gr_r3 h, hc, z_ii (show c < 2147483648 by omega) (show k < 2147483648 by omega), hk1, (gr_rw5 h).1, c_get (gr_rw5 h) (show k < 64 by omega), z_1, c_has (show k < 64 by omega), hb]
        rw [s35_46]
        exact ih _ _ (by omega) (by rw [hx, smP, smP, it_s, if_pos hb])
      · simp only [s35_13, s35_15, s35_16, s35_19, s35_22, s35_23, s35_25, s35_28, s35_31, s35_33, s35_35, s35_37, s35_40, s35_41, s35_43, hf_bd_v, hf_bd_n, hf_iv_i, hf_iv_l, hf_iv_a, hf_iv_n, hf_iv_2, z_lgl, z_lgg, z_lge, z_lgle, z_lgz, Option.getD_some, Option.isSome_some, ↓reduceIte, not_true_eq_false, not_false_eq_true, Option.toList_some, Option.toList_none, List.cons_append, List.nil_append, Nat.reduceAdd, Nat.add_assoc, ku_ne, ku_same, ne_eq, Nat.reduceEqDiff, reduceCtorEq, Nat.add_eq_left, Nat.left_eq_add, Nat.reduceEqDiff, q10, q_ne, true_or, or_true, gr_k h, gr_r0 h, gr_r1 h, gr_r2 h, gr_r3 h, hc, z_ii (show c < 2147483648 by omega) (show k < 2147483648 by omega), hk1, z_1, c_has (show k < 64 by omega), hb]
        rw [s35_46]
        exact ih _ _ (by omega) (by rw [hx, smP, smP, it_s, if_neg hb])
  simp only [s35_0, s35_1, s35_2, s35_5, s35_7, s35_8, s35_10, s35_11, hf_bd_v, hf_bd_n, hf_iv_i, hf_iv_l, hf_iv_a, hf_iv_n, hf_iv_2, z_lgl, z_lgg, z_lge, z_lgle, z_lgz, Option.getD_some, Option.isSome_some, ↓reduceIte, not_true_eq_false, not_false_eq_true, Option.toList_some, Option.toList_none, List.cons_append, List.nil_append, Nat.reduceAdd, Nat.add_assoc, ku_ne, ku_same, ne_eq, Nat.reduceEqDiff, reduceCtorEq, Nat.add_eq_left, Nat.left_eq_add, Nat.reduceEqDiff, q10, q_ne, true_or, or_true, c_speedsX h, gr_k h, gr_r0 h, gr_r1 h, gr_r2 h, gr_r3 h]
  exact loop c 0 0 (by omega) rfl
theorem c_commonY (h : Gr g G) (hc : I G 5 = nI c) (hc2 : c ≤ 64) : hf_rn 35 0 [some (.ref G), some (.long v), none, some (.int 0), none, none, none, none] [] g I J = some (.inl (some (.long (by1 (smP c (btL v) (J (G + 8))) (popI v).toInt64))), g, I, J) := by
  have loop : ∀ (d k : Nat) (x : Int64), k + d = c → x = smP k (btL v) (J (G + 8)) → hf_rn 35 13 [some (.ref G), some (.long v), none, some (.int 0), some (.ref (G + 7)), some (.long x), none, some (.int (nI k))] [] g I J = some (.inl (some (.long (by1 (smP c (btL v) (J (G + 8))) (popI v).toInt64))), g, I, J) := by
    intro d
    induction d with
    | zero =>
      intro k x hk hx
      have e : k = c := by omega
      subst e
      simp only [s35_0, s35_1, s35_2, s35_5, s35_7, s35_8, s35_10, s35_11, s35_13, s35_15, s35_16, s35_19, s35_22, s35_23, s35_25, s35_28, s35_31, s35_33, s35_35, s35_37, s35_40, s35_41, s35_43, s35_49, s35_51, s35_52, s35_55, s35_56, s35_59, hf_bd_v, hf_bd_n, hf_iv_i, hf_iv_l, hf_iv_a, hf_iv_n, hf_iv_2, z_lgl, z_lgg, z_lge, z_lgle, z_lgz, Option.getD_some, Option.isSome_some, ↓reduceIte, not_true_eq_false, not_false_eq_true, Option.toList_some, Option.toList_none, List.cons_append, List.nil_append, Nat.reduceAdd, Nat.add_assoc, ku_ne, ku_same, ne_eq, Nat.reduceEqDiff, reduceCtorEq, Nat.add_eq_left, Nat.left_eq_add, Nat.reduceEqDiff, q10, q_ne, true_or, or_true, gr_k h, gr_r0 h, gr_r1 h, gr_r2 h, gr_r3 h, hc, hx, z_ii (show k < 2147483648 by omega) (show k < 2147483648 by omega), Nat.le_refl, c_pop, c_by1]
    | succ d ih =>
      intro k x hk hx
      have hk1 : ¬ c ≤ k := by omega
      by_cases hb : btL v k = true
      · simp only [s35_13, s35_15, s35_16, s35_19, s35_22, s35_23, s35_25, s35_28, s35_31, s35_33, s35_35, s35_37, s35_40, s35_41, s35_43, hf_bd_v, hf_bd_n, hf_iv_i, hf_iv_l, hf_iv_a, hf_iv_n, hf_iv_2, z_lgl, z_lgg, z_lge, z_lgle, z_lgz, Option.getD_some, Option.isSome_some, ↓reduceIte, not_true_eq_false, not_false_eq_true, Option.toList_some, Option.toList_none, List.cons_append, List.nil_append, Nat.reduceAdd, Nat.add_assoc, ku_ne, ku_same, ne_eq, Nat.reduceEqDiff, reduceCtorEq, Nat.add_eq_left, Nat.left_eq_add, Nat.reduceEqDiff, q10, q_ne, true_or, or_true, gr_k h, gr_r0 h, gr_r1 h, gr_r2 h, gr_r3 h, hc, z_ii (show c < 2147483648 by omega) (show k < 2147483648 by omega), hk1, (gr_rw7 h).1, c_get (gr_rw7 h) (show k < 64 by omega), z_1, c_has (show k < 64 by omega), hb]
        rw [s35_46]
        exact ih _ _ (by omega) (by rw [hx, smP, smP, it_s, if_pos hb])
      · simp only [s35_13, s35_15, s35_16, s35_19, s35_22, s35_23, s35_25, s35_28, s35_31, s35_33, s35_35, s35_37, s35_40, s35_41, s35_43, hf_bd_v, hf_bd_n, hf_iv_i, hf_iv_l, hf_iv_a, hf_iv_n, hf_iv_2, z_lgl, z_lgg, z_lge, z_lgle, z_lgz, Option.getD_some, Option.isSome_some, ↓reduceIte, not_true_eq_false, not_false_eq_true, Option.toList_some, Option.toList_none, List.cons_append, List.nil_append, Nat.reduceAdd, Nat.add_assoc, ku_ne, ku_same, ne_eq, Nat.reduceEqDiff, reduceCtorEq, Nat.add_eq_left, Nat.left_eq_add, Nat.reduceEqDiff, q10, q_ne, true_or, or_true, gr_k h, gr_r0 h, gr_r1 h, gr_r2 h, gr_r3 h, hc, z_ii (show c < 2147483648 by omega) (show k < 2147483648 by omega), hk1, z_1, c_has (show k < 64 by omega), hb]
        rw [s35_46]
        exact ih _ _ (by omega) (by rw [hx, smP, smP, it_s, if_neg hb])
  simp only [s35_0, s35_1, s35_2, s35_5, s35_7, s35_8, s35_10, s35_11, hf_bd_v, hf_bd_n, hf_iv_i, hf_iv_l, hf_iv_a, hf_iv_n, hf_iv_2, z_lgl, z_lgg, z_lge, z_lgle, z_lgz, Option.getD_some, Option.isSome_some, ↓reduceIte, not_true_eq_false, not_false_eq_true, Option.toList_some, Option.toList_none, List.cons_append, List.nil_append, Nat.reduceAdd, Nat.add_assoc, ku_ne, ku_same, ne_eq, Nat.reduceEqDiff, reduceCtorEq, Nat.add_eq_left, Nat.left_eq_add, Nat.reduceEqDiff, q10, q_ne, true_or, or_true, c_speedsY h, gr_k h, gr_r0 h, gr_r1 h, gr_r2 h, gr_r3 h]
  exact loop c 0 0 (by omega) rfl
theorem c_grcopy {H : Nat} (h : Gr g G) (hH : Gr g H) (hs : I H 4 = i) (hc : I H 5 = j) (hd : G + 8 < H ∨ H + 8 < G) : hf_rn 18 0 [some (.ref G), some (.ref H)] [] g I J = some (.inl none, g, hf_u (hf_u I G 4 i) G 5 j, rwm4 J (G + 2) (G + 4) (G + 6) (G + 8) 64 (J (H + 2)) (J (H + 4)) (J (H + 6)) (J (H + 8))) := by
  have n1 : H ≠ G := by omega
  have a1 : H + 1 ≠ G + 1 := by omega
  have a2 : H + 3 ≠ G + 3 := by omega
  have a3 : H + 5 ≠ G + 5 := by omega
  have a4 : H + 7 ≠ G + 7 := by omega
  simp only [s18_0, s18_1, s18_2, s18_5, s18_8, s18_9, s18_10, s18_13, s18_16, s18_17, s18_20, s18_21, s18_24, s18_27, s18_28, s18_31, s18_32, s18_35, s18_38, s18_39, s18_42, s18_43, s18_46, s18_49, s18_50, s18_53, s18_54, s18_57, s18_60, hf_bd_v, hf_bd_n, hf_iv_i, hf_iv_l, hf_iv_a, hf_iv_n, hf_iv_2, z_lgl, z_lgg, z_lge, z_lgle, z_lgz, Option.getD_some, Option.isSome_some, ↓reduceIte, not_true_eq_false, not_false_eq_true, Option.toList_some, Option.toList_none, List.cons_append, List.nil_append, Nat.reduceAdd, Nat.add_assoc, ku_ne, ku_same, ne_eq, Nat.reduceEqDiff, reduceCtorEq, Nat.add_eq_left, Nat.left_eq_add, Nat.reduceEqDiff, q10, q_ne, true_or, or_true, gr_k h, gr_r0 h, gr_r1 h, gr_r2 h, gr_r3 h, gr_k hH, gr_r0 hH, gr_r1 hH, gr_r2 hH, gr_r3 hH, hs, hc, n1, (gr_rw1 h).1, (gr_rw3 h).1, (gr_rw5 h).1, (gr_rw7 h).1, c_cpy (gr_rw1 h) (gr_rw1 hH) a1, c_cpy (gr_rw3 h) (gr_rw3 hH) a2, c_cpy (gr_rw5 h) (gr_rw5 hH) a3, c_cpy (gr_rw7 h) (gr_rw7 hH) a4]
  rw [rwm_ne (show H + 4 ≠ G + 2 by omega), rwm_ne (show H + 6 ≠ G + 4 by omega), rwm_ne (show H + 6 ≠ G + 2 by omega), rwm_ne (show H + 8 ≠ G + 6 by omega), rwm_ne (show H + 8 ≠ G + 4 by omega), rwm_ne (show H + 8 ≠ G + 2 by omega)]
  rfl
theorem c_hasten (h : Gr g G) (hc : I G 5 = nI c) (hc2 : c ≤ 64) (hx : Rw g rx 64) (hy : Rw g ry 64) (hn : G + 8 < rx ∧ G + 8 < ry) : hf_rn 26 0 [some (.ref G), some (.ref rx), some (.ref ry), none] [] g I J = some (.inl none, g, I, rwm2 J (G + 6) (G + 8) c (fun k => J (G + 6) k + J (rx + 1) k) (fun k => J (G + 8) k + J (ry + 1) k)) := by
  have loop : ∀ (d k : Nat) (J1 : hf_J), k + d = c → J1 = rwm2 J (G + 6) (G + 8) k (fun k => J (G + 6) k + J (rx + 1) k) (fun k => J (G + 8) k + J (ry + 1) k) → hf_rn 26 2 [some (.ref G), some (.ref rx), some (.ref ry), some (.int (nI k))] [] g I J1 = some (.inl none, g, I, rwm2 J (G + 6) (G + 8) c (fun k => J (G + 6) k + J (rx + 1) k) (fun k => J (G + 8) k + J (ry + 1) k)) := by
    intro d
    induction d with
    | zero =>
      intro k J1 hk hJ
      have e : k = c := by omega
      subst e
      simp only [s26_0, s26_1, s26_2, s26_3, s26_4, s26_7, s26_10, s26_11, s26_14, s26_15, s26_16, s26_17, s26_20, s26_23, s26_24, s26_27, s26_28, s26_29, s26_30, s26_33, s26_36, s26_42, hf_bd_v, hf_bd_n, hf_iv_i, hf_iv_l, hf_iv_a, hf_iv_n, hf_iv_2, z_lgl, z_lgg, z_lge, z_lgle, z_lgz, Option.getD_some, Option.isSome_some, ↓reduceIte, not_true_eq_false, not_false_eq_true, Option.toList_some, Option.toList_none, List.cons_append, List.nil_append, Nat.reduceAdd, Nat.add_assoc, ku_ne, ku_same, ne_eq, Nat.reduceEqDiff, reduceCtorEq, Nat.add_eq_left, Nat.left_eq_add, Nat.reduceEqDiff, q10, q_ne, true_or, or_true, gr_k h, gr_r0 h, gr_r1 h, gr_r2 h, gr_r3 h, hc, hJ, z_ii (show k < 2147483648 by omega) (show k < 2147483648 by omega), Nat.le_refl]
    | succ d ih =>
      intro k J1 hk hJ
      have hk1 : ¬ c ≤ k := by omega
      have e1 : J1 (rx + 1) = J (rx + 1) := by rw [hJ, r2_n (by omega) (by omega)]
      have e2 : J1 (ry + 1) = J (ry + 1) := by rw [hJ, r2_n (by omega) (by omega)]
      have e3 : J1 (G + 6) k = J (G + 6) k := by rw [hJ, r2_a (by omega)]
      have e4 : J1 (G + 8) k = J (G + 8) k := by rw [hJ, r2_b (by omega)]
      have e5 : ry + 1 ≠ G + 6 := by omega
      simp only [s26_2, s26_3, s26_4, s26_7, s26_10, s26_11, s26_14, s26_15, s26_16, s26_17, s26_20, s26_23, s26_24, s26_27, s26_28, s26_29, s26_30, s26_33, s26_36, hf_bd_v, hf_bd_n, hf_iv_i, hf_iv_l, hf_iv_a, hf_iv_n, hf_iv_2, z_lgl, z_lgg, z_lge, z_lgle, z_lgz, Option.getD_some, Option.isSome_some, ↓reduceIte, not_true_eq_false, not_false_eq_true, Option.toList_some, Option.toList_none, List.cons_append, List.nil_append, Nat.reduceAdd, Nat.add_assoc, ku_ne, ku_same, ne_eq, Nat.reduceEqDiff, reduceCtorEq, Nat.add_eq_left, Nat.left_eq_add, Nat.reduceEqDiff, q10, q_ne, true_or, or_true, gr_k h, gr_r0 h, gr_r1 h, gr_r2 h, gr_r3 h, hc, z_ii (show c < 2147483648 by omega) (show k < 2147483648 by omega), hk1, z_1, hx.1, hy.1, (gr_rw5 h).1, (gr_rw7 h).1, c_get hx (show k < 64 by omega), c_get hy (show k < 64 by omega), c_add (gr_rw5 h) (show k < 64 by omega), c_add (gr_rw7 h) (show k < 64 by omega), ku_ne e5, e1, e2, e3, e4]
      rw [s26_39]
      exact ih _ _ (by omega) (by rw [hJ]; exact r2_s (by omega) rfl rfl)
  simp only [s26_0, s26_1, hf_bd_v, hf_bd_n, hf_iv_i, hf_iv_l, hf_iv_a, hf_iv_n, hf_iv_2, z_lgl, z_lgg, z_lge, z_lgle, z_lgz, Option.getD_some, Option.isSome_some, ↓reduceIte, not_true_eq_false, not_false_eq_true, Option.toList_some, Option.toList_none, List.cons_append, List.nil_append, Nat.reduceAdd, Nat.add_assoc, ku_ne, ku_same, ne_eq, Nat.reduceEqDiff, reduceCtorEq, Nat.add_eq_left, Nat.left_eq_add, Nat.reduceEqDiff, q10, q_ne, true_or, or_true]
  exact loop c 0 J (by omega) r2_0.symm
theorem c_move (h : Gr g G) (hc : I G 5 = nI c) (hc2 : c ≤ 64) : hf_rn 27 0 [some (.ref G), some (.int i), none, none, none] [] g I J = some (.inl none, g, I, rwm2 J (G + 2) (G + 4) c (fun k => plc (J (G + 2) k + by0 (J (G + 6) k) (16 * i.toInt64))) (fun k => plc (J (G + 4) k + by0 (J (G + 8) k) (16 * i.toInt64)))) := by
  have loop : ∀ (d k : Nat) (J1 : hf_J), k + d = c → J1 = rwm2 J (G + 2) (G + 4) k (fun k => plc (J (G + 2) k + by0 (J (G + 6) k) (16 * i.toInt64))) (fun k => plc (J (G + 4) k + by0 (J (G + 8) k) (16 * i.toInt64))) → hf_rn 27 10 [some (.ref G), some (.int i), some (.long (16 * i.toInt64)), none, some (.int (nI k))] [] g I J1 = some (.inl none, g, I, rwm2 J (G + 2) (G + 4) c (fun k => plc (J (G + 2) k + by0 (J (G + 6) k) (16 * i.toInt64))) (fun k => plc (J (G + 4) k + by0 (J (G + 8) k) (16 * i.toInt64)))) := by
    intro d
    induction d with
    | zero =>
      intro k J1 hk hJ
      have e : k = c := by omega
      subst e
      simp only [s27_0, s27_3, s27_4, s27_5, s27_6, s27_7, s27_8, s27_10, s27_12, s27_13, s27_16, s27_19, s27_20, s27_22, s27_23, s27_26, s27_28, s27_31, s27_32, s27_35, s27_36, s27_39, s27_41, s27_44, s27_45, s27_48, s27_51, s27_57, hf_bd_v, hf_bd_n, hf_iv_i, hf_iv_l, hf_iv_a, hf_iv_n, hf_iv_2, z_lgl, z_lgg, z_lge, z_lgle, z_lgz, Option.getD_some, Option.isSome_some, ↓reduceIte, not_true_eq_false, not_false_eq_true, Option.toList_some, Option.toList_none, List.cons_append, List.nil_append, Nat.reduceAdd, Nat.add_assoc, ku_ne, ku_same, ne_eq, Nat.reduceEqDiff, reduceCtorEq, Nat.add_eq_left, Nat.left_eq_add, Nat.reduceEqDiff, q10, q_ne, true_or, or_true, gr_k h, gr_r0 h, gr_r1 h, gr_r2 h, gr_r3 h, hc, hJ, z_ii (show k < 2147483648 by omega) (show k < 2147483648 by omega), Nat.le_refl]
    | succ d ih =>
      intro k J1 hk hJ
      have hk1 : ¬ c ≤ k := by omega
      have e1 : J1 (G + 6) = J (G + 6) := by rw [hJ, r2_n (by omega) (by omega)]
      have e2 : J1 (G + 8) = J (G + 8) := by rw [hJ, r2_n (by omega) (by omega)]
      have e3 : J1 (G + 2) k = J (G + 2) k := by rw [hJ, r2_a (by omega)]
      have e4 : J1 (G + 4) k = J (G + 4) k := by rw [hJ, r2_b (by omega)]
      simp only [s27_10, s27_12, s27_13, s27_16, s27_19, s27_20, s27_22, s27_23, s27_26, s27_28, s27_31, s27_32, s27_35, s27_36, s27_39, s27_41, s27_44, s27_45, s27_48, s27_51, hf_bd_v, hf_bd_n, hf_iv_i, hf_iv_l, hf_iv_a, hf_iv_n, hf_iv_2, z_lgl, z_lgg, z_lge, z_lgle, z_lgz, Option.getD_some, Option.isSome_some, ↓reduceIte, not_true_eq_false, not_false_eq_true, Option.toList_some, Option.toList_none, List.cons_append, List.nil_append, Nat.reduceAdd, Nat.add_assoc, ku_ne, ku_same, ne_eq, Nat.reduceEqDiff, reduceCtorEq, Nat.add_eq_left, Nat.left_eq_add, Nat.reduceEqDiff, q10, q_ne, true_or, or_true, gr_k h, gr_r0 h, gr_r1 h, gr_r2 h, gr_r3 h, hc, z_ii (show c < 2147483648 by omega) (show k < 2147483648 by omega), hk1, z_1, (gr_rw5 h).1, (gr_rw7 h).1, c_get (gr_rw5 h) (show k < 64 by omega), c_get (gr_rw7 h) (show k < 64 by omega), c_by, c_shift h (show k < 64 by omega), e1, e2, e3, e4]
      rw [s27_54]
      exact ih _ _ (by omega) (by rw [hJ]; exact r2_s (by omega) rfl rfl)
  simp only [s27_0, s27_3, s27_4, s27_5, s27_6, s27_7, s27_8, hf_bd_v, hf_bd_n, hf_iv_i, hf_iv_l, hf_iv_a, hf_iv_n, hf_iv_2, z_lgl, z_lgg, z_lge, z_lgle, z_lgz, Option.getD_some, Option.isSome_some, ↓reduceIte, not_true_eq_false, not_false_eq_true, Option.toList_some, Option.toList_none, List.cons_append, List.nil_append, Nat.reduceAdd, Nat.add_assoc, ku_ne, ku_same, ne_eq, Nat.reduceEqDiff, reduceCtorEq, Nat.add_eq_left, Nat.left_eq_add, Nat.reduceEqDiff, q10, q_ne, true_or, or_true]
  exact loop c 0 J (by omega) r2_0.symm
end
