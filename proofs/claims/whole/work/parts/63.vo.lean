/-! VOIDS -/
section
variable {g : hf_G} {I : hf_I} {J : hf_J} {G c k m n : Nat} {u v w : Int64} {i j : Int32}
def shlL (v : Int64) (n : Int32) : Int64 := v <<< (n.toInt64 &&& 63)
/-- the cells beside those of some bits -/
def besL (c : Int64) : Int64 :=
  shlL c 8 ||| ushL c 56 ||| (ushL c 8 ||| shlL c 56) ||| (shlL c 1 &&& -72340172838076674 ||| ushL c 7 &&& 72340172838076673) ||| (ushL c 1 &&& 9187201950435737471 ||| shlL c 7 &&& -9187201950435737472)
theorem c_besides : hf_rn 108 0 [some (.long v), none, none, none, none, none, none, none, none, none] [] g I J = some (.inl (some (.long (besL v))), g, I, J) := by
  simp only [s108_0, s108_1, s108_3, s108_4, s108_5, s108_7, s108_8, s108_9, s108_10, s108_11, s108_13, s108_14, s108_15, s108_17, s108_18, s108_19, s108_21, s108_22, s108_23, s108_24, s108_27, s108_28, s108_29, s108_31, s108_32, s108_35, s108_36, s108_37, s108_39, s108_40, s108_41, s108_42, s108_45, s108_46, s108_47, s108_49, s108_50, s108_53, s108_54, s108_55, s108_57, s108_58, s108_60, s108_61, s108_63, s108_64, s108_66, s108_67, hf_bd_v, hf_bd_n, hf_iv_i, hf_iv_l, hf_iv_a, hf_iv_n, hf_iv_2, z_lgl, z_lgg, z_lge, z_lgle, z_lgz, Option.getD_some, Option.isSome_some, ↓reduceIte, not_true_eq_false, not_false_eq_true, Option.toList_some, Option.toList_none, List.cons_append, List.nil_append, Nat.reduceAdd, Nat.add_assoc, ku_ne, ku_same, ne_eq, Nat.reduceEqDiff, reduceCtorEq, Nat.add_eq_left, Nat.left_eq_add, Nat.reduceEqDiff, q10, q_ne, true_or, or_true, besL, shlL, ushL]
def sprL (f e : Int64) (t : Nat) : Int64 := it t f fun _ r => r ||| (besL r &&& e)
theorem c_spread : hf_rn 107 0 [some (.long v), none, some (.long w), none, none, none, none] [] g I J = some (.inl (some (.long (sprL v w 64))), g, I, J) := by
  have loop : ∀ (d t : Nat) (x : Int64), t + d = 64 → x = sprL v w t → hf_rn 107 6 [some (.long v), none, some (.long w), none, some (.long x), none, some (.int (nI t))] [] g I J = some (.inl (some (.long (sprL v w 64))), g, I, J) := by
    intro d
    induction d with
    | zero =>
      intro t x ht hx
      have e : t = 64 := by omega
      subst e
      have h64 : (64 : Int32) ≤ nI 64 := by decide
      simp only [s107_0, s107_1, s107_3, s107_4, s107_6, s107_8, s107_10, s107_13, s107_15, s107_17, s107_20, s107_21, s107_22, s107_23, s107_25, s107_31, s107_33, hf_bd_v, hf_bd_n, hf_iv_i, hf_iv_l, hf_iv_a, hf_iv_n, hf_iv_2, z_lgl, z_lgg, z_lge, z_lgle, z_lgz, Option.getD_some, Option.isSome_some, ↓reduceIte, not_true_eq_false, not_false_eq_true, Option.toList_some, Option.toList_none, List.cons_append, List.nil_append, Nat.reduceAdd, Nat.add_assoc, ku_ne, ku_same, ne_eq, Nat.reduceEqDiff, reduceCtorEq, Nat.add_eq_left, Nat.left_eq_add, Nat.reduceEqDiff, q10, q_ne, true_or, or_true, h64, hx]
    | succ d ih =>
      intro t x ht hx
      have h64 : ((64 : Int32) ≤ nI t) = (64 ≤ t) := z_ii (a := 64) (by decide) (by omega)
      have hk1 : ¬ 64 ≤ t := by omega
      simp only [s107_6, s107_8, s107_10, s107_13, s107_15, s107_17, s107_20, s107_21, s107_22, s107_23, s107_25, hf_bd_v, hf_bd_n, hf_iv_i, hf_iv_l, hf_iv_a, hf_iv_n, hf_iv_2, z_lgl, z_lgg, z_lge, z_lgle, z_lgz, Option.getD_some, Option.isSome_some, ↓reduceIte, not_true_eq_false, not_false_eq_true, Option.toList_some, Option.toList_none, List.cons_append, List.nil_append, Nat.reduceAdd, Nat.add_assoc, ku_ne, ku_same, ne_eq, Nat.reduceEqDiff, reduceCtorEq, Nat.add_eq_left, Nat.left_eq_add, Nat.reduceEqDiff, q10, q_ne, true_or, or_true, h64, hk1, c_besides, z_1]
      rw [s107_28]
      exact ih (t + 1) _ (by omega) (by rw [hx]; rfl)
  simp only [s107_0, s107_1, s107_3, s107_4, hf_bd_v, hf_bd_n, hf_iv_i, hf_iv_l, hf_iv_a, hf_iv_n, hf_iv_2, z_lgl, z_lgg, z_lge, z_lgle, z_lgz, Option.getD_some, Option.isSome_some, ↓reduceIte, not_true_eq_false, not_false_eq_true, Option.toList_some, Option.toList_none, List.cons_append, List.nil_append, Nat.reduceAdd, Nat.add_assoc, ku_ne, ku_same, ne_eq, Nat.reduceEqDiff, reduceCtorEq, Nat.add_eq_left, Nat.left_eq_add, Nat.reduceEqDiff, q10, q_ne, true_or, or_true]
  exact loop 64 0 _ rfl rfl
def tkL (c : Nat) (vc : Nat → Nat) : Int64 := it c 0 fun k s => s ||| bitL (vc k)
theorem q512 : ¬ (512 : Int64) = 0 := by decide
theorem c_without (h : Gr g G) (hc : I G 5 = nI c) (hc2 : c ≤ 64) (vc : Nat → Nat) (hv : ∀ m, m < c → vc m < 64 ∧ (8 * (J (G + 2) m / 512) + J (G + 4) m / 512).toInt32 = nI (vc m)) : hf_rn 106 0 [some (.ref G), none, none, none, none, none] [] g I J = some (.inl (some (.long (tkL c vc ^^^ -1))), g, I, J) := by
  have loop : ∀ (d t : Nat) (x : Int64) (l4 l5 : Option Value), t + d = c → x = tkL t vc → hf_rn 106 4 [some (.ref G), some (.long x), none, some (.int (nI t)), l4, l5] [] g I J = some (.inl (some (.long (tkL c vc ^^^ -1))), g, I, J) := by
    intro d
    induction d with
    | zero =>
      intro t x l4 l5 ht hx
      have e : t = c := by omega
      subst e
      simp only [s106_0, s106_1, s106_2, s106_3, s106_4, s106_5, s106_6, s106_9, s106_12, s106_13, s106_16, s106_17, s106_20, s106_23, s106_24, s106_26, s106_27, s106_30, s106_32, s106_33, s106_34, s106_37, s106_38, s106_41, s106_44, s106_45, s106_46, s106_47, s106_50, s106_51, s106_52, s106_58, s106_59, s106_62, s106_63, hf_bd_v, hf_bd_n, hf_iv_i, hf_iv_l, hf_iv_a, hf_iv_n, hf_iv_2, z_lgl, z_lgg, z_lge, z_lgle, z_lgz, Option.getD_some, Option.isSome_some, ↓reduceIte, not_true_eq_false, not_false_eq_true, Option.toList_some, Option.toList_none, List.cons_append, List.nil_append, Nat.reduceAdd, Nat.add_assoc, ku_ne, ku_same, ne_eq, Nat.reduceEqDiff, reduceCtorEq, Nat.add_eq_left, Nat.left_eq_add, Nat.reduceEqDiff, q10, q_ne, true_or, or_true, gr_k h, gr_r0 h, gr_r1 h, gr_r2 h, gr_r3 h, hc, hx, z_ii (show t < 2147483648 by omega) (show t < 2147483648 by omega), Nat.le_refl]
    | succ d ih =>
      intro t x l4 l5 ht hx
      have hk1 : ¬ c ≤ t := by omega
      have ht64 : t < 64 := by omega
      obtain ⟨m1, m2⟩ := hv t (by omega)
      simp only [s106_4, s106_5, s106_6, s106_9, s106_12, s106_13, s106_16, s106_17, s106_20, s106_23, s106_24, s106_26, s106_27, s106_30, s106_32, s106_33, s106_34, s106_37, s106_38, s106_41, s106_44, s106_45, s106_46, s106_47, s106_50, s106_51, s106_52, hf_bd_v, hf_bd_n, hf_iv_i, hf_iv_l, hf_iv_a, hf_iv_n, hf_iv_2, z_lgl, z_lgg, z_lge, z_lgle, z_lgz, Option.getD_some, Option.isSome_some, ↓reduceIte, not_true_eq_false, not_false_eq_true, Option.toList_some, Option.toList_none, List.cons_append, List.nil_append, Nat.reduceAdd, Nat.add_assoc, ku_ne, ku_same, ne_eq, Nat.reduceEqDiff, reduceCtorEq, Nat.add_eq_left, Nat.left_eq_add, Nat.reduceEqDiff, q10, q_ne, true_or, or_true, gr_k h, gr_r0 h, gr_r1 h, gr_r2 h, gr_r3 h, hc, z_ii (show c < 2147483648 by omega) (show t < 2147483648 by omega), hk1, z_1, (gr_rw1 h).1, (gr_rw3 h).1, c_get (gr_rw1 h) ht64, c_get (gr_rw3 h) ht64, q512, m2, c_bit m1]
      rw [s106_55]
      exact ih (t + 1) _ _ _ (by omega) (by rw [hx]; rfl)
  simp only [s106_0, s106_1, s106_2, s106_3, hf_bd_v, hf_bd_n, hf_iv_i, hf_iv_l, hf_iv_a, hf_iv_n, hf_iv_2, z_lgl, z_lgg, z_lge, z_lgle, z_lgz, Option.getD_some, Option.isSome_some, ↓reduceIte, not_true_eq_false, not_false_eq_true, Option.toList_some, Option.toList_none, List.cons_append, List.nil_append, Nat.reduceAdd, Nat.add_assoc, ku_ne, ku_same, ne_eq, Nat.reduceEqDiff, reduceCtorEq, Nat.add_eq_left, Nat.left_eq_add, Nat.reduceEqDiff, q10, q_ne, true_or, or_true]
  exact loop c 0 _ _ _ (by omega) rfl
/-- one cell is looked at -/
def hoS (k : Nat) (p : Int64 × Int32) : Int64 × Int32 := if btL p.1 k = true then (p.1 &&& (sprL (bitL k) p.1 64 ^^^ -1), if popI (sprL (bitL k) p.1 64) ≤ p.2 then p.2 else popI (sprL (bitL k) p.1 64)) else p
def hoF (l : Int64) (t : Nat) : Int64 × Int32 := it t (l, 0) hoS
theorem c_greatest (h : Gr g G) (hc : I G 5 = nI c) (hc2 : c ≤ 64) (vc : Nat → Nat) (hv : ∀ m, m < c → vc m < 64 ∧ (8 * (J (G + 2) m / 512) + J (G + 4) m / 512).toInt32 = nI (vc m)) : hf_rn 105 0 [some (.ref G), none, none, none, none, none, none] [] g I J = some (.inl (some (.int (hoF (tkL c vc ^^^ -1) 64).2)), g, I, J) := by
  have loop : ∀ (d t : Nat) (x : Int64) (y : Int32) (l5 l6 : Option Value), t + d = 64 → (x, y) = hoF (tkL c vc ^^^ -1) t → hf_rn 105 10 [some (.ref G), some (.long x), none, some (.int y), some (.int (nI t)), l5, l6] [] g I J = some (.inl (some (.int (hoF (tkL c vc ^^^ -1) 64).2)), g, I, J) := by
    intro d
    induction d with
    | zero =>
      intro t x y l5 l6 ht hx
      have e : t = 64 := by omega
      subst e
      have h64 : (64 : Int32) ≤ nI 64 := by decide
      rw [← hx]
      simp only [s105_0, s105_1, s105_4, s105_5, s105_6, s105_7, s105_8, s105_10, s105_12, s105_14, s105_17, s105_18, s105_20, s105_23, s105_26, s105_28, s105_31, s105_32, s105_35, s105_37, s105_38, s105_40, s105_43, s105_44, s105_45, s105_46, s105_47, s105_49, s105_52, s105_55, s105_56, s105_62, s105_63, hf_bd_v, hf_bd_n, hf_iv_i, hf_iv_l, hf_iv_a, hf_iv_n, hf_iv_2, z_lgl, z_lgg, z_lge, z_lgle, z_lgz, Option.getD_some, Option.isSome_some, ↓reduceIte, not_true_eq_false, not_false_eq_true, Option.toList_some, Option.toList_none, List.cons_append, List.nil_append, Nat.reduceAdd, Nat.add_assoc, ku_ne, ku_same, ne_eq, Nat.reduceEqDiff, reduceCtorEq, Nat.add_eq_left, Nat.left_eq_add, Nat.reduceEqDiff, q10, q_ne, true_or, or_true, h64]
    | succ d ih =>
      intro t x y l5 l6 ht hx
      have h64 : ((64 : Int32) ≤ nI t) = (64 ≤ t) := z_ii (a := 64) (by decide) (by omega)
      have hk1 : ¬ 64 ≤ t := by omega
      have ht64 : t < 64 := by omega
      have hs : hoF (tkL c vc ^^^ -1) (t + 1) = hoS t (x, y) := by rw [hoF, it_s, ← hoF, ← hx]
      cases hb : btL x t
      · simp only [s105_10, s105_12, s105_14, s105_17, s105_18, s105_20, s105_23, s105_26, s105_28, s105_31, s105_32, s105_35, s105_37, s105_38, s105_40, s105_43, s105_44, s105_45, s105_46, s105_47, s105_49, s105_52, s105_55, s105_56, hf_bd_v, hf_bd_n, hf_iv_i, hf_iv_l, hf_iv_a, hf_iv_n, hf_iv_2, z_lgl, z_lgg, z_lge, z_lgle, z_lgz, Option.getD_some, Option.isSome_some, ↓reduceIte, not_true_eq_false, not_false_eq_true, Option.toList_some, Option.toList_none, List.cons_append, List.nil_append, Nat.reduceAdd, Nat.add_assoc, ku_ne, ku_same, ne_eq, Nat.reduceEqDiff, reduceCtorEq, Nat.add_eq_left, Nat.left_eq_add, Nat.reduceEqDiff, q10, q_ne, true_or, or_true, h64, hk1, c_has ht64, hb, Bool.false_eq_true, z_1]
        rw [s105_59]
        exact ih (t + 1) _ _ _ _ (by omega) (by rw [hs, hoS, hb]; rfl)
      · simp only [s105_10, s105_12, s105_14, s105_17, s105_18, s105_20, s105_23, s105_26, s105_28, s105_31, s105_32, s105_35, s105_37, s105_38, s105_40, s105_43, s105_44, s105_45, s105_46, s105_47, s105_49, s105_52, s105_55, s105_56, hf_bd_v, hf_bd_n, hf_iv_i, hf_iv_l, hf_iv_a, hf_iv_n, hf_iv_2, z_lgl, z_lgg, z_lge, z_lgle, z_lgz, Option.getD_some, Option.isSome_some, ↓reduceIte, not_true_eq_false, not_false_eq_true, Option.toList_some, Option.toList_none, List.cons_append, List.nil_append, Nat.reduceAdd, Nat.add_assoc, ku_ne, ku_same, ne_eq, Nat.reduceEqDiff, reduceCtorEq, Nat.add_eq_left, Nat.left_eq_add, Nat.reduceEqDiff, q10, q_ne, true_or, or_true, h64, hk1, c_has ht64, hb, z_1, c_bit ht64, c_spread, c_pop, c_max]
        rw [s105_59]
        exact ih (t + 1) _ _ _ _ (by omega) (by rw [hs, hoS, hb]; rfl)
  simp only [s105_0, s105_1, s105_4, s105_5, s105_6, s105_7, s105_8, hf_bd_v, hf_bd_n, hf_iv_i, hf_iv_l, hf_iv_a, hf_iv_n, hf_iv_2, z_lgl, z_lgg, z_lge, z_lgle, z_lgz, Option.getD_some, Option.isSome_some, ↓reduceIte, not_true_eq_false, not_false_eq_true, Option.toList_some, Option.toList_none, List.cons_append, List.nil_append, Nat.reduceAdd, Nat.add_assoc, ku_ne, ku_same, ne_eq, Nat.reduceEqDiff, reduceCtorEq, Nat.add_eq_left, Nat.left_eq_add, Nat.reduceEqDiff, q10, q_ne, true_or, or_true, h.1, c_without h hc hc2 vc hv]
  exact loop 64 0 _ _ _ _ rfl rfl
end
