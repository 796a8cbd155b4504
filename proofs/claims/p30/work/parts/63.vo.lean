/-! VOIDS -/
section
variable {g : hf_G} {I : hf_I} {J : hf_J} {G c k m n : Nat} {u v w : Int64} {i j : Int32}
def shlL (v : Int64) (n : Int32) : Int64 := v <<< (n.toInt64 &&& 63)
/-- the cells beside those of some bits -/
def besL (c : Int64) : Int64 :=
  shlL c 8 ||| ushL c 56 ||| (ushL c 8 ||| shlL c 56) ||| (shlL c 1 &&& -72340172838076674 ||| ushL c 7 &&& 72340172838076673) ||| (ushL c 1 &&& 9187201950435737471 ||| shlL c 7 &&& -9187201950435737472)
theorem c_besides : hf_rn 107 0 [some (.long v), none, none, none, none, none, none, none, none, none] [] g I J = some (.inl (some (.long (besL v))), g, I, J) := by
  simp only [s107_0, s107_1, s107_3, s107_4, s107_5, s107_7, s107_8, s107_9, s107_10, s107_11, s107_13, s107_14, s107_15, s107_17, s107_18, s107_19, s107_21, s107_22, s107_23, s107_24, s107_27, s107_28, s107_29, s107_31, s107_32, s107_35, s107_36, s107_37, s107_39, s107_40, s107_41, s107_42, s107_45, s107_46, s107_47, s107_49, s107_50, s107_53, s107_54, s107_55, s107_57, s107_58, s107_60, s107_61, s107_63, s107_64, s107_66, s107_67, hf_bd_v, hf_bd_n, hf_iv_i, hf_iv_l, hf_iv_a, hf_iv_n, hf_iv_2, z_lgl, z_lgg, z_lge, z_lgle, z_lgz, Option.getD_some, Option.isSome_some, ↓reduceIte, not_true_eq_false, not_false_eq_true, Option.toList_some, Option.toList_none, List.cons_append, List.nil_append, Nat.reduceAdd, Nat.add_assoc, ku_ne, ku_same, ne_eq, Nat.reduceEqDiff, reduceCtorEq, Nat.add_eq_left, Nat.left_eq_add, Nat.reduceEqDiff, q10, q_ne, true_or, or_true, besL, shlL, ushL]
def sprL (f e : Int64) (t : Nat) : Int64 := it t f fun _ r => r ||| (besL r &&& e)
theorem c_spread : hf_rn 106 0 [some (.long v), none, some (.long w), none, none, none, none] [] g I J = some (.inl (some (.long (sprL v w 64))), g, I, J) := by
  have loop : ∀ (d t : Nat) (x : Int64), t + d = 64 → x = sprL v w t → hf_rn 106 6 [some (.long v), none, some (.long w), none, some (.long x), none, some (.int (nI t))] [] g I J = some (.inl (some (.long (sprL v w 64))), g, I, J) := by
    intro d
    induction d with
    | zero =>
      intro t x ht hx
      have e : t = 64 := by omega
      subst e
      have h64 : (64 : Int32) ≤ nI 64 := by decide
      simp only [s106_0, s106_1, s106_3, s106_4, s106_6, s106_8, s106_10, s106_13, s106_15, s106_17, s106_20, s106_21, s106_22, s106_23, s106_25, s106_31, s106_33, hf_bd_v, hf_bd_n, hf_iv_i, hf_iv_l, hf_iv_a, hf_iv_n, hf_iv_2, z_lgl, z_lgg, z_lge, z_lgle, z_lgz, Option.getD_some, Option.isSome_some, ↓reduceIte, not_true_eq_false, not_false_eq_true, Option.toList_some, Option.toList_none, List.cons_append, List.nil_append, Nat.reduceAdd, Nat.add_assoc, ku_ne, ku_same, ne_eq, Nat.reduceEqDiff, reduceCtorEq, Nat.add_eq_left, Nat.left_eq_add, Nat.reduceEqDiff, q10, q_ne, true_or, or_true, h64, hx]
    | succ d ih =>
      intro t x ht hx
      have h64 : ((64 : Int32) ≤ nI t) = (64 ≤ t) := z_ii (a := 64) (by decide) (by omega)
      have hk1 : ¬ 64 ≤ t := by omega
      simp only [s106_6, s106_8, s106_10, s106_13, s106_15, s106_17, s106_20, s106_21, s106_22, s106_23, s106_25, hf_bd_v, hf_bd_n, hf_iv_i, hf_iv_l, hf_iv_a, hf_iv_n, hf_iv_2, z_lgl, z_lgg, z_lge, z_lgle, z_lgz, Option.getD_some, Option.isSome_some, ↓reduceIte, not_true_eq_false, not_false_eq_true, Option.toList_some, Option.toList_none, List.cons_append, List.nil_append, Nat.reduceAdd, Nat.add_assoc, ku_ne, ku_same, ne_eq, Nat.reduceEqDiff, reduceCtorEq, Nat.add_eq_left, Nat.left_eq_add, Nat.reduceEqDiff, q10, q_ne, true_or, or_true, h64, hk1, c_besides, z_1]
      rw [s106_28]
      exact ih (t + 1) _ (by omega) (by rw [hx]; rfl)
  simp only [s106_0, s106_1, s106_3, s106_4, hf_bd_v, hf_bd_n, hf_iv_i, hf_iv_l, hf_iv_a, hf_iv_n, hf_iv_2, z_lgl, z_lgg, z_lge, z_lgle, z_lgz, Option.getD_some, Option.isSome_some, ↓reduceIte, not_true_eq_false, not_false_eq_true, Option.toList_some, Option.toList_none, List.cons_append, List.nil_append, Nat.reduceAdd, Nat.add_assoc, ku_ne, ku_same, ne_eq, Nat.reduceEqDiff, reduceCtorEq, Nat.add_eq_left, Nat.left_eq_add, Nat.reduceEqDiff, q10, q_ne, true_or, or_true]
  exact loop 64 0 _ rfl rfl
def tkL (c : Nat) (vc : Nat → Nat) : Int64 := it c 0 fun k s => s ||| bitL (vc k)
theorem q512 : ¬ (512 : Int64) = 0 := by decide
theorem c_without (h : Gr g G) (hc : I G 5 = nI c) (hc2 : c ≤ 64) (vc : Nat → Nat) (hv : ∀ m, m < c → vc m < 64 ∧ (8 * (J (G + 2) m / 512) + J (G + 4) m / 512).toInt32 = nI (vc m)) : hf_rn 105 0 [some (.ref G), none, none, none, none, none] [] g I J = some (.inl (some (.long (tkL c vc ^^^ -1))), g, I, J) := by
  have loop : ∀ (d t : Nat) (x : Int64) (l4 l5 : Option Value), t + d = c → x = tkL t vc → hf_rn 105 4 [some (.ref G), some (.long x), none, some (.int (nI t)), l4, l5] [] g I J = some (.inl (some (.long (tkL c vc ^^^ -1))), g, I, J) := by
    intro d
    induction d with
    | zero =>
      intro t x l4 l5 ht hx
      have e : t = c := by omega
      subst e
      simp only [s105_0, s105_1, s105_2, s105_3, s105_4, s105_5, s105_6, s105_9, s105_12, s105_13, s105_16, s105_17, s105_20, s105_23, s105_24, s105_26, s105_27, s105_30, s105_32, s105_33, s105_34, s105_37, s105_38, s105_41, s105_44, s105_45, s105_46, s105_47, s105_50, s105_51, s105_52, s105_58, s105_59, s105_62, s105_63, hf_bd_v, hf_bd_n, hf_iv_i, hf_iv_l, hf_iv_a, hf_iv_n, hf_iv_2, z_lgl, z_lgg, z_lge, z_lgle, z_lgz, Option.getD_some, Option.isSome_some, ↓reduceIte, not_true_eq_false, not_false_eq_true, Option.toList_some, Option.toList_none, List.cons_append, List.nil_append, Nat.reduceAdd, Nat.add_assoc, ku_ne, ku_same, ne_eq, Nat.reduceEqDiff, reduceCtorEq, Nat.add_eq_left, Nat.left_eq_add, Nat.reduceEqDiff, q10, q_ne, true_or, or_true, gr_k h, gr_r0 h, gr_r1 h, gr_r2 h, gr_r3 h, hc, hx, z_ii (show t < 2147483648 by omega) (show t < 2147483648 by omega), Nat.le_refl]
    | succ d ih =>
      intro t x l4 l5 ht hx
      have hk1 : ¬ c ≤ t := by omega
      have ht64 : t < 64 := by omega
      obtain ⟨m1, m2⟩ := hv t (by omega)
      simp only [s105_4, s105_5, s105_6, s105_9, s105_12, s105_13, s105_16, s105_17, s105_20, s105_23, s105_24, s105_26, s105_27, s105_30, s105_32, s105_33, s105_34, s105_37, s105_38, s105_41, s105_44, s105_45, s105_46, s105_47, s105_50, s105_51, s105_52, hf_bd_v, hf_bd_n, hf_iv_i, hf_iv_l, hf_iv_a, hf_iv_n, hf_iv_2, z_lgl, z_lgg, z_lge, z_lgle, z_lgz, Option.getD_some, Option.isSome_some, ↓reduceIte, not_true_eq_false, not_false_eq_true, Option.toList_some, Option.toList_none, List.cons_append, List.nil_append, Nat.reduceAdd, Nat.add_assoc, ku_ne, ku_same, ne_eq, Nat.reduceEqDiff, reduceCtorEq, Nat.add_eq_left, Nat.left_eq_add, Nat.reduceEqDiff, q10, q_ne, true_or, or_true, gr_k h, gr_r0 h, gr_r1 h, gr_r2 h, gr_r3 h, hc, z_ii (show c < 2147483648 by omega) (show t < 2147483648 by omega), hk1, z_1, (gr_rw1 h).1, (gr_rw3 h).1, c_get (gr_rw1 h) ht64, c_get (gr_rw3 h) ht64, q512, m2, c_bit m1]
      rw [s105_55]
      exact ih (t + 1) _ _ _ (by omega) (by rw [hx]; rfl)
  simp only [s105_0, s105_1, s105_2, s105_3, hf_bd_v, hf_bd_n, hf_iv_i, hf_iv_l, hf_iv_a, hf_iv_n, hf_iv_2, z_lgl, z_lgg, z_lge, z_lgle, z_lgz, Option.getD_some, Option.isSome_some, ↓reduceIte, not_true_eq_false, not_false_eq_true, Option.toList_some, Option.toList_none, List.cons_append, List.nil_append, Nat.reduceAdd, Nat.add_assoc, ku_ne, ku_same, ne_eq, Nat.reduceEqDiff, reduceCtorEq, Nat.add_eq_left, Nat.left_eq_add, Nat.reduceEqDiff, q10, q_ne, true_or, or_true]
  exact loop c 0 _ _ _ (by omega) rfl
/-- one cell is looked at -/
def hoS (k : Nat) (p : Int64 × Int32) : Int64 × Int32 := if btL p.1 k = true then (p.1 &&& (sprL (bitL k) p.1 64 ^^^ -1), if popI (sprL (bitL k) p.1 64) ≤ p.2 then p.2 else popI (sprL (bitL k) p.1 64)) else p
def hoF (l : Int64) (t : Nat) : Int64 × Int32 := it t (l, 0) hoS
theorem c_greatest (h : Gr g G) (hc : I G 5 = nI c) (hc2 : c ≤ 64) (vc : Nat → Nat) (hv : ∀ m, m < c → vc m < 64 ∧ (8 * (J (G + 2) m / 512) + J (G + 4) m / 512).toInt32 = nI (vc m)) : hf_rn 104 0 [some (.ref G), none, none, none, none, none, none] [] g I J = some (.inl (some (.int (hoF (tkL c vc ^^^ -1) 64).2)), g, I, J) := by
  have loop : ∀ (d t : Nat) (x : Int64) (y : Int32) (l5 l6 : Option Value), t + d = 64 → (x, y) = hoF (tkL c vc ^^^ -1) t → hf_rn 104 10 [some (.ref G), some (.long x), none, some (.int y), some (.int (nI t)), l5, l6] [] g I J = some (.inl (some (.int (hoF (tkL c vc ^^^ -1) 64).2)), g, I, J) := by
    intro d
    induction d with
    | zero =>
      intro t x y l5 l6 ht hx
      have e : t = 64 := by omega
      subst e
      have h64 : (64 : Int32) ≤ nI 64 := by decide
      rw [← hx]
      simp only [s104_0, s104_1, s104_4, s104_5, s104_6, s104_7, s104_8, s104_10, s104_12, s104_14, s104_17, s104_18, s104_20, s104_23, s104_26, s104_28, s104_31, s104_32, s104_35, s104_37, s104_38, s104_40, s104_43, s104_44, s104_45, s104_46, s104_47, s104_49, s104_52, s104_55, s104_56, s104_62, s104_63, hf_bd_v, hf_bd_n, hf_iv_i, hf_iv_l, hf_iv_a, hf_iv_n, hf_iv_2, z_lgl, z_lgg, z_lge, z_lgle, z_lgz, Option.getD_some, Option.isSome_some, ↓reduceIte, not_true_eq_false, not_false_eq_true, Option.toList_some, Option.toList_none, List.cons_append, List.nil_append, Nat.reduceAdd, Nat.add_assoc, ku_ne, ku_same, ne_eq, Nat.reduceEqDiff, reduceCtorEq, Nat.add_eq_left, Nat.left_eq_add, Nat.reduceEqDiff, q10, q_ne, true_or, or_true, h64]
    | succ d ih =>
      intro t x y l5 l6 ht hx
      have h64 : ((64 : Int32) ≤ nI t) = (64 ≤ t) := z_ii (a := 64) (by decide) (by omega)
      have hk1 : ¬ 64 ≤ t := by omega
      have ht64 : t < 64 := by omega
      have hs : hoF (tkL c vc ^^^ -1) (t + 1) = hoS t (x, y) := by rw [hoF, it_s, ← hoF, ← hx]
      cases hb : btL x t
      · simp only [s104_10, s104_12, s104_14, s104_17, s104_18, s104_20, s104_23, s104_26, s104_28, s104_31, s104_32, s104_35, s104_37, s104_38, s104_40, s104_43, s104_44, s104_45, s104_46, s104_47, s104_49, s104_52, s104_55, s104_56, hf_bd_v, hf_bd_n, hf_iv_i, hf_iv_l, hf_iv_a, hf_iv_n, hf_iv_2, z_lgl, z_lgg, z_lge, z_lgle, z_lgz, Option.getD_some, Option.isSome_some, ↓reduceIte, not_true_eq_false, not_false_eq_true, Option.toList_some, Option.toList_none, List.cons_append, List.nil_append, Nat.reduceAdd, Nat.add_assoc, ku_ne, ku_same, ne_eq, Nat.reduceEqDiff, reduceCtorEq, Nat.add_eq_left, Nat.left_eq_add, Nat.reduceEqDiff, q10, q_ne, true_or, or_true, h64, hk1, c_has ht64, hb, Bool.false_eq_true, z_1]
        rw [s104_59]
        exact ih (t + 1) _ _ _ _ (by omega) (by rw [hs, hoS, hb]; rfl)
      · simp only [s104_10, s104_12, s104_14, s104_17, s104_18, s104_20, s104_23, s104_26, s104_28, s104_31, s104_32, s104_35, s104_37, s104_38, s104_40, s104_43, s104_44, s104_45, s104_46, s104_47, s104_49, s104_52, s104_55, s104_56, hf_bd_v, hf_bd_n, hf_iv_i, hf_iv_l, hf_iv_a, hf_iv_n, hf_iv_2, z_lgl, z_lgg, z_lge, z_lgle, z_lgz, Option.getD_some, Option.isSome_some, ↓reduceIte, not_true_eq_false, not_false_eq_true, Option.toList_some, Option.toList_none, List.cons_append, List.nil_append, Nat.reduceAdd, Nat.add_assoc, ku_ne, ku_same, ne_eq, Nat.reduceEqDiff, reduceCtorEq, Nat.add_eq_left, Nat.left_eq_add, Nat.reduceEqDiff, q10, q_ne, true_or, or_true, h64, hk1, c_has ht64, hb, z_1, c_bit ht64, c_spread, c_pop, c_max]
        rw [s104_59]
        exact ih (t + 1) _ _ _ _ (by omega) (by rw [hs, hoS, hb]; rfl)
  simp only [s104_0, s104_1, s104_4, s104_5, s104_6, s104_7, s104_8, hf_bd_v, hf_bd_n, hf_iv_i, hf_iv_l, hf_iv_a, hf_iv_n, hf_iv_2, z_lgl, z_lgg, z_lge, z_lgle, z_lgz, Option.getD_some, Option.isSome_some, ↓reduceIte, not_true_eq_false, not_false_eq_true, Option.toList_some, Option.toList_none, List.cons_append, List.nil_append, Nat.reduceAdd, Nat.add_assoc, ku_ne, ku_same, ne_eq, Nat.reduceEqDiff, reduceCtorEq, Nat.add_eq_left, Nat.left_eq_add, Nat.reduceEqDiff, q10, q_ne, true_or, or_true, h.1, c_without h hc hc2 vc hv]
  exact loop 64 0 _ _ _ _ rfl rfl
end
