/-! SCENES: halos -/
section
variable {g : hf_G} {I : hf_I} {J : hf_J} {S c k m n q : Nat} {u v w : Int64} {i j : Int32} {H : Nat → Int64}
theorem ku_ku {α : Type} {f : Nat → Nat → α} {a k : Nat} {v w : α} : hf_u (hf_u f a k v) a k w = hf_u f a k w := by
  funext y z
  by_cases h1 : y = a ∧ z = k
  · simp [hf_u, h1]
  · simp [hf_u, h1]
theorem im1 (i : Int32) : i + -1 = i - 1 := (Int32.sub_eq_add_neg i 1).symm
/-- those with fewer than b are shifted by one place -/
def shH (b : Int32) : Nat → (Nat → Int64) → Nat × (Nat → Int64)
  | 0, H => (0, H)
  | a + 1, H => if popI (H a) < b then shH b a (up H (a + 1) (H a)) else (a + 1, H)
def insH (n : Nat) (H : Nat → Int64) (v : Int64) : Nat → Int64 := up (shH (popI v) n H).2 (shH (popI v) n H).1 v
theorem shH_le {b : Int32} : ∀ {a : Nat} {H : Nat → Int64}, (shH b a H).1 ≤ a := by
  intro a
  induction a with
  | zero => intro H; exact Nat.le_refl _
  | succ a ih =>
    intro H
    rw [shH]
    split
    · exact Nat.le_succ_of_le ih
    · exact Nat.le_refl _
theorem c_insert (h : Sc g S) (hn : I S 2 = nI n) (hn2 : n < 64) : hf_rn 79 0 [some (.ref S), some (.long v), none, none, none] [] g I (hf_w J (S + 11) H) = some (.inl none, g, hf_u I S 2 (nI (n + 1)), hf_w J (S + 11) (insH n H v)) := by
  have loop : ∀ (a : Nat) (H1 : Nat → Int64) (x : Int32), a ≤ n → x = nI a - 1 → shH (popI v) a H1 = shH (popI v) n H → hf_rn 79 13 [some (.ref S), some (.long v), none, some (.int (nI a)), some (.int x)] [] g I (hf_w J (S + 11) H1) = some (.inl none, g, hf_u I S 2 (nI (n + 1)), hf_w J (S + 11) (insH n H v)) := by
    intro a
    induction a with
    | zero =>
      intro H1 x ha hx hs
      have h1 : x < 0 := by rw [hx]; decide
      have e : insH n H v = up H1 0 v := by rw [insH, ← hs]; rfl
      simp only [s79_0, s79_1, s79_4, s79_5, s79_6, s79_9, s79_10, s79_11, s79_13, s79_15, s79_18, s79_19, s79_21, s79_24, s79_25, s79_28, s79_31, s79_32, s79_35, s79_37, s79_38, s79_39, s79_40, s79_43, s79_45, s79_48, s79_51, s79_53, s79_54, s79_60, s79_61, s79_64, s79_65, s79_66, s79_69, s79_70, s79_71, s79_74, s79_75, s79_76, s79_79, hf_bd_v, hf_bd_n, hf_iv_i, hf_iv_l, hf_iv_a, hf_iv_n, hf_iv_2, z_lgl, z_lgg, z_lge, z_lgle, z_lgz, Option.getD_some, Option.isSome_some, ↓reduceIte, not_true_eq_false, not_false_eq_true, Option.toList_some, Option.toList_none, List.cons_append, List.nil_append, Nat.reduceAdd, Nat.add_assoc, ku_ne, ku_same, ne_eq, Nat.reduceEqDiff, reduceCtorEq, Nat.add_eq_left, Nat.left_eq_add, Nat.reduceEqDiff, q10, q_ne, true_or, or_true, sc_k h, sc_r0 h, sc_r1 h, h1, hn, (sc_rw10 h).1, c_set (sc_rw10 h) (show 0 < 64 by decide), kuw, z_1, e]
    | succ a ih =>
      intro H1 x ha hx hs
      rw [nI_pred] at hx
      have h1 : ¬ x < 0 := by rw [hx]; exact nI_pos (by omega)
      by_cases hb : popI (H1 a) < popI v
      · have hb2 : ¬ popI v ≤ popI (H1 a) := by rw [Int32.le_iff_toInt_le]; rw [Int32.lt_iff_toInt_lt] at hb; omega
        simp only [s79_13, s79_15, s79_18, s79_19, s79_21, s79_24, s79_25, s79_28, s79_31, s79_32, s79_35, s79_37, s79_38, s79_39, s79_40, s79_43, s79_45, s79_48, s79_51, s79_53, s79_54, hf_bd_v, hf_bd_n, hf_iv_i, hf_iv_l, hf_iv_a, hf_iv_n, hf_iv_2, z_lgl, z_lgg, z_lge, z_lgle, z_lgz, Option.getD_some, Option.isSome_some, ↓reduceIte, not_true_eq_false, not_false_eq_true, Option.toList_some, Option.toList_none, List.cons_append, List.nil_append, Nat.reduceAdd, Nat.add_assoc, ku_ne, ku_same, ne_eq, Nat.reduceEqDiff, reduceCtorEq, Nat.add_eq_left, Nat.left_eq_add, Nat.reduceEqDiff, q10, q_ne, true_or, or_true, sc_k h, sc_r0 h, sc_r1 h, h1, hn, h.1, hx, z_i0 (show a < 2147483648 by omega), c_howMany h (show a < 64 by omega), kw_row, c_pop, hb2, (sc_rw10 h).1, c_get (sc_rw10 h) (show a < 64 by omega), c_set (sc_rw10 h) (show a + 1 < 64 by omega), kuw, z_1]
        rw [s79_57]
        exact ih _ _ (by omega) (by rw [im1]) (by rw [← hs, shH, if_pos hb])
      · have hb2 : popI v ≤ popI (H1 a) := by rw [Int32.le_iff_toInt_le]; rw [Int32.lt_iff_toInt_lt] at hb; omega
        have e : insH n H v = up H1 (a + 1) v := by rw [insH, ← hs, shH, if_neg hb]
        simp only [s79_0, s79_1, s79_4, s79_5, s79_6, s79_9, s79_10, s79_11, s79_13, s79_15, s79_18, s79_19, s79_21, s79_24, s79_25, s79_28, s79_31, s79_32, s79_35, s79_37, s79_38, s79_39, s79_40, s79_43, s79_45, s79_48, s79_51, s79_53, s79_54, s79_60, s79_61, s79_64, s79_65, s79_66, s79_69, s79_70, s79_71, s79_74, s79_75, s79_76, s79_79, hf_bd_v, hf_bd_n, hf_iv_i, hf_iv_l, hf_iv_a, hf_iv_n, hf_iv_2, z_lgl, z_lgg, z_lge, z_lgle, z_lgz, Option.getD_some, Option.isSome_some, ↓reduceIte, not_true_eq_false, not_false_eq_true, Option.toList_some, Option.toList_none, List.cons_append, List.nil_append, Nat.reduceAdd, Nat.add_assoc, ku_ne, ku_same, ne_eq, Nat.reduceEqDiff, reduceCtorEq, Nat.add_eq_left, Nat.left_eq_add, Nat.reduceEqDiff, q10, q_ne, true_or, or_true, sc_k h, sc_r0 h, sc_r1 h, h1, hn, h.1, hx, z_i0 (show a < 2147483648 by omega), c_howMany h (show a < 64 by omega), kw_row, c_pop, hb2, (sc_rw10 h).1, c_set (sc_rw10 h) (show a + 1 < 64 by omega), kuw, z_1, e]
  simp only [s79_0, s79_1, s79_4, s79_5, s79_6, s79_9, s79_10, s79_11, hf_bd_v, hf_bd_n, hf_iv_i, hf_iv_l, hf_iv_a, hf_iv_n, hf_iv_2, z_lgl, z_lgg, z_lge, z_lgle, z_lgz, Option.getD_some, Option.isSome_some, ↓reduceIte, not_true_eq_false, not_false_eq_true, Option.toList_some, Option.toList_none, List.cons_append, List.nil_append, Nat.reduceAdd, Nat.add_assoc, ku_ne, ku_same, ne_eq, Nat.reduceEqDiff, reduceCtorEq, Nat.add_eq_left, Nat.left_eq_add, Nat.reduceEqDiff, q10, q_ne, true_or, or_true, sc_k h, sc_r0 h, sc_r1 h, hn]
  exact loop n H _ (Nat.le_refl _) rfl rfl
/-- one grain is looked at -/
def fhs (c : Nat) (X Y : Nat → Int64) (l : Int64) (le : Int32) (k : Nat) (p : Int64 × Nat × (Nat → Int64)) : Int64 × Nat × (Nat → Int64) :=
  if btL p.1 k = true then p else (p.1 ||| grpL c X Y l k, if le ≤ popI (grpL c X Y l k) then (p.2.1 + 1, insH p.2.1 p.2.2 (grpL c X Y l k)) else p.2)
def fhF (c : Nat) (X Y : Nat → Int64) (l : Int64) (le : Int32) (H : Nat → Int64) (t : Nat) : Int64 × Nat × (Nat → Int64) := it t (0, 0, H) (fhs c X Y l le)
theorem fhF_le {X Y : Nat → Int64} {le : Int32} : ∀ t, (fhF c X Y v le H t).2.1 ≤ t := by
  intro t
  induction t with
  | zero => exact Nat.le_refl _
  | succ t ih =>
    rw [fhF, it_s, ← fhF, fhs]
    split
    · exact Nat.le_succ_of_le ih
    · dsimp only
      split
      · exact Nat.succ_le_succ ih
      · exact Nat.le_succ_of_le ih
theorem c_findHalos (h : Sc g S) (hc : I (S + 1) 5 = nI c) (hc2 : c ≤ 64) : hf_rn 76 0 [some (.ref S), some (.long v), none, some (.int i), none, none, none, none, none] [] g I J = some (.inl none, g, hf_u (hf_u I S 4 i) S 2 (nI (fhF c (J (S + 3)) (J (S + 5)) v i (J (S + 11)) c).2.1), hf_w (hf_u J S 3 v) (S + 11) (fhF c (J (S + 3)) (J (S + 5)) v i (J (S + 11)) c).2.2) := by
  have hg := sc_gr1 h
  have loop : ∀ (d t n : Nat) (x : Int64) (H : Nat → Int64) (l7 l8 : Option Value), t + d = c → (x, n, H) = fhF c (J (S + 3)) (J (S + 5)) v i (J (S + 11)) t → hf_rn 76 21 [some (.ref S), some (.long v), none, some (.int i), some (.long x), none, some (.int (nI t)), l7, l8] [] g (hf_u (hf_u I S 4 i) S 2 (nI n)) (hf_w (hf_u J S 3 v) (S + 11) H) = some (.inl none, g, hf_u (hf_u I S 4 i) S 2 (nI (fhF c (J (S + 3)) (J (S + 5)) v i (J (S + 11)) c).2.1), hf_w (hf_u J S 3 v) (S + 11) (fhF c (J (S + 3)) (J (S + 5)) v i (J (S + 11)) c).2.2) := by
    intro d
    induction d with
    | zero =>
      intro t n x H l7 l8 ht hx
      have e : t = c := by omega
      subst e
      have hc1 : hf_u (hf_u I S 4 i) S 2 (nI n) (S + 1) 5 = nI t := by rw [ku_ne (by omega), ku_ne (by omega), hc]
      rw [← hx]
      simp only [s76_0, s76_1, s76_2, s76_5, s76_6, s76_7, s76_10, s76_11, s76_12, s76_15, s76_16, s76_18, s76_19, s76_21, s76_23, s76_24, s76_27, s76_30, s76_33, s76_35, s76_37, s76_40, s76_43, s76_44, s76_46, s76_49, s76_51, s76_53, s76_55, s76_56, s76_58, s76_60, s76_63, s76_64, s76_67, s76_68, s76_70, s76_73, s76_79, hf_bd_v, hf_bd_n, hf_iv_i, hf_iv_l, hf_iv_a, hf_iv_n, hf_iv_2, z_lgl, z_lgg, z_lge, z_lgle, z_lgz, Option.getD_some, Option.isSome_some, ↓reduceIte, not_true_eq_false, not_false_eq_true, Option.toList_some, Option.toList_none, List.cons_append, List.nil_append, Nat.reduceAdd, Nat.add_assoc, ku_ne, ku_same, ne_eq, Nat.reduceEqDiff, reduceCtorEq, Nat.add_eq_left, Nat.left_eq_add, Nat.reduceEqDiff, q10, q_ne, true_or, or_true, sc_k h, sc_r0 h, sc_r1 h, hg.1, hc1, z_ii (show t < 2147483648 by omega) (show t < 2147483648 by omega), Nat.le_refl]
    | succ d ih =>
      intro t n x H l7 l8 ht hx
      have hk1 : ¬ c ≤ t := by omega
      have ht64 : t < 64 := by omega
      have hc1 : hf_u (hf_u I S 4 i) S 2 (nI n) (S + 1) 5 = nI c := by rw [ku_ne (by omega), ku_ne (by omega), hc]
      have hn1 : hf_u (hf_u I S 4 i) S 2 (nI n) S 2 = nI n := ku_same
      have hnt : n ≤ t := by have := @fhF_le c v (J (S + 11)) (J (S + 3)) (J (S + 5)) i t; rw [← hx] at this; exact this
      have e3 : hf_w (hf_u J S 3 v) (S + 11) H (S + 3) = J (S + 3) := by rw [kw_ne (by omega), ku_ne (by omega)]
      have e5 : hf_w (hf_u J S 3 v) (S + 11) H (S + 5) = J (S + 5) := by rw [kw_ne (by omega), ku_ne (by omega)]
      have e6 : hf_w (hf_u J S 3 v) (S + 11) H S 3 = v := by rw [kw_ne (by omega), ku_same]
      have hgo := c_groupOf (J := hf_w (hf_u J S 3 v) (S + 11) H) h hc1 hc2 ht64
      rw [e3, e5, e6] at hgo
      have hs : fhF c (J (S + 3)) (J (S + 5)) v i (J (S + 11)) (t + 1) = fhs c (J (S + 3)) (J (S + 5)) v i t (x, n, H) := by rw [fhF, it_s, ← fhF, ← hx]
      cases hb : btL x t
      · by_cases hl : i ≤ popI (grpL c (J (S + 3)) (J (S + 5)) v t)
        · have hl2 : ¬ popI (grpL c (J (S + 3)) (J (S + 5)) v t) < i := by rw [Int32.lt_iff_toInt_lt]; rw [Int32.le_iff_toInt_le] at hl; omega
          simp only [s76_21, s76_23, s76_24, s76_27, s76_30, s76_33, s76_35, s76_37, s76_40, s76_43, s76_44, s76_46, s76_49, s76_51, s76_53, s76_55, s76_56, s76_58, s76_60, s76_63, s76_64, s76_67, s76_68, s76_70, s76_73, hf_bd_v, hf_bd_n, hf_iv_i, hf_iv_l, hf_iv_a, hf_iv_n, hf_iv_2, z_lgl, z_lgg, z_lge, z_lgle, z_lgz, Option.getD_some, Option.isSome_some, ↓reduceIte, not_true_eq_false, not_false_eq_true, Option.toList_some, Option.toList_none, List.cons_append, List.nil_append, Nat.reduceAdd, Nat.add_assoc, ku_ne, ku_same, ne_eq, Nat.reduceEqDiff, reduceCtorEq, Nat.add_eq_left, Nat.left_eq_add, Nat.reduceEqDiff, q10, q_ne, true_or, or_true, sc_k h, sc_r0 h, sc_r1 h, hg.1, h.1, hc1, z_ii (show c < 2147483648 by omega) (show t < 2147483648 by omega), hk1, z_1, c_has ht64, hb, hgo, c_pop, hl2, c_insert h hn1 (show n < 64 by omega), Bool.false_eq_true]
          rw [s76_76, ku_ku]
          exact ih (t + 1) _ _ _ _ _ (by omega) (by rw [hs, fhs]; simp [hb, hl])
        · have hl2 : popI (grpL c (J (S + 3)) (J (S + 5)) v t) < i := by rw [Int32.lt_iff_toInt_lt]; rw [Int32.le_iff_toInt_le] at hl; omega
          simp only [s76_21, s76_23, s76_24, s76_27, s76_30, s76_33, s76_35, s76_37, s76_40, s76_43, s76_44, s76_46, s76_49, s76_51, s76_53, s76_55, s76_56, s76_58, s76_60, s76_63, s76_64, s76_67, s76_68, s76_70, s76_73, hf_bd_v, hf_bd_n, hf_iv_i, hf_iv_l, hf_iv_a, hf_iv_n, hf_iv_2, z_lgl, z_lgg, z_lge, z_lgle, z_lgz, Option.getD_some, Option.isSome_some, ↓reduceIte, not_true_eq_false, not_false_eq_true, Option.toList_some, Option.toList_none, List.cons_append, List.nil_append, Nat.reduceAdd, Nat.add_assoc, ku_ne, ku_same, ne_eq, Nat.reduceEqDiff, reduceCtorEq, Nat.add_eq_left, Nat.left_eq_add, Nat.reduceEqDiff, q10, q_ne, true_or, or_true, sc_k h, sc_r0 h, sc_r1 h, hg.1, h.1, hc1, z_ii (show c < 2147483648 by omega) (show t < 2147483648 by omega), hk1, z_1, c_has ht64, hb, hgo, c_pop, hl2, Bool.false_eq_true]
          rw [s76_76]
          exact ih (t + 1) _ _ _ _ _ (by omega) (by rw [hs, fhs]; simp [hb, hl])
      · simp only [s76_21, s76_23, s76_24, s76_27, s76_30, s76_33, s76_35, s76_37, s76_40, s76_43, s76_44, s76_46, s76_49, s76_51, s76_53, s76_55, s76_56, s76_58, s76_60, s76_63, s76_64, s76_67, s76_68, s76_70, s76_73, hf_bd_v, hf_bd_n, hf_iv_i, hf_iv_l, hf_iv_a, hf_iv_n, hf_iv_2, z_lgl, z_lgg, z_lge, z_lgle, z_lgz, Option.getD_some, Option.isSome_some, ↓reduceIte, not_true_eq_false, not_false_eq_true, Option.toList_some, Option.toList_none, List.cons_append, List.nil_append, Nat.reduceAdd, Nat.add_assoc, ku_ne, ku_same, ne_eq, Nat.reduceEqDiff, reduceCtorEq, Nat.add_eq_left, Nat.left_eq_add, Nat.reduceEqDiff, q10, q_ne, true_or, or_true, sc_k h, sc_r0 h, sc_r1 h, hg.1, h.1, hc1, z_ii (show c < 2147483648 by omega) (show t < 2147483648 by omega), hk1, z_1, c_has ht64, hb]
        rw [s76_76]
        exact ih (t + 1) _ _ _ _ _ (by omega) (by rw [hs, fhs]; simp [hb])
  have e0 : hf_w (hf_u J S 3 v) (S + 11) (J (S + 11)) = hf_u J S 3 v := by rw [kw_id]; rw [ku_ne (by omega)]
  have key := loop c 0 0 0 (J (S + 11)) none none (by omega) rfl
  rw [e0] at key
  simp only [s76_0, s76_1, s76_2, s76_5, s76_6, s76_7, s76_10, s76_11, s76_12, s76_15, s76_16, s76_18, s76_19, hf_bd_v, hf_bd_n, hf_iv_i, hf_iv_l, hf_iv_a, hf_iv_n, hf_iv_2, z_lgl, z_lgg, z_lge, z_lgle, z_lgz, Option.getD_some, Option.isSome_some, ↓reduceIte, not_true_eq_false, not_false_eq_true, Option.toList_some, Option.toList_none, List.cons_append, List.nil_append, Nat.reduceAdd, Nat.add_assoc, ku_ne, ku_same, ne_eq, Nat.reduceEqDiff, reduceCtorEq, Nat.add_eq_left, Nat.left_eq_add, Nat.reduceEqDiff, q10, q_ne, true_or, or_true, sc_k h, sc_r0 h, sc_r1 h]
  exact key

theorem c_allMembers (h : Sc g S) (hn : I S 2 = nI n) (hn2 : n ≤ 64) : hf_rn 82 0 [some (.ref S), none, none, none] [] g I J = some (.inl (some (.long (it n 0 fun k s => s ||| J (S + 11) k))), g, I, J) := by
  have loop : ∀ (d t : Nat) (x : Int64), t + d = n → x = it t 0 (fun k s => s ||| J (S + 11) k) → hf_rn 82 4 [some (.ref S), some (.long x), none, some (.int (nI t))] [] g I J = some (.inl (some (.long (it n 0 fun k s => s ||| J (S + 11) k))), g, I, J) := by
    intro d
    induction d with
    | zero =>
      intro t x ht hx
      have e : t = n := by omega
      subst e
      simp only [s82_0, s82_1, s82_2, s82_3, s82_4, s82_5, s82_6, s82_9, s82_12, s82_13, s82_14, s82_15, s82_18, s82_19, s82_20, s82_26, s82_27, hf_bd_v, hf_bd_n, hf_iv_i, hf_iv_l, hf_iv_a, hf_iv_n, hf_iv_2, z_lgl, z_lgg, z_lge, z_lgle, z_lgz, Option.getD_some, Option.isSome_some, ↓reduceIte, not_true_eq_false, not_false_eq_true, Option.toList_some, Option.toList_none, List.cons_append, List.nil_append, Nat.reduceAdd, Nat.add_assoc, ku_ne, ku_same, ne_eq, Nat.reduceEqDiff, reduceCtorEq, Nat.add_eq_left, Nat.left_eq_add, Nat.reduceEqDiff, q10, q_ne, true_or, or_true, sc_k h, sc_r0 h, sc_r1 h, hn, hx, z_ii (show t < 2147483648 by omega) (show t < 2147483648 by omega), Nat.le_refl]
    | succ d ih =>
      intro t x ht hx
      have hk1 : ¬ n ≤ t := by omega
      simp only [s82_4, s82_5, s82_6, s82_9, s82_12, s82_13, s82_14, s82_15, s82_18, s82_19, s82_20, hf_bd_v, hf_bd_n, hf_iv_i, hf_iv_l, hf_iv_a, hf_iv_n, hf_iv_2, z_lgl, z_lgg, z_lge, z_lgle, z_lgz, Option.getD_some, Option.isSome_some, ↓reduceIte, not_true_eq_false, not_false_eq_true, Option.toList_some, Option.toList_none, List.cons_append, List.nil_append, Nat.reduceAdd, Nat.add_assoc, ku_ne, ku_same, ne_eq, Nat.reduceEqDiff, reduceCtorEq, Nat.add_eq_left, Nat.left_eq_add, Nat.reduceEqDiff, q10, q_ne, true_or, or_true, sc_k h, sc_r0 h, sc_r1 h, h.1, hn, z_ii (show n < 2147483648 by omega) (show t < 2147483648 by omega), hk1, z_1, c_members h (show t < 64 by omega)]
      rw [s82_23]
      exact ih (t + 1) _ (by omega) (by rw [hx]; rfl)
  simp only [s82_0, s82_1, s82_2, s82_3, hf_bd_v, hf_bd_n, hf_iv_i, hf_iv_l, hf_iv_a, hf_iv_n, hf_iv_2, z_lgl, z_lgg, z_lge, z_lgle, z_lgz, Option.getD_some, Option.isSome_some, ↓reduceIte, not_true_eq_false, not_false_eq_true, Option.toList_some, Option.toList_none, List.cons_append, List.nil_append, Nat.reduceAdd, Nat.add_assoc, ku_ne, ku_same, ne_eq, Nat.reduceEqDiff, reduceCtorEq, Nat.add_eq_left, Nat.left_eq_add, Nat.reduceEqDiff, q10, q_ne, true_or, or_true]
  exact loop n 0 0 (by omega) rfl
/-- the first halo with the most in common, and how many these are -/
def moF (H : Nat → Int64) (w : Int64) (n : Nat) : Int32 × Int32 := it n (-1, 0) fun k p => if p.2 < popI (H k &&& w) then (nI k, popI (H k &&& w)) else p
theorem c_mostOf (h : Sc g S) (hn : I S 2 = nI n) (hn2 : n ≤ 64) : hf_rn 83 0 [some (.ref S), some (.long w), none, none, none, none, none] [] g I J = some (.inl (some (.int (moF (J (S + 11)) w n).1)), g, I, J) := by
  have loop : ∀ (d t : Nat) (x y : Int32) (l6 : Option Value), t + d = n → (x, y) = moF (J (S + 11)) w t → hf_rn 83 8 [some (.ref S), some (.long w), none, some (.int x), some (.int y), some (.int (nI t)), l6] [] g I J = some (.inl (some (.int (moF (J (S + 11)) w n).1)), g, I, J) := by
    intro d
    induction d with
    | zero =>
      intro t x y l6 ht hx
      have e : t = n := by omega
      subst e
      rw [← hx]
      simp only [s83_0, s83_1, s83_2, s83_3, s83_5, s83_6, s83_8, s83_10, s83_11, s83_14, s83_17, s83_18, s83_20, s83_23, s83_24, s83_25, s83_28, s83_30, s83_32, s83_34, s83_37, s83_39, s83_41, s83_43, s83_44, s83_50, s83_51, hf_bd_v, hf_bd_n, hf_iv_i, hf_iv_l, hf_iv_a, hf_iv_n, hf_iv_2, z_lgl, z_lgg, z_lge, z_lgle, z_lgz, Option.getD_some, Option.isSome_some, ↓reduceIte, not_true_eq_false, not_false_eq_true, Option.toList_some, Option.toList_none, List.cons_append, List.nil_append, Nat.reduceAdd, Nat.add_assoc, ku_ne, ku_same, ne_eq, Nat.reduceEqDiff, reduceCtorEq, Nat.add_eq_left, Nat.left_eq_add, Nat.reduceEqDiff, q10, q_ne, true_or, or_true, sc_k h, sc_r0 h, sc_r1 h, hn, z_ii (show t < 2147483648 by omega) (show t < 2147483648 by omega), Nat.le_refl]
    | succ d ih =>
      intro t x y l6 ht hx
      have hk1 : ¬ n ≤ t := by omega
      by_cases hb : y < popI (J (S + 11) t &&& w)
      · have hb2 : ¬ popI (J (S + 11) t &&& w) ≤ y := by rw [Int32.le_iff_toInt_le]; rw [Int32.lt_iff_toInt_lt] at hb; omega
        simp only [s83_8, s83_10, s83_11, s83_14, s83_17, s83_18, s83_20, s83_23, s83_24, s83_25, s83_28, s83_30, s83_32, s83_34, s83_37, s83_39, s83_41, s83_43, s83_44, hf_bd_v, hf_bd_n, hf_iv_i, hf_iv_l, hf_iv_a, hf_iv_n, hf_iv_2, z_lgl, z_lgg, z_lge, z_lgle, z_lgz, Option.getD_some, Option.isSome_some, ↓reduceIte, not_true_eq_false, not_false_eq_true, Option.toList_some, Option.toList_none, List.cons_append, List.nil_append, Nat.reduceAdd, Nat.add_assoc, ku_ne, ku_same, ne_eq, Nat.reduceEqDiff, reduceCtorEq, Nat.add_eq_left, Nat.left_eq_add, Nat.reduceEqDiff, q10, q_ne, true_or, or_true, sc_k h, sc_r0 h, sc_r1 h, h.1, hn, z_ii (show n < 2147483648 by omega) (show t < 2147483648 by omega), hk1, z_1, c_members h (show t < 64 by omega), c_pop, hb2]
        rw [s83_47]
        exact ih (t + 1) _ _ _ (by omega) (by rw [moF, it_s, ← moF, ← hx, if_pos hb])
      · have hb2 : popI (J (S + 11) t &&& w) ≤ y := by rw [Int32.le_iff_toInt_le]; rw [Int32.lt_iff_toInt_lt] at hb; omega
        simp only [s83_8, s83_10, s83_11, s83_14, s83_17, s83_18, s83_20, s83_23, s83_24, s83_25, s83_28, s83_30, s83_32, s83_34, s83_37, s83_39, s83_41, s83_43, s83_44, hf_bd_v, hf_bd_n, hf_iv_i, hf_iv_l, hf_iv_a, hf_iv_n, hf_iv_2, z_lgl, z_lgg, z_lge, z_lgle, z_lgz, Option.getD_some, Option.isSome_some, ↓reduceIte, not_true_eq_false, not_false_eq_true, Option.toList_some, Option.toList_none, List.cons_append, List.nil_append, Nat.reduceAdd, Nat.add_assoc, ku_ne, ku_same, ne_eq, Nat.reduceEqDiff, reduceCtorEq, Nat.add_eq_left, Nat.left_eq_add, Nat.reduceEqDiff, q10, q_ne, true_or, or_true, sc_k h, sc_r0 h, sc_r1 h, h.1, hn, z_ii (show n < 2147483648 by omega) (show t < 2147483648 by omega), hk1, z_1, c_members h (show t < 64 by omega), c_pop, hb2]
        rw [s83_47]
        exact ih (t + 1) _ _ _ (by omega) (by rw [moF, it_s, ← moF, ← hx, if_neg hb])
  simp only [s83_0, s83_1, s83_2, s83_3, s83_5, s83_6, hf_bd_v, hf_bd_n, hf_iv_i, hf_iv_l, hf_iv_a, hf_iv_n, hf_iv_2, z_lgl, z_lgg, z_lge, z_lgle, z_lgz, Option.getD_some, Option.isSome_some, ↓reduceIte, not_true_eq_false, not_false_eq_true, Option.toList_some, Option.toList_none, List.cons_append, List.nil_append, Nat.reduceAdd, Nat.add_assoc, ku_ne, ku_same, ne_eq, Nat.reduceEqDiff, reduceCtorEq, Nat.add_eq_left, Nat.left_eq_add, Nat.reduceEqDiff, q10, q_ne, true_or, or_true]
  exact loop n 0 _ _ _ (by omega) rfl
theorem c_middleX (h : Sc g S) (hc : I (S + 1) 5 = nI c) (hc2 : c ≤ 64) (hk : k < 64) (hq : lowI (btL (J (S + 11) k)) = nI q) (hq2 : q < 64) : hf_rn 85 0 [some (.ref S), some (.int (nI k)), some (.int 1), none, none, none, none, none, none] [] g I J = some (.inl (some (.long (plc (J (S + 3) q + by1 (smP c (btL (J (S + 11) k)) (fun m => wayL (J (S + 3) q) (J (S + 3) m))) (popI (J (S + 11) k)).toInt64)))), g, I, J) := by
  have hg := sc_gr1 h
  have loop : ∀ (d t : Nat) (x : Int64), t + d = c → x = smP t (btL (J (S + 11) k)) (fun m => wayL (J (S + 3) q) (J (S + 3) m)) → hf_rn 85 18 [some (.ref S), some (.int (nI k)), some (.int 1), some (.long (J (S + 11) k)), none, some (.int (nI q)), some (.long x), none, some (.int (nI t))] [] g I J = some (.inl (some (.long (plc (J (S + 3) q + by1 (smP c (btL (J (S + 11) k)) (fun m => wayL (J (S + 3) q) (J (S + 3) m))) (popI (J (S + 11) k)).toInt64)))), g, I, J) := by
    intro d
    induction d with
    | zero =>
      intro t x ht hx
      have e : t = c := by omega
      subst e
      have hp := c_placesX (I := I) (J := J) hg
      have hr : Rw g (S + 2) 64 := gr_rw1 hg
      simp only [s85_0, s85_1, s85_2, s85_5, s85_6, s85_7, s85_10, s85_12, s85_13, s85_15, s85_16, s85_18, s85_20, s85_21, s85_24, s85_27, s85_30, s85_31, s85_33, s85_36, s85_39, s85_41, s85_42, s85_45, s85_47, s85_49, s85_50, s85_53, s85_54, s85_56, s85_62, s85_63, s85_66, s85_67, s85_70, s85_72, s85_75, s85_77, s85_78, s85_79, s85_82, s85_83, s85_86, s85_87, s85_90, hf_bd_v, hf_bd_n, hf_iv_i, hf_iv_l, hf_iv_a, hf_iv_n, hf_iv_2, z_lgl, z_lgg, z_lge, z_lgle, z_lgz, Option.getD_some, Option.isSome_some, ↓reduceIte, not_true_eq_false, not_false_eq_true, Option.toList_some, Option.toList_none, List.cons_append, List.nil_append, Nat.reduceAdd, Nat.add_assoc, ku_ne, ku_same, ne_eq, Nat.reduceEqDiff, reduceCtorEq, Nat.add_eq_left, Nat.left_eq_add, Nat.reduceEqDiff, q10, q_ne, true_or, or_true, sc_k h, sc_r0 h, sc_r1 h, h.1, hg.1, hc, hx, z_ii (show t < 2147483648 by omega) (show t < 2147483648 by omega), Nat.le_refl, hp, hr.1, c_get hr hq2, c_howMany h hk, c_by1, c_place]
    | succ d ih =>
      intro t x ht hx
      have hk1 : ¬ c ≤ t := by omega
      have ht64 : t < 64 := by omega
      have hw := c_grwayX (I := I) (J := J) hg hq2 ht64
      cases hb : btL (J (S + 11) k) t
      · simp only [s85_18, s85_20, s85_21, s85_24, s85_27, s85_30, s85_31, s85_33, s85_36, s85_39, s85_41, s85_42, s85_45, s85_47, s85_49, s85_50, s85_53, s85_54, s85_56, hf_bd_v, hf_bd_n, hf_iv_i, hf_iv_l, hf_iv_a, hf_iv_n, hf_iv_2, z_lgl, z_lgg, z_lge, z_lgle, z_lgz, Option.getD_some, Option.isSome_some, ↓reduceIte, not_true_eq_false, not_false_eq_true, Option.toList_some, Option.toList_none, List.cons_append, List.nil_append, Nat.reduceAdd, Nat.add_assoc, ku_ne, ku_same, ne_eq, Nat.reduceEqDiff, reduceCtorEq, Nat.add_eq_left, Nat.left_eq_add, Nat.reduceEqDiff, q10, q_ne, true_or, or_true, sc_k h, sc_r0 h, sc_r1 h, h.1, hg.1, hc, z_ii (show c < 2147483648 by omega) (show t < 2147483648 by omega), hk1, z_1, c_has ht64, hb, Bool.false_eq_true]
        rw [s85_59]
        exact ih (t + 1) _ (by omega) (by rw [hx, smP, smP, it_s, hb]; rfl)
      · simp only [s85_18, s85_20, s85_21, s85_24, s85_27, s85_30, s85_31, s85_33, s85_36, s85_39, s85_41, s85_42, s85_45, s85_47, s85_49, s85_50, s85_53, s85_54, s85_56, hf_bd_v, hf_bd_n, hf_iv_i, hf_iv_l, hf_iv_a, hf_iv_n, hf_iv_2, z_lgl, z_lgg, z_lge, z_lgle, z_lgz, Option.getD_some, Option.isSome_some, ↓reduceIte, not_true_eq_false, not_false_eq_true, Option.toList_some, Option.toList_none, List.cons_append, List.nil_append, Nat.reduceAdd, Nat.add_assoc, ku_ne, ku_same, ne_eq, Nat.reduceEqDiff, reduceCtorEq, Nat.add_eq_left, Nat.left_eq_add, Nat.reduceEqDiff, q10, q_ne, true_or, or_true, sc_k h, sc_r0 h, sc_r1 h, h.1, hg.1, hc, z_ii (show c < 2147483648 by omega) (show t < 2147483648 by omega), hk1, z_1, c_has ht64, hb, hw]
        rw [s85_59]
        exact ih (t + 1) _ (by omega) (by rw [hx, smP, smP, it_s, hb]; rfl)
  simp only [s85_0, s85_1, s85_2, s85_5, s85_6, s85_7, s85_10, s85_12, s85_13, s85_15, s85_16, hf_bd_v, hf_bd_n, hf_iv_i, hf_iv_l, hf_iv_a, hf_iv_n, hf_iv_2, z_lgl, z_lgg, z_lge, z_lgle, z_lgz, Option.getD_some, Option.isSome_some, ↓reduceIte, not_true_eq_false, not_false_eq_true, Option.toList_some, Option.toList_none, List.cons_append, List.nil_append, Nat.reduceAdd, Nat.add_assoc, ku_ne, ku_same, ne_eq, Nat.reduceEqDiff, reduceCtorEq, Nat.add_eq_left, Nat.left_eq_add, Nat.reduceEqDiff, q10, q_ne, true_or, or_true, h.1, c_members h hk, c_lowest, hq]
  exact loop c 0 _ (by omega) rfl
theorem c_middleY (h : Sc g S) (hc : I (S + 1) 5 = nI c) (hc2 : c ≤ 64) (hk : k < 64) (hq : lowI (btL (J (S + 11) k)) = nI q) (hq2 : q < 64) : hf_rn 85 0 [some (.ref S), some (.int (nI k)), some (.int 0), none, none, none, none, none, none] [] g I J = some (.inl (some (.long (plc (J (S + 5) q + by1 (smP c (btL (J (S + 11) k)) (fun m => wayL (J (S + 5) q) (J (S + 5) m))) (popI (J (S + 11) k)).toInt64)))), g, I, J) := by
  have hg := sc_gr1 h
  have loop : ∀ (d t : Nat) (x : Int64), t + d = c → x = smP t (btL (J (S + 11) k)) (fun m => wayL (J (S + 5) q) (J (S + 5) m)) → hf_rn 85 18 [some (.ref S), some (.int (nI k)), some (.int 0), some (.long (J (S + 11) k)), none, some (.int (nI q)), some (.long x), none, some (.int (nI t))] [] g I J = some (.inl (some (.long (plc (J (S + 5) q + by1 (smP c (btL (J (S + 11) k)) (fun m => wayL (J (S + 5) q) (J (S + 5) m))) (popI (J (S + 11) k)).toInt64)))), g, I, J) := by
    intro d
    induction d with
    | zero =>
      intro t x ht hx
      have e : t = c := by omega
      subst e
      have hp := c_placesY (I := I) (J := J) hg
      have hr : Rw g (S + 4) 64 := gr_rw3 hg
      simp only [s85_0, s85_1, s85_2, s85_5, s85_6, s85_7, s85_10, s85_12, s85_13, s85_15, s85_16, s85_18, s85_20, s85_21, s85_24, s85_27, s85_30, s85_31, s85_33, s85_36, s85_39, s85_41, s85_42, s85_45, s85_47, s85_49, s85_50, s85_53, s85_54, s85_56, s85_62, s85_63, s85_66, s85_67, s85_70, s85_72, s85_75, s85_77, s85_78, s85_79, s85_82, s85_83, s85_86, s85_87, s85_90, hf_bd_v, hf_bd_n, hf_iv_i, hf_iv_l, hf_iv_a, hf_iv_n, hf_iv_2, z_lgl, z_lgg, z_lge, z_lgle, z_lgz, Option.getD_some, Option.isSome_some, ↓reduceIte, not_true_eq_false, not_false_eq_true, Option.toList_some, Option.toList_none, List.cons_append, List.nil_append, Nat.reduceAdd, Nat.add_assoc, ku_ne, ku_same, ne_eq, Nat.reduceEqDiff, reduceCtorEq, Nat.add_eq_left, Nat.left_eq_add, Nat.reduceEqDiff, q10, q_ne, true_or, or_true, sc_k h, sc_r0 h, sc_r1 h, h.1, hg.1, hc, hx, z_ii (show t < 2147483648 by omega) (show t < 2147483648 by omega), Nat.le_refl, hp, hr.1, c_get hr hq2, c_howMany h hk, c_by1, c_place]
    | succ d ih =>
      intro t x ht hx
      have hk1 : ¬ c ≤ t := by omega
      have ht64 : t < 64 := by omega
      have hw := c_grwayY (I := I) (J := J) hg hq2 ht64
      cases hb : btL (J (S + 11) k) t
      · simp only [s85_18, s85_20, s85_21, s85_24, s85_27, s85_30, s85_31, s85_33, s85_36, s85_39, s85_41, s85_42, s85_45, s85_47, s85_49, s85_50, s85_53, s85_54, s85_56, hf_bd_v, hf_bd_n, hf_iv_i, hf_iv_l, hf_iv_a, hf_iv_n, hf_iv_2, z_lgl, z_lgg, z_lge, z_lgle, z_lgz, Option.getD_some, Option.isSome_some, ↓reduceIte, not_true_eq_false, not_false_eq_true, Option.toList_some, Option.toList_none, List.cons_append, List.nil_append, Nat.reduceAdd, Nat.add_assoc, ku_ne, ku_same, ne_eq, Nat.reduceEqDiff, reduceCtorEq, Nat.add_eq_left, Nat.left_eq_add, Nat.reduceEqDiff, q10, q_ne, true_or, or_true, sc_k h, sc_r0 h, sc_r1 h, h.1, hg.1, hc, z_ii (show c < 2147483648 by omega) (show t < 2147483648 by omega), hk1, z_1, c_has ht64, hb, Bool.false_eq_true]
        rw [s85_59]
        exact ih (t + 1) _ (by omega) (by rw [hx, smP, smP, it_s, hb]; rfl)
      · simp only [s85_18, s85_20, s85_21, s85_24, s85_27, s85_30, s85_31, s85_33, s85_36, s85_39, s85_41, s85_42, s85_45, s85_47, s85_49, s85_50, s85_53, s85_54, s85_56, hf_bd_v, hf_bd_n, hf_iv_i, hf_iv_l, hf_iv_a, hf_iv_n, hf_iv_2, z_lgl, z_lgg, z_lge, z_lgle, z_lgz, Option.getD_some, Option.isSome_some, ↓reduceIte, not_true_eq_false, not_false_eq_true, Option.toList_some, Option.toList_none, List.cons_append, List.nil_append, Nat.reduceAdd, Nat.add_assoc, ku_ne, ku_same, ne_eq, Nat.reduceEqDiff, reduceCtorEq, Nat.add_eq_left, Nat.left_eq_add, Nat.reduceEqDiff, q10, q_ne, true_or, or_true, sc_k h, sc_r0 h, sc_r1 h, h.1, hg.1, hc, z_ii (show c < 2147483648 by omega) (show t < 2147483648 by omega), hk1, z_1, c_has ht64, hb, hw]
        rw [s85_59]
        exact ih (t + 1) _ (by omega) (by rw [hx, smP, smP, it_s, hb]; rfl)
  simp only [s85_0, s85_1, s85_2, s85_5, s85_6, s85_7, s85_10, s85_12, s85_13, s85_15, s85_16, hf_bd_v, hf_bd_n, hf_iv_i, hf_iv_l, hf_iv_a, hf_iv_n, hf_iv_2, z_lgl, z_lgg, z_lge, z_lgle, z_lgz, Option.getD_some, Option.isSome_some, ↓reduceIte, not_true_eq_false, not_false_eq_true, Option.toList_some, Option.toList_none, List.cons_append, List.nil_append, Nat.reduceAdd, Nat.add_assoc, ku_ne, ku_same, ne_eq, Nat.reduceEqDiff, reduceCtorEq, Nat.add_eq_left, Nat.left_eq_add, Nat.reduceEqDiff, q10, q_ne, true_or, or_true, h.1, c_members h hk, c_lowest, hq]
  exact loop c 0 _ (by omega) rfl

theorem c_speedX (h : Sc g S) (hc : I (S + 1) 5 = nI c) (hc2 : c ≤ 64) (hk : k < 64) : hf_rn 86 0 [some (.ref S), some (.int (nI k)), some (.int 1)] [] g I J = some (.inl (some (.long (by1 (smP c (btL (J (S + 11) k)) (J (S + 7))) (popI (J (S + 11) k)).toInt64))), g, I, J) := by
  have hg := sc_gr1 h
  have hs := c_commonX (I := I) (J := J) (v := J (S + 11) k) hg hc hc2
  simp only [s86_0, s86_1, s86_4, s86_5, s86_6, s86_9, s86_10, s86_13, hf_bd_v, hf_bd_n, hf_iv_i, hf_iv_l, hf_iv_a, hf_iv_n, hf_iv_2, z_lgl, z_lgg, z_lge, z_lgle, z_lgz, Option.getD_some, Option.isSome_some, ↓reduceIte, not_true_eq_false, not_false_eq_true, Option.toList_some, Option.toList_none, List.cons_append, List.nil_append, Nat.reduceAdd, Nat.add_assoc, ku_ne, ku_same, ne_eq, Nat.reduceEqDiff, reduceCtorEq, Nat.add_eq_left, Nat.left_eq_add, Nat.reduceEqDiff, q10, q_ne, true_or, or_true, sc_k h, sc_r0 h, sc_r1 h, h.1, hg.1, c_members h hk, hs]
theorem c_speedY (h : Sc g S) (hc : I (S + 1) 5 = nI c) (hc2 : c ≤ 64) (hk : k < 64) : hf_rn 86 0 [some (.ref S), some (.int (nI k)), some (.int 0)] [] g I J = some (.inl (some (.long (by1 (smP c (btL (J (S + 11) k)) (J (S + 9))) (popI (J (S + 11) k)).toInt64))), g, I, J) := by
  have hg := sc_gr1 h
  have hs := c_commonY (I := I) (J := J) (v := J (S + 11) k) hg hc hc2
  simp only [s86_0, s86_1, s86_4, s86_5, s86_6, s86_9, s86_10, s86_13, hf_bd_v, hf_bd_n, hf_iv_i, hf_iv_l, hf_iv_a, hf_iv_n, hf_iv_2, z_lgl, z_lgg, z_lge, z_lgle, z_lgz, Option.getD_some, Option.isSome_some, ↓reduceIte, not_true_eq_false, not_false_eq_true, Option.toList_some, Option.toList_none, List.cons_append, List.nil_append, Nat.reduceAdd, Nat.add_assoc, ku_ne, ku_same, ne_eq, Nat.reduceEqDiff, reduceCtorEq, Nat.add_eq_left, Nat.left_eq_add, Nat.reduceEqDiff, q10, q_ne, true_or, or_true, sc_k h, sc_r0 h, sc_r1 h, h.1, hg.1, c_members h hk, hs]
theorem c_spin (h : Sc g S) (hc : I (S + 1) 5 = nI c) (hc2 : c ≤ 64) (hk : k < 64) (hq : lowI (btL (J (S + 11) k)) = nI q) (hq2 : q < 64) : hf_rn 87 0 [some (.ref S), some (.int (nI k)), none, none, none, none, none, none] [] g I J = some (.inl (some (.long (smP c (btL (J (S + 11) k)) (fun m => wayL (J (S + 3) q) (J (S + 3) m) * J (S + 9) m - wayL (J (S + 5) q) (J (S + 5) m) * J (S + 7) m)))), g, I, J) := by
  have hg := sc_gr1 h
  have loop : ∀ (d t : Nat) (x : Int64), t + d = c → x = smP t (btL (J (S + 11) k)) (fun m => wayL (J (S + 3) q) (J (S + 3) m) * J (S + 9) m - wayL (J (S + 5) q) (J (S + 5) m) * J (S + 7) m) → hf_rn 87 18 [some (.ref S), some (.int (nI k)), some (.long (J (S + 11) k)), none, some (.int (nI q)), some (.long x), none, some (.int (nI t))] [] g I J = some (.inl (some (.long (smP c (btL (J (S + 11) k)) (fun m => wayL (J (S + 3) q) (J (S + 3) m) * J (S + 9) m - wayL (J (S + 5) q) (J (S + 5) m) * J (S + 7) m)))), g, I, J) := by
    intro d
    induction d with
    | zero =>
      intro t x ht hx
      have e : t = c := by omega
      subst e
      simp only [s87_0, s87_1, s87_2, s87_5, s87_6, s87_7, s87_10, s87_12, s87_13, s87_15, s87_16, s87_18, s87_20, s87_21, s87_24, s87_27, s87_30, s87_31, s87_33, s87_36, s87_39, s87_41, s87_42, s87_45, s87_47, s87_49, s87_50, s87_53, s87_54, s87_57, s87_60, s87_62, s87_65, s87_66, s87_67, s87_70, s87_72, s87_74, s87_75, s87_78, s87_79, s87_82, s87_85, s87_87, s87_90, s87_91, s87_92, s87_93, s87_95, s87_101, s87_103, hf_bd_v, hf_bd_n, hf_iv_i, hf_iv_l, hf_iv_a, hf_iv_n, hf_iv_2, z_lgl, z_lgg, z_lge, z_lgle, z_lgz, Option.getD_some, Option.isSome_some, ↓reduceIte, not_true_eq_false, not_false_eq_true, Option.toList_some, Option.toList_none, List.cons_append, List.nil_append, Nat.reduceAdd, Nat.add_assoc, ku_ne, ku_same, ne_eq, Nat.reduceEqDiff, reduceCtorEq, Nat.add_eq_left, Nat.left_eq_add, Nat.reduceEqDiff, q10, q_ne, true_or, or_true, sc_k h, sc_r0 h, sc_r1 h, h.1, hg.1, hc, hx, z_ii (show t < 2147483648 by omega) (show t < 2147483648 by omega), Nat.le_refl]
    | succ d ih =>
      intro t x ht hx
      have hk1 : ¬ c ≤ t := by omega
      have ht64 : t < 64 := by omega
      have hw := c_grwayX (I := I) (J := J) hg hq2 ht64
      have hw2 := c_grwayY (I := I) (J := J) hg hq2 ht64
      have f2 : hf_r g (S + 1) 2 = some (S + 6) := gr_r2 hg
      have f3 : hf_r g (S + 1) 3 = some (S + 8) := gr_r3 hg
      have hr5 : Rw g (S + 6) 64 := gr_rw5 hg
      have hr7 : Rw g (S + 8) 64 := gr_rw7 hg
      cases hb : btL (J (S + 11) k) t
      · simp only [s87_18, s87_20, s87_21, s87_24, s87_27, s87_30, s87_31, s87_33, s87_36, s87_39, s87_41, s87_42, s87_45, s87_47, s87_49, s87_50, s87_53, s87_54, s87_57, s87_60, s87_62, s87_65, s87_66, s87_67, s87_70, s87_72, s87_74, s87_75, s87_78, s87_79, s87_82, s87_85, s87_87, s87_90, s87_91, s87_92, s87_93, s87_95, hf_bd_v, hf_bd_n, hf_iv_i, hf_iv_l, hf_iv_a, hf_iv_n, hf_iv_2, z_lgl, z_lgg, z_lge, z_lgle, z_lgz, Option.getD_some, Option.isSome_some, ↓reduceIte, not_true_eq_false, not_false_eq_true, Option.toList_some, Option.toList_none, List.cons_append, List.nil_append, Nat.reduceAdd, Nat.add_assoc, ku_ne, ku_same, ne_eq, Nat.reduceEqDiff, reduceCtorEq, Nat.add_eq_left, Nat.left_eq_add, Nat.reduceEqDiff, q10, q_ne, true_or, or_true, sc_k h, sc_r0 h, sc_r1 h, h.1, hg.1, hc, z_ii (show c < 2147483648 by omega) (show t < 2147483648 by omega), hk1, z_1, c_has ht64, hb, Bool.false_eq_true]
        rw [s87_98]
        exact ih (t + 1) _ (by omega) (by rw [hx, smP, smP, it_s, hb]; rfl)
      · simp only [s87_18, s87_20, s87_21, s87_24, s87_27, s87_30, s87_31, s87_33, s87_36, s87_39, s87_41, s87_42, s87_45, s87_47, s87_49, s87_50, s87_53, s87_54, s87_57, s87_60, s87_62, s87_65, s87_66, s87_67, s87_70, s87_72, s87_74, s87_75, s87_78, s87_79, s87_82, s87_85, s87_87, s87_90, s87_91, s87_92, s87_93, s87_95, hf_bd_v, hf_bd_n, hf_iv_i, hf_iv_l, hf_iv_a, hf_iv_n, hf_iv_2, z_lgl, z_lgg, z_lge, z_lgle, z_lgz, Option.getD_some, Option.isSome_some, ↓reduceIte, not_true_eq_false, not_false_eq_true, Option.toList_some, Option.toList_none, List.cons_append, List.nil_append, Nat.reduceAdd, Nat.add_assoc, ku_ne, ku_same, ne_eq, Nat.reduceEqDiff, reduceCtorEq, Nat.add_eq_left, Nat.left_eq_add, Nat.reduceEqDiff, q10, q_ne, true_or, or_true, sc_k h, sc_r0 h, sc_r1 h, h.1, hg.1, hc, z_ii (show c < 2147483648 by omega) (show t < 2147483648 by omega), hk1, z_1, c_has ht64, hb, hw, hw2, f2, f3, hr5.1, hr7.1, c_get hr5 ht64, c_get hr7 ht64]
        rw [s87_98]
        exact ih (t + 1) _ (by omega) (by rw [hx, smP, smP, it_s, hb]; rfl)
  simp only [s87_0, s87_1, s87_2, s87_5, s87_6, s87_7, s87_10, s87_12, s87_13, s87_15, s87_16, hf_bd_v, hf_bd_n, hf_iv_i, hf_iv_l, hf_iv_a, hf_iv_n, hf_iv_2, z_lgl, z_lgg, z_lge, z_lgle, z_lgz, Option.getD_some, Option.isSome_some, ↓reduceIte, not_true_eq_false, not_false_eq_true, Option.toList_some, Option.toList_none, List.cons_append, List.nil_append, Nat.reduceAdd, Nat.add_assoc, ku_ne, ku_same, ne_eq, Nat.reduceEqDiff, reduceCtorEq, Nat.add_eq_left, Nat.left_eq_add, Nat.reduceEqDiff, q10, q_ne, true_or, or_true, h.1, c_members h hk, c_lowest, hq]
  exact loop c 0 _ (by omega) rfl
/-- something of a halo -/
def valH (c : Nat) (X Y U W : Nat → Int64) (b : Int64) (q m : Nat) : Int64 :=
  if m = 0 then (popI b).toInt64 else if m = 1 then plc (X q + by1 (smP c (btL b) (fun m => wayL (X q) (X m))) (popI b).toInt64) else if m = 2 then plc (Y q + by1 (smP c (btL b) (fun m => wayL (Y q) (Y m))) (popI b).toInt64)
  else if m = 3 then by1 (smP c (btL b) U) (popI b).toInt64 else if m = 4 then by1 (smP c (btL b) W) (popI b).toInt64 else smP c (btL b) (fun m => wayL (X q) (X m) * W m - wayL (Y q) (Y m) * U m)
theorem c_valH (h : Sc g S) (hc : I (S + 1) 5 = nI c) (hc2 : c ≤ 64) (hk : k < 64) (hq : lowI (btL (J (S + 11) k)) = nI q) (hq2 : q < 64) (hm : m < 6) : hf_rn 84 0 [some (.ref S), some (.int (nI k)), some (.int (nI m))] [] g I J = some (.inl (some (.long (valH c (J (S + 3)) (J (S + 5)) (J (S + 7)) (J (S + 9)) (J (S + 11) k) q m))), g, I, J) := by
  match m, hm with
  | 0, _ => simp only [s84_0, s84_1, s84_1_c0, s84_1_c1, s84_1_c2, s84_1_c3, s84_1_c4, s84_36, s84_37, s84_38, s84_41, s84_42, s84_43, s84_44, s84_45, s84_46, s84_47, s84_50, s84_51, s84_54, s84_55, s84_58, s84_59, s84_60, s84_61, s84_62, s84_63, s84_66, s84_67, s84_70, s84_71, s84_74, s84_75, s84_76, s84_77, s84_80, hf_bd_v, hf_bd_n, hf_iv_i, hf_iv_l, hf_iv_a, hf_iv_n, hf_iv_2, z_lgl, z_lgg, z_lge, z_lgle, z_lgz, Option.getD_some, Option.isSome_some, ↓reduceIte, not_true_eq_false, not_false_eq_true, Option.toList_some, Option.toList_none, List.cons_append, List.nil_append, Nat.reduceAdd, Nat.add_assoc, ku_ne, ku_same, ne_eq, Nat.reduceEqDiff, reduceCtorEq, Nat.add_eq_left, Nat.left_eq_add, Nat.reduceEqDiff, q10, q_ne, true_or, or_true, show nI 0 = 0 from rfl, h.1, c_howMany h hk, valH]
  | 1, _ => simp only [s84_0, s84_1, s84_1_c0, s84_1_c1, s84_1_c2, s84_1_c3, s84_1_c4, s84_36, s84_37, s84_38, s84_41, s84_42, s84_43, s84_44, s84_45, s84_46, s84_47, s84_50, s84_51, s84_54, s84_55, s84_58, s84_59, s84_60, s84_61, s84_62, s84_63, s84_66, s84_67, s84_70, s84_71, s84_74, s84_75, s84_76, s84_77, s84_80, hf_bd_v, hf_bd_n, hf_iv_i, hf_iv_l, hf_iv_a, hf_iv_n, hf_iv_2, z_lgl, z_lgg, z_lge, z_lgle, z_lgz, Option.getD_some, Option.isSome_some, ↓reduceIte, not_true_eq_false, not_false_eq_true, Option.toList_some, Option.toList_none, List.cons_append, List.nil_append, Nat.reduceAdd, Nat.add_assoc, ku_ne, ku_same, ne_eq, Nat.reduceEqDiff, reduceCtorEq, Nat.add_eq_left, Nat.left_eq_add, Nat.reduceEqDiff, q10, q_ne, true_or, or_true, show nI 1 = 1 from rfl, h.1, c_middleX h hc hc2 hk hq hq2, valH]
  | 2, _ => simp only [s84_0, s84_1, s84_1_c0, s84_1_c1, s84_1_c2, s84_1_c3, s84_1_c4, s84_36, s84_37, s84_38, s84_41, s84_42, s84_43, s84_44, s84_45, s84_46, s84_47, s84_50, s84_51, s84_54, s84_55, s84_58, s84_59, s84_60, s84_61, s84_62, s84_63, s84_66, s84_67, s84_70, s84_71, s84_74, s84_75, s84_76, s84_77, s84_80, hf_bd_v, hf_bd_n, hf_iv_i, hf_iv_l, hf_iv_a, hf_iv_n, hf_iv_2, z_lgl, z_lgg, z_lge, z_lgle, z_lgz, Option.getD_some, Option.isSome_some, ↓reduceIte, not_true_eq_false, not_false_eq_true, Option.toList_some, Option.toList_none, List.cons_append, List.nil_append, Nat.reduceAdd, Nat.add_assoc, ku_ne, ku_same, ne_eq, Nat.reduceEqDiff, reduceCtorEq, Nat.add_eq_left, Nat.left_eq_add, Nat.reduceEqDiff, q10, q_ne, true_or, or_true, show nI 2 = 2 from rfl, show ((2 : Int32) = 1) = False from eq_false (by decide), h.1, c_middleY h hc hc2 hk hq hq2, valH]
  | 3, _ => simp only [s84_0, s84_1, s84_1_c0, s84_1_c1, s84_1_c2, s84_1_c3, s84_1_c4, s84_36, s84_37, s84_38, s84_41, s84_42, s84_43, s84_44, s84_45, s84_46, s84_47, s84_50, s84_51, s84_54, s84_55, s84_58, s84_59, s84_60, s84_61, s84_62, s84_63, s84_66, s84_67, s84_70, s84_71, s84_74, s84_75, s84_76, s84_77, s84_80, hf_bd_v, hf_bd_n, hf_iv_i, hf_iv_l, hf_iv_a, hf_iv_n, hf_iv_2, z_lgl, z_lgg, z_lge, z_lgle, z_lgz, Option.getD_some, Option.isSome_some, ↓reduceIte, not_true_eq_false, not_false_eq_true, Option.toList_some, Option.toList_none, List.cons_append, List.nil_append, Nat.reduceAdd, Nat.add_assoc, ku_ne, ku_same, ne_eq, Nat.reduceEqDiff, reduceCtorEq, Nat.add_eq_left, Nat.left_eq_add, Nat.reduceEqDiff, q10, q_ne, true_or, or_true, show nI 3 = 3 from rfl, h.1, c_speedX h hc hc2 hk, valH]
  | 4, _ => simp only [s84_0, s84_1, s84_1_c0, s84_1_c1, s84_1_c2, s84_1_c3, s84_1_c4, s84_36, s84_37, s84_38, s84_41, s84_42, s84_43, s84_44, s84_45, s84_46, s84_47, s84_50, s84_51, s84_54, s84_55, s84_58, s84_59, s84_60, s84_61, s84_62, s84_63, s84_66, s84_67, s84_70, s84_71, s84_74, s84_75, s84_76, s84_77, s84_80, hf_bd_v, hf_bd_n, hf_iv_i, hf_iv_l, hf_iv_a, hf_iv_n, hf_iv_2, z_lgl, z_lgg, z_lge, z_lgle, z_lgz, Option.getD_some, Option.isSome_some, ↓reduceIte, not_true_eq_false, not_false_eq_true, Option.toList_some, Option.toList_none, List.cons_append, List.nil_append, Nat.reduceAdd, Nat.add_assoc, ku_ne, ku_same, ne_eq, Nat.reduceEqDiff, reduceCtorEq, Nat.add_eq_left, Nat.left_eq_add, Nat.reduceEqDiff, q10, q_ne, true_or, or_true, show nI 4 = 4 from rfl, show ((4 : Int32) = 3) = False from eq_false (by decide), h.1, c_speedY h hc hc2 hk, valH]
  | 5, _ => simp only [s84_0, s84_1, s84_1_c0, s84_1_c1, s84_1_c2, s84_1_c3, s84_1_c4, s84_36, s84_37, s84_38, s84_41, s84_42, s84_43, s84_44, s84_45, s84_46, s84_47, s84_50, s84_51, s84_54, s84_55, s84_58, s84_59, s84_60, s84_61, s84_62, s84_63, s84_66, s84_67, s84_70, s84_71, s84_74, s84_75, s84_76, s84_77, s84_80, hf_bd_v, hf_bd_n, hf_iv_i, hf_iv_l, hf_iv_a, hf_iv_n, hf_iv_2, z_lgl, z_lgg, z_lge, z_lgle, z_lgz, Option.getD_some, Option.isSome_some, ↓reduceIte, not_true_eq_false, not_false_eq_true, Option.toList_some, Option.toList_none, List.cons_append, List.nil_append, Nat.reduceAdd, Nat.add_assoc, ku_ne, ku_same, ne_eq, Nat.reduceEqDiff, reduceCtorEq, Nat.add_eq_left, Nat.left_eq_add, Nat.reduceEqDiff, q10, q_ne, true_or, or_true, show nI 5 = 5 from rfl, show ((5 : Int32).toInt < 0 ∨ 4 < (5 : Int32).toInt) = True from eq_true (by decide), h.1, c_spin h hc hc2 hk hq hq2, valH]
end
