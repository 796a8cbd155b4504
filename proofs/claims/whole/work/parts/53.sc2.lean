/-! SCENES: halos -/
section
variable {g : hf_G} {I : hf_I} {J : hf_J} {S c k m n q : Nat} {u v w : Int64} {i j : Int32} {H : Nat → Int64}
theorem ku_ku {α : Type} {f : Nat → Nat → α} {a k : Nat} {v w : α} : hf_u (hf_u f a k v) a k w = hf_u f a k w := by
  funext y z
  by_cases h1 : y = a ∧ z = k
  · simp [hf_u, h1]
  · simp [hf_u, h1]
theorem im1 (i : Int32) : i + -1 = i - 1 := (Int32.sub_eq_add_neg i 1).symm
/-- those with fewer than b are shifted by one place -/
def shH (b : Int32) : Nat → (Nat → Int64) → Nat × (Nat → Int64)
  | 0, H => (0, H)
  | a + 1, H => if popI (H a) < b then shH b a (up H (a + 1) (H a)) else (a + 1, H)
def insH (n : Nat) (H : Nat → Int64) (v : Int64) : Nat → Int64 := up (shH (popI v) n H).2 (shH (popI v) n H).1 v
theorem shH_le {b : Int32} : ∀ {a : Nat} {H : Nat → Int64}, (shH b a H).1 ≤ a := by
  intro a
  induction a with
  | zero => intro H; exact Nat.le_refl _
  | succ a ih =>
    intro H
    rw [shH]
    split
    · exact Nat.le_succ_of_le ih
    · exact Nat.le_refl _
theorem c_insert (h : Sc g S) (hn : I S 2 = nI n) (hn2 : n < 64) : hf_rn 80 0 [some (.ref S), some (.long v), none, none, none] [] g I (hf_w J (S + 11) H) = some (.inl none, g, hf_u I S 2 (nI (n + 1)), hf_w J (S + 11) (insH n H v)) := by
  have loop : ∀ (a : Nat) (H1 : Nat → Int64) (x : Int32), a ≤ n → x = nI a - 1 → shH (popI v) a H1 = shH (popI v) n H → hf_rn 80 13 [some (.ref S), some (.long v), none, some (.int (nI a)), some (.int x)] [] g I (hf_w J (S + 11) H1) = some (.inl none, g, hf_u I S 2 (nI (n + 1)), hf_w J (S + 11) (insH n H v)) := by
    intro a
    induction a with
    | zero =>
      intro H1 x ha hx hs
      have h1 : x < 0 := by rw [hx]; decide
      have e : insH n H v = up H1 0 v := by rw [insH, ← hs]; rfl
      simp only [s80_0, s80_1, s80_4, s80_5, s80_6, s80_9, s80_10, s80_11, s80_13, s80_15, s80_18, s80_19, s80_21, s80_24, s80_25, s80_28, s80_31, s80_32, s80_35, s80_37, s80_38, s80_39, s80_40, s80_43, s80_45, s80_48, s80_51, s80_53, s80_54, s80_60, s80_61, s80_64, s80_65, s80_66, s80_69, s80_70, s80_71, s80_74, s80_75, s80_76, s80_79, hf_bd_v, hf_bd_n, hf_iv_i, hf_iv_l, hf_iv_a, hf_iv_n, hf_iv_2, z_lgl, z_lgg, z_lge, z_lgle, z_lgz, Option.getD_some, Option.isSome_some, ↓reduceIte, not_true_eq_false, not_false_eq_true, Option.toList_some, Option.toList_none, List.cons_append, List.nil_append, Nat.reduceAdd, Nat.add_assoc, ku_ne, ku_same, ne_eq, Nat.reduceEqDiff, reduceCtorEq, Nat.add_eq_left, Nat.left_eq_add, Nat.reduceEqDiff, q10, q_ne, true_or, or_true, sc_k h, sc_r0 h, sc_r1 h, h1, hn, (sc_rw10 h).1, c_set (sc_rw10 h) (show 0 < 64 by decide), kuw, z_1, e]
    | succ a ih =>
      intro H1 x ha hx hs
      rw [nI_pred] at hx
      have h1 : ¬ x < 0 := by rw [hx]; exact nI_pos (by omega)
      by_cases hb : popI (H1 a) < popI v
      · have hb2 : ¬ popI v ≤ popI (H1 a) := by rw [Int32.le_iff_toInt_le]; rw [Int32.lt_iff_toInt_lt] at hb; omega
        simp only [s80_13, s80_15, s80_18, s80_19, s80_21, s80_24, s80_25, s80_28, s80_31, s80_32, s80_35, s80_37, s80_38, s80_39, s80_40, s80_43, s80_45, s80_48, s80_51, s80_53, s80_54, hf_bd_v, hf_bd_n, hf_iv_i, hf_iv_l, hf_iv_a, hf_iv_n, hf_iv_2, z_lgl, z_lgg, z_lge, z_lgle, z_lgz, Option.getD_some, Option.isSome_some, ↓reduceIte, not_true_eq_false, not_false_eq_true, Option.toList_some, Option.toList_none, List.cons_append, List.nil_append, Nat.reduceAdd, Nat.add_assoc, ku_ne, ku_same, ne_eq, Nat.reduceEqDiff, reduceCtorEq, Nat.add_eq_left, Nat.left_eq_add, Nat.reduceEqDiff, q10, q_ne, true_or, or_true, sc_k h, sc_r0 h, sc_r1 h, h1, hn, h.1, hx, z_i0 (show a < 2147483648 by omega), c_howMany h (show a < 64 by omega), kw_row, c_pop, hb2, (sc_rw10 h).1, c_get (sc_rw10 h) (show a < 64 by omega), c_set (sc_rw10 h) (show a + 1 < 64 by omega), kuw, z_1]
        rw [s80_57]
        exact ih _ _ (by omega) (by rw [im1]) (by rw [← hs, shH, if_pos hb])
      · have hb2 : popI v ≤ popI (H1 a) := by rw [Int32.le_iff_toInt_le]; rw [Int32.lt_iff_toInt_lt] at hb; omega
        have e : insH n H v = up H1 (a + 1) v := by rw [insH, ← hs, shH, if_neg hb]
        simp only [s80_0, s80_1, s80_4, s80_5, s80_6, s80_9, s80_10, s80_11, s80_13, s80_15, s80_18, s80_19, s80_21, s80_24, s80_25, s80_28, s80_31, s80_32, s80_35, s80_37, s80_38, s80_39, s80_40, s80_43, s80_45, s80_48, s80_51, s80_53, s80_54, s80_60, s80_61, s80_64, s80_65, s80_66, s80_69, s80_70, s80_71, s80_74, s80_75, s80_76, s80_79, hf_bd_v, hf_bd_n, hf_iv_i, hf_iv_l, hf_iv_a, hf_iv_n, hf_iv_2, z_lgl, z_lgg, z_lge, z_lgle, z_lgz, Option.getD_some, Option.isSome_some, ↓reduceIte, not_true_eq_false, not_false_eq_true, Option.toList_some, Option.toList_none, List.cons_append, List.nil_append, Nat.reduceAdd, Nat.add_assoc, ku_ne, ku_same, ne_eq, Nat.reduceEqDiff, reduceCtorEq, Nat.add_eq_left, Nat.left_eq_add, Nat.reduceEqDiff, q10, q_ne, true_or, or_true, sc_k h, sc_r0 h, sc_r1 h, h1, hn, h.1, hx, z_i0 (show a < 2147483648 by omega), c_howMany h (show a < 64 by omega), kw_row, c_pop, hb2, (sc_rw10 h).1, c_set (sc_rw10 h) (show a + 1 < 64 by omega), kuw, z_1, e]
  simp only [s80_0, s80_1, s80_4, s80_5, s80_6, s80_9, s80_10, s80_11, hf_bd_v, hf_bd_n, hf_iv_i, hf_iv_l, hf_iv_a, hf_iv_n, hf_iv_2, z_lgl, z_lgg, z_lge, z_lgle, z_lgz, Option.getD_some, Option.isSome_some, ↓reduceIte, not_true_eq_false, not_false_eq_true, Option.toList_some, Option.toList_none, List.cons_append, List.nil_append, Nat.reduceAdd, Nat.add_assoc, ku_ne, ku_same, ne_eq, Nat.reduceEqDiff, reduceCtorEq, Nat.add_eq_left, Nat.left_eq_add, Nat.reduceEqDiff, q10, q_ne, true_or, or_true, sc_k h, sc_r0 h, sc_r1 h, hn]
  exact loop n H _ (Nat.le_refl _) rfl rfl
/-- one grain is looked at -/
def fhs (c : Nat) (X Y : Nat → Int64) (l : Int64) (le : Int32) (k : Nat) (p : Int64 × Nat × (Nat → Int64)) : Int64 × Nat × (Nat → Int64) :=
  if btL p.1 k = true then p else (p.1 ||| grpL c X Y l k, if le ≤ popI (grpL c X Y l k) then (p.2.1 + 1, insH p.2.1 p.2.2 (grpL c X Y l k)) else p.2)
def fhF (c : Nat) (X Y : Nat → Int64) (l : Int64) (le : Int32) (H : Nat → Int64) (t : Nat) : Int64 × Nat × (Nat → Int64) := it t (0, 0, H) (fhs c X Y l le)
theorem fhF_le {X Y : Nat → Int64} {le : Int32} : ∀ t, (fhF c X Y v le H t).2.1 ≤ t := by
  intro t
  induction t with
  | zero => exact Nat.le_refl _
  | succ t ih =>
    rw [fhF, it_s, ← fhF, fhs]
    split
    · exact Nat.le_succ_of_le ih
    · dsimp only
      split
      · exact Nat.succ_le_succ ih
      · exact Nat.le_succ_of_le ih
theorem c_findHalos (h : Sc g S) (hc : I (S + 1) 5 = nI c) (hc2 : c ≤ 64) : hf_rn 77 0 [some (.ref S), some (.long v), none, some (.int i), none, none, none, none, none] [] g I J = some (.inl none, g, hf_u (hf_u I S 4 i) S 2 (nI (fhF c (J (S + 3)) (J (S + 5)) v i (J (S + 11)) c).2.1), hf_w (hf_u J S 3 v) (S + 11) (fhF c (J (S + 3)) (J (S + 5)) v i (J (S + 11)) c).2.2) := by
  have hg := sc_gr1 h
  have loop : ∀ (d t n : Nat) (x : Int64) (H : Nat → Int64) (l7 l8 : Option Value), t + d = c → (x, n, H) = fhF c (J (S + 3)) (J (S + 5)) v i (J (S + 11)) t → hf_rn 77 21 [some (.ref S), some (.long v), none, some (.int i), some (.long x), none, some (.int (nI t)), l7, l8] [] g (hf_u (hf_u I S 4 i) S 2 (nI n)) (hf_w (hf_u J S 3 v) (S + 11) H) = some (.inl none, g, hf_u (hf_u I S 4 i) S 2 (nI (fhF c (J (S + 3)) (J (S + 5)) v i (J (S + 11)) c).2.1), hf_w (hf_u J S 3 v) (S + 11) (fhF c (J (S + 3)) (J (S + 5)) v i (J (S + 11)) c).2.2) := by
    intro d
    induction d with
    | zero =>
      intro t n x H l7 l8 ht hx
      have e : t = c := by omega
      subst e
      have hc1 : hf_u (hf_u I S 4 i) S 2 (nI n) (S + 1) 5 = nI t := by rw [ku_ne (by omega), ku_ne (by omega), hc]
      rw [← hx]
      simp only [s77_0, s77_1, s77_2, s77_5, s77_6, s77_7, s77_10, s77_11, s77_12, s77_15, s77_16, s77_18, s77_19, s77_21, s77_23, s77_24, s77_27, s77_30, s77_33, s77_35, s77_37, s77_40, s77_43, s77_44, s77_46, s77_49, s77_51, s77_53, s77_55, s77_56, s77_58, s77_60, s77_63, s77_64, s77_67, s77_68, s77_70, s77_73, s77_79, hf_bd_v, hf_bd_n, hf_iv_i, hf_iv_l, hf_iv_a, hf_iv_n, hf_iv_2, z_lgl, z_lgg, z_lge, z_lgle, z_lgz, Option.getD_some, Option.isSome_some, ↓reduceIte, not_true_eq_false, not_false_eq_true, Option.toList_some, Option.toList_none, List.cons_append, List.nil_append, Nat.reduceAdd, Nat.add_assoc, ku_ne, ku_same, ne_eq, Nat.reduceEqDiff, reduceCtorEq, Nat.add_eq_left, Nat.left_eq_add, Nat.reduceEqDiff, q10, q_ne, true_or, or_true, sc_k h, sc_r0 h, sc_r1 h, hg.1, hc1, z_ii (show t < 2147483648 by omega) (show t < 2147483648 by omega), Nat.le_refl]
    | succ d ih =>
      intro t n x H l7 l8 ht hx
      have hk1 : ¬ c ≤ t := by omega
      have ht64 : t < 64 := by omega
      have hc1 : hf_u (hf_u I S 4 i) S 2 (nI n) (S + 1) 5 = nI c := by rw [ku_ne (by omega), ku_ne (by omega), hc]
      have hn1 : hf_u (hf_u I S 4 i) S 2 (nI n) S 2 = nI n := ku_same
      have hnt : n ≤ t := by have := @fhF_le c v (J (S + 11)) (J (S + 3)) (J (S + 5)) i t; rw [← hx] at this; exact this
      have e3 : hf_w (hf_u J S 3 v) (S + 11) H (S + 3) = J (S + 3) := by rw [kw_ne (by omega), ku_ne (by omega)]
      have e5 : hf_w (hf_u J S 3 v) (S + 11) H (S + 5) = J (S + 5) := by rw [kw_ne (by omega), ku_ne (by omega)]
      have e6 : hf_w (hf_u J S 3 v) (S + 11) H S 3 = v := by rw [kw_ne (by omega), ku_same]
      have hgo := c_groupOf (J := hf_w (hf_u J S 3 v) (S + 11) H) h hc1 hc2 ht64
      rw [e3, e5, e6] at hgo
      have hs : fhF c (J (S + 3)) (J (S + 5)) v i (J (S + 11)) (t + 1) = fhs c (J (S + 3)) (J (S + 5)) v i t (x, n, H) := by rw [fhF, it_s, ← fhF, ← hx]
      cases hb : btL x t
      · by_cases hl : i ≤ popI (grpL c (J (S + 3)) (J (S + 5)) v t)
        · have hl2 : ¬ popI (grpL c (J (S + 3)) (J (S + 5)) v t) < i := by rw [Int32.lt_iff_toInt_lt]; rw [Int32.le_iff_toInt_le] at hl; omega
          simp only [s77_21, s77_23, s77_24, s77_27, s77_30, s77_33, s77_35, s77_37, s77_40, s77_43, s77_44, s77_46, s77_49, s77_51, s77_53, s77_55, s77_56, s77_58, s77_60, s77_63, s77_64, s77_67, s77_68, s77_70, s77_73, hf_bd_v, hf_bd_n, hf_iv_i, hf_iv_l, hf_iv_a, hf_iv_n, hf_iv_2, z_lgl, z_lgg, z_lge, z_lgle, z_lgz, Option.getD_some, Option.isSome_some, ↓reduceIte, not_true_eq_false, not_false_eq_true, Option.toList_some, Option.toList_none, List.cons_append, List.nil_append, Nat.reduceAdd, Nat.add_assoc, ku_ne, ku_same, ne_eq, Nat.reduceEqDiff, reduceCtorEq, Nat.add_eq_left, Nat.left_eq_add, Nat.reduceEqDiff, q10, q_ne, true_or, or_true, sc_k h, sc_r0 h, sc_r1 h, hg.1, h.1, hc1, z_ii (show c < 2147483648 by omega) (show t < 2147483648 by omega), hk1, z_1, c_has ht64, hb, hgo, c_pop, hl2, c_insert h hn1 (show n < 64 by omega), Bool.false_eq_true]
          rw [s77_76, ku_ku]
          exact ih (t + 1) _ _ _ _ _ (by omega) (by rw [hs, fhs]; simp [hb, hl])
        · have hl2 : popI (grpL c (J (S + 3)) (J (S + 5)) v t) < i := by rw [Int32.lt_iff_toInt_lt]; rw [Int32.le_iff_toInt_le] at hl; omega
          simp only [s77_21, s77_23, s77_24, s77_27, s77_30, s77_33, s77_35, s77_37, s77_40, s77_43, s77_44, s77_46, s77_49, s77_51, s77_53, s77_55, s77_56, s77_58, s77_60, s77_63, s77_64, s77_67, s77_68, s77_70, s77_73, hf_bd_v, hf_bd_n, hf_iv_i, hf_iv_l, hf_iv_a, hf_iv_n, hf_iv_2, z_lgl, z_lgg, z_lge, z_lgle, z_lgz, Option.getD_some, Option.isSome_some, ↓reduceIte, not_true_eq_false, not_false_eq_true, Option.toList_some, Option.toList_none, List.cons_append, List.nil_append, Nat.reduceAdd, Nat.add_assoc, ku_ne, ku_same, ne_eq, Nat.reduceEqDiff, reduceCtorEq, Nat.add_eq_left, Nat.left_eq_add, Nat.reduceEqDiff, q10, q_ne, true_or, or_true, sc_k h, sc_r0 h, sc_r1 h, hg.1, h.1, hc1, z_ii (show c < 2147483648 by omega) (show t < 2147483648 by omega), hk1, z_1, c_has ht64, hb, hgo, c_pop, hl2, Bool.false_eq_true]
          rw [s77_76]
          exact ih (t + 1) _ _ _ _ _ (by omega) (by rw [hs, fhs]; simp [hb, hl])
      · simp only [s77_21, s77_23, s77_24, s77_27, s77_30, s77_33, s77_35, s77_37, s77_40, s77_43, s77_44, s77_46, s77_49, s77_51, s77_53, s77_55, s77_56, s77_58, s77_60, s77_63, s77_64, s77_67, s77_68, s77_70, s77_73, hf_bd_v, hf_bd_n, hf_iv_i, hf_iv_l, hf_iv_a, hf_iv_n, hf_iv_2, z_lgl, z_lgg, z_lge, z_lgle, z_lgz, Option.getD_some, Option.isSome_some, ↓reduceIte, not_true_eq_false, not_false_eq_true, Option.toList_some, Option.toList_none, List.cons_append, List.nil_append, Nat.reduceAdd, Nat.add_assoc, ku_ne, ku_same, ne_eq, Nat.reduceEqDiff, reduceCtorEq, Nat.add_eq_left, Nat.left_eq_add, Nat.reduceEqDiff, q10, q_ne, true_or, or_true, sc_k h, sc_r0 h, sc_r1 h, hg.1, h.1, hc1, z_ii (show c < 2147483648 by omega) (show t < 2147483648 by omega), hk1, z_1, c_has ht64, hb]
        rw [s77_76]
        exact ih (t + 1) _ _ _ _ _ (by omega) (by rw [hs, fhs]; simp [hb])
  have e0 : hf_w (hf_u J S 3 v) (S + 11) (J (S + 11)) = hf_u J S 3 v := by rw [kw_id]; rw [ku_ne (by omega)]
  have key := loop c 0 0 0 (J (S + 11)) none none (by omega) rfl
  rw [e0] at key
  simp only [s77_0, s77_1, s77_2, s77_5, s77_6, s77_7, s77_10, s77_11, s77_12, s77_15, s77_16, s77_18, s77_19, hf_bd_v, hf_bd_n, hf_iv_i, hf_iv_l, hf_iv_a, hf_iv_n, hf_iv_2, z_lgl, z_lgg, z_lge, z_lgle, z_lgz, Option.getD_some, Option.isSome_some, ↓reduceIte, not_true_eq_false, not_false_eq_true, Option.toList_some, Option.toList_none, List.cons_append, List.nil_append, Nat.reduceAdd, Nat.add_assoc, ku_ne, ku_same, ne_eq, Nat.reduceEqDiff, reduceCtorEq, Nat.add_eq_left, Nat.left_eq_add, Nat.reduceEqDiff, q10, q_ne, true_or, or_true, sc_k h, sc_r0 h, sc_r1 h]
  exact key

theorem c_allMembers (h : Sc g S) (hn : I S 2 = nI n) (hn2 : n ≤ 64) : hf_rn 83 0 [some (.ref S), none, none, none] [] g I J = some (.inl (some (.long (it n 0 fun k s => s ||| J (S + 11) k))), g, I, J) := by
  have loop : ∀ (d t : Nat) (x : Int64), t + d = n → x = it t 0 (fun k s => s ||| J (S + 11) k) → hf_rn 83 4 [some (.ref S), some (.long x), none, some (.int (nI t))] [] g I J = some (.inl (some (.long (it n 0 fun k s => s ||| J (S + 11) k))), g, I, J) := by
    intro d
    induction d with
    | zero =>
      intro t x ht hx
      have e : t = n := by omega
      subst e
      simp only [s83_0, s83_1, s83_2, s83_3, s83_4, s83_5, s83_6, s83_9, s83_12, s83_13, s83_14, s83_15, s83_18, s83_19, s83_20, s83_26, s83_27, hf_bd_v, hf_bd_n, hf_iv_i, hf_iv_l, hf_iv_a, hf_iv_n, hf_iv_2, z_lgl, z_lgg, z_lge, z_lgle, z_lgz, Option.getD_some, Option.isSome_some, ↓reduceIte, not_true_eq_false, not_false_eq_true, Option.toList_some, Option.toList_none, List.cons_append, List.nil_append, Nat.reduceAdd, Nat.add_assoc, ku_ne, ku_same, ne_eq, Nat.reduceEqDiff, reduceCtorEq, Nat.add_eq_left, Nat.left_eq_add, Nat.reduceEqDiff, q10, q_ne, true_or, or_true, sc_k h, sc_r0 h, sc_r1 h, hn, hx, z_ii (show t < 2147483648 by omega) (show t < 2147483648 by omega), Nat.le_refl]
    | succ d ih =>
      intro t x ht hx
      have hk1 : ¬ n ≤ t := by omega
      simp only [s83_4, s83_5, s83_6, s83_9, s83_12, s83_13, s83_14, s83_15, s83_18, s83_19, s83_20, hf_bd_v, hf_bd_n, hf_iv_i, hf_iv_l, hf_iv_a, hf_iv_n, hf_iv_2, z_lgl, z_lgg, z_lge, z_lgle, z_lgz, Option.getD_some, Option.isSome_some, ↓reduceIte, not_true_eq_false, not_false_eq_true, Option.toList_some, Option.toList_none, List.cons_append, List.nil_append, Nat.reduceAdd, Nat.add_assoc, ku_ne, ku_same, ne_eq, Nat.reduceEqDiff, reduceCtorEq, Nat.add_eq_left, Nat.left_eq_add, Nat.reduceEqDiff, q10, q_ne, true_or, or_true, sc_k h, sc_r0 h, sc_r1 h, h.1, hn, z_ii (show n < 2147483648 by omega) (show t < 2147483648 by omega), hk1, z_1, c_members h (show t < 64 by omega)]
      rw [s83_23]
      exact ih (t + 1) _ (by omega) (by rw [hx]; rfl)
  simp only [s83_0, s83_1, s83_2, s83_3, hf_bd_v, hf_bd_n, hf_iv_i, hf_iv_l, hf_iv_a, hf_iv_n, hf_iv_2, z_lgl, z_lgg, z_lge, z_lgle, z_lgz, Option.getD_some, Option.isSome_some, ↓reduceIte, not_true_eq_false, not_false_eq_true, Option.toList_some, Option.toList_none, List.cons_append, List.nil_append, Nat.reduceAdd, Nat.add_assoc, ku_ne, ku_same, ne_eq, Nat.reduceEqDiff, reduceCtorEq, Nat.add_eq_left, Nat.left_eq_add, Nat.reduceEqDiff, q10, q_ne, true_or, or_true]
  exact loop n 0 0 (by omega) rfl
/-- the first halo with the most in common, and how many these are -/
def moF (H : Nat → Int64) (w : Int64) (n : Nat) : Int32 × Int32 := it n (-1, 0) fun k p => if p.2 < popI (H k &&& w) then (nI k, popI (H k &&& w)) else p
theorem c_mostOf (h : Sc g S) (hn : I S 2 = nI n) (hn2 : n ≤ 64) : hf_rn 84 0 [some (.ref S), some (.long w), none, none, none, none, none] [] g I J = some (.inl (some (.int (moF (J (S + 11)) w n).1)), g, I, J) := by
  have loop : ∀ (d t : Nat) (x y : Int32) (l6 : Option Value), t + d = n → (x, y) = moF (J (S + 11)) w t → hf_rn 84 8 [some (.ref S), some (.long w), none, some (.int x), some (.int y), some (.int (nI t)), l6] [] g I J = some (.inl (some (.int (moF (J (S + 11)) w n).1)), g, I, J) := by
    intro d
    induction d with
    | zero =>
      intro t x y l6 ht hx
      have e : t = n := by omega
      subst e
      rw [← hx]
      simp only [s84_0, s84_1, s84_2, s84_3, s84_5, s84_6, s84_8, s84_10, s84_11, s84_14, s84_17, s84_18, s84_20, s84_23, s84_24, s84_25, s84_28, s84_30, s84_32, s84_34, s84_37, s84_39, s84_41, s84_43, s84_44, s84_50, s84_51, hf_bd_v, hf_bd_n, hf_iv_i, hf_iv_l, hf_iv_a, hf_iv_n, hf_iv_2, z_lgl, z_lgg, z_lge, z_lgle, z_lgz, Option.getD_some, Option.isSome_some, ↓reduceIte, not_true_eq_false, not_false_eq_true, Option.toList_some, Option.toList_none, List.cons_append, List.nil_append, Nat.reduceAdd, Nat.add_assoc, ku_ne, ku_same, ne_eq, Nat.reduceEqDiff, reduceCtorEq, Nat.add_eq_left, Nat.left_eq_add, Nat.reduceEqDiff, q10, q_ne, true_or, or_true, sc_k h, sc_r0 h, sc_r1 h, hn, z_ii (show t < 2147483648 by omega) (show t < 2147483648 by omega), Nat.le_refl]
    | succ d ih =>
      intro t x y l6 ht hx
      have hk1 : ¬ n ≤ t := by omega
      by_cases hb : y < popI (J (S + 11) t &&& w)
      · have hb2 : ¬ popI (J (S + 11) t &&& w) ≤ y := by rw [Int32.le_iff_toInt_le]; rw [Int32.lt_iff_toInt_lt] at hb; omega
        simp only [s84_8, s84_10, s84_11, s84_14, s84_17, s84_18, s84_20, s84_23, s84_24, s84_25, s84_28, s84_30, s84_32, s84_34, s84_37, s84_39, s84_41, s84_43, s84_44, hf_bd_v, hf_bd_n, hf_iv_i, hf_iv_l, hf_iv_a, hf_iv_n, hf_iv_2, z_lgl, z_lgg, z_lge, z_lgle, z_lgz, Option.getD_some, Option.isSome_some, ↓reduceIte, not_true_eq_false, not_false_eq_true, Option.toList_some, Option.toList_none, List.cons_append, List.nil_append, Nat.reduceAdd, Nat.add_assoc, ku_ne, ku_same, ne_eq, Nat.reduceEqDiff, reduceCtorEq, Nat.add_eq_left, Nat.left_eq_add, Nat.reduceEqDiff, q10, q_ne, true_or, or_true, sc_k h, sc_r0 h, sc_r1 h, h.1, hn, z_ii (show n < 2147483648 by omega) (show t < 2147483648 by omega), hk1, z_1, c_members h (show t < 64 by omega), c_pop, hb2]
        rw [s84_47]
        exact ih (t + 1) _ _ _ (by omega) (by rw [moF, it_s, ← moF, ← hx, if_pos hb])
      · have hb2 : popI (J (S + 11) t &&& w) ≤ y := by rw [Int32.le_iff_toInt_le]; rw [Int32.lt_iff_toInt_lt] at hb; omega
        simp only [s84_8, s84_10, s84_11, s84_14, s84_17, s84_18, s84_20, s84_23, s84_24, s84_25, s84_28, s84_30, s84_32, s84_34, s84_37, s84_39, s84_41, s84_43, s84_44, hf_bd_v, hf_bd_n, hf_iv_i, hf_iv_l, hf_iv_a, hf_iv_n, hf_iv_2, z_lgl, z_lgg, z_lge, z_lgle, z_lgz, Option.getD_some, Option.isSome_some, ↓reduceIte, not_true_eq_false, not_false_eq_true, Option.toList_some, Option.toList_none, List.cons_append, List.nil_append, Nat.reduceAdd, Nat.add_assoc, ku_ne, ku_same, ne_eq, Nat.reduceEqDiff, reduceCtorEq, Nat.add_eq_left, Nat.left_eq_add, Nat.reduceEqDiff, q10, q_ne, true_or, or_true, sc_k h, sc_r0 h, sc_r1 h, h.1, hn, z_ii (show n < 2147483648 by omega) (show t < 2147483648 by omega), hk1, z_1, c_members h (show t < 64 by omega), c_pop, hb2]
        rw [s84_47]
        exact ih (t + 1) _ _ _ (by omega) (by rw [moF, it_s, ← moF, ← hx, if_neg hb])
  simp only [s84_0, s84_1, s84_2, s84_3, s84_5, s84_6, hf_bd_v, hf_bd_n, hf_iv_i, hf_iv_l, hf_iv_a, hf_iv_n, hf_iv_2, z_lgl, z_lgg, z_lge, z_lgle, z_lgz, Option.getD_some, Option.isSome_some, ↓reduceIte, not_true_eq_false, not_false_eq_true, Option.toList_some, Option.toList_none, List.cons_append, List.nil_append, Nat.reduceAdd, Nat.add_assoc, ku_ne, ku_same, ne_eq, Nat.reduceEqDiff, reduceCtorEq, Nat.add_eq_left, Nat.left_eq_add, Nat.reduceEqDiff, q10, q_ne, true_or, or_true]
  exact loop n 0 _ _ _ (by omega) rfl
theorem c_middleX (h : Sc g S) (hc : I (S + 1) 5 = nI c) (hc2 : c ≤ 64) (hk : k < 64) (hq : lowI (btL (J (S + 11) k)) = nI q) (hq2 : q < 64) : hf_rn 86 0 [some (.ref S), some (.int (nI k)), some (.int 1), none, none, none, none, none, none] [] g I J = some (.inl (some (.long (plc (J (S + 3) q + by1 (smP c (btL (J (S + 11) k)) (fun m => wayL (J (S + 3) q) (J (S + 3) m))) (popI (J (S + 11) k)).toInt64)))), g, I, J) := by
  have hg := sc_gr1 h
  have loop : ∀ (d t : Nat) (x : Int64), t + d = c → x = smP t (btL (J (S + 11) k)) (fun m => wayL (J (S + 3) q) (J (S + 3) m)) → hf_rn 86 18 [some (.ref S), some (.int (nI k)), some (.int 1), some (.long (J (S + 11) k)), none, some (.int (nI q)), some (.long x), none, some (.int (nI t))] [] g I J = some (.inl (some (.long (plc (J (S + 3) q + by1 (smP c (btL (J (S + 11) k)) (fun m => wayL (J (S + 3) q) (J (S + 3) m))) (popI (J (S + 11) k)).toInt64)))), g, I, J) := by
    intro d
    induction d with
    | zero =>
      intro t x ht hx
      have e : t = c := by omega
      subst e
      have hp := c_placesX (I := I) (J := J) hg
      have hr : Rw g (S + 2) 64 := gr_rw1 hg
      simp only [s86_0, s86_1, s86_2, s86_5, s86_6, s86_7, s86_10, s86_12, s86_13, s86_15, s86_16, s86_18, s86_20, s86_21, s86_24, s86_27, s86_30, s86_31, s86_33, s86_36, s86_39, s86_41, s86_42, s86_45, s86_47, s86_49, s86_50, s86_53, s86_54, s86_56, s86_62, s86_63, s86_66, s86_67, s86_70, s86_72, s86_75, s86_77, s86_78, s86_79, s86_82, s86_83, s86_86, s86_87, s86_90, hf_bd_v, hf_bd_n, hf_iv_i, hf_iv_l, hf_iv_a, hf_iv_n, hf_iv_2, z_lgl, z_lgg, z_lge, z_lgle, z_lgz, Option.getD_some, Option.isSome_some, ↓reduceIte, not_true_eq_false, not_false_eq_true, Option.toList_some, Option.toList_none, List.cons_append, List.nil_append, Nat.reduceAdd, Nat.add_assoc, ku_ne, ku_same, ne_eq, Nat.reduceEqDiff, reduceCtorEq, Nat.add_eq_left, Nat.left_eq_add, Nat.reduceEqDiff, q10, q_ne, true_or, or_true, sc_k h, sc_r0 h, sc_r1 h, h.1, hg.1, hc, hx, z_ii (show t < 2147483648 by omega) (show t < 2147483648 by omega), Nat.le_refl, hp, hr.1, c_get hr hq2, c_howMany h hk, c_by1, c_place]
    | succ d ih =>
      intro t x ht hx
      have hk1 : ¬ c ≤ t := by omega
      have ht64 : t < 64 := by omega
      have hw := c_grwayX (I := I) (J := J) hg hq2 ht64
      cases hb : btL (J (S + 11) k) t
      · simp only [s86_18, s86_20, s86_21, s86_24, s86_27, s86_30, s86_31, s86_33, s86_36, s86_39, s86_41, s86_42, s86_45, s86_47, s86_49, s86_50, s86_53, s86_54, s86_56, hf_bd_v, hf_bd_n, hf_iv_i, hf_iv_l, hf_iv_a, hf_iv_n, hf_iv_2, z_lgl, z_lgg, z_lge, z_lgle, z_lgz, Option.getD_some, Option.isSome_some, ↓reduceIte, not_true_eq_false, not_false_eq_true, Option.toList_some, Option.toList_none, List.cons_append, List.nil_append, Nat.reduceAdd, Nat.add_assoc, ku_ne, ku_same, ne_eq, Nat.reduceEqDiff, reduceCtorEq, Nat.add_eq_left, Nat.left_eq_add, Nat.reduceEqDiff, q10, q_ne, true_or, or_true, sc_k h, sc_r0 h, sc_r1 h, h.1, hg.1, hc, z_ii (show c < 2147483648 by omega) (show t < 2147483648 by omega), hk1, z_1, c_has ht64, hb, Bool.false_eq_true]
        rw [s86_59]
        exact ih (t + 1) _ (by omega) (by rw [hx, smP, smP, it_s, hb]; rfl)
      · simp only [s86_18, s86_20, s86_21, s86_24, s86_27, s86_30, s86_31, s86_33, s86_36, s86_39, s86_41, s86_42, s86_45, s86_47, s86_49, s86_50, s86_53, s86_54, s86_56, hf_bd_v, hf_bd_n, hf_iv_i, hf_iv_l, hf_iv_a, hf_iv_n, hf_iv_2, z_lgl, z_lgg, z_lge, z_lgle, z_lgz, Option.getD_some, Option.isSome_some, ↓reduceIte, not_true_eq_false, not_false_eq_true, Option.toList_some, Option.toList_none, List.cons_append, List.nil_append, Nat.reduceAdd, Nat.add_assoc, ku_ne, ku_same, ne_eq, Nat.reduceEqDiff, reduceCtorEq, Nat.add_eq_left, Nat.left_eq_add, Nat.reduceEqDiff, q10, q_ne, true_or, or_true, sc_k h, sc_r0 h, sc_r1 h, h.1, hg.1, hc, z_ii (show c < 2147483648 by omega) (show t < 2147483648 by omega), hk1, z_1, c_has ht64, hb, hw]
        rw [s86_59]
        exact ih (t + 1) _ (by omega) (by rw [hx, smP, smP, it_s, hb]; rfl)
  simp only [s86_0, s86_1, s86_2, s86_5, s86_6, s86_7, s86_10, s86_12, s86_13, s86_15, s86_16, hf_bd_v, hf_bd_n, hf_iv_i, hf_iv_l, hf_iv_a, hf_iv_n, hf_iv_2, z_lgl, z_lgg, z_lge, z_lgle, z_lgz, Option.getD_some, Option.isSome_some, ↓reduceIte, not_true_eq_false, not_false_eq_true, Option.toList_some, Option.toList_none, List.cons_append, List.nil_append, Nat.reduceAdd, Nat.add_assoc, ku_ne, ku_same, ne_eq, Nat.reduceEqDiff, reduceCtorEq, Nat.add_eq_left, Nat.left_eq_add, Nat.reduceEqDiff, q10, q_ne, true_or, or_true, h.1, c_members h hk, c_lowest, hq]
  exact loop c 0 _ (by omega) rfl
theorem c_middleY (h : Sc g S) (hc : I (S + 1) 5 = nI c) (hc2 : c ≤ 64) (hk : k < 64) (hq : lowI (btL (J (S + 11) k)) = nI q) (hq2 : q < 64) : hf_rn 86 0 [some (.ref S), some (.int (nI k)), some (.int 0), none, none, none, none, none, none] [] g I J = some (.inl (some (.long (plc (J (S + 5) q + by1 (smP c (btL (J (S + 11) k)) (fun m => wayL (J (S + 5) q) (J (S + 5) m))) (popI (J (S + 11) k)).toInt64)))), g, I, J) := by
  have hg := sc_gr1 h
  have loop : ∀ (d t : Nat) (x : Int64), t + d = c → x = smP t (btL (J (S + 11) k)) (fun m => wayL (J (S + 5) q) (J (S + 5) m)) → hf_rn 86 18 [some (.ref S), some (.int (nI k)), some (.int 0), some (.long (J (S + 11) k)), none, some (.int (nI q)), some (.long x), none, some (.int (nI t))] [] g I J = some (.inl (some (.long (plc (J (S + 5) q + by1 (smP c (btL (J (S + 11) k)) (fun m => wayL (J (S + 5) q) (J (S + 5) m))) (popI (J (S + 11) k)).toInt64)))), g, I, J) := by
    intro d
    induction d with
    | zero =>
      intro t x ht hx
      have e : t = c := by omega
      subst e
      have hp := c_placesY (I := I) (J := J) hg
      have hr : Rw g (S + 4) 64 := gr_rw3 hg
      simp only [s86_0, s86_1, s86_2, s86_5, s86_6, s86_7, s86_10, s86_12, s86_13, s86_15, s86_16, s86_18, s86_20, s86_21, s86_24, s86_27, s86_30, s86_31, s86_33, s86_36, s86_39, s86_41, s86_42, s86_45, s86_47, s86_49, s86_50, s86_53, s86_54, s86_56, s86_62, s86_63, s86_66, s86_67, s86_70, s86_72, s86_75, s86_77, s86_78, s86_79, s86_82, s86_83, s86_86, s86_87, s86_90, hf_bd_v, hf_bd_n, hf_iv_i, hf_iv_l, hf_iv_a, hf_iv_n, hf_iv_2, z_lgl, z_lgg, z_lge, z_lgle, z_lgz, Option.getD_some, Option.isSome_some, ↓reduceIte, not_true_eq_false, not_false_eq_true, Option.toList_some, Option.toList_none, List.cons_append, List.nil_append, Nat.reduceAdd, Nat.add_assoc, ku_ne, ku_same, ne_eq, Nat.reduceEqDiff, reduceCtorEq, Nat.add_eq_left, Nat.left_eq_add, Nat.reduceEqDiff, q10, q_ne, true_or, or_true, sc_k h, sc_r0 h, sc_r1 h, h.1, hg.1, hc, hx, z_ii (show t < 2147483648 by omega) (show t < 2147483648 by omega), Nat.le_refl, hp, hr.1, c_get hr hq2, c_howMany h hk, c_by1, c_place]
    | succ d ih =>
      intro t x ht hx
      have hk1 : ¬ c ≤ t := by omega
      have ht64 : t < 64 := by omega
      have hw := c_grwayY (I := I) (J := J) hg hq2 ht64
      cases hb : btL (J (S + 11) k) t
      · simp only [s86_18, s86_20, s86_21, s86_24, s86_27, s86_30, s86_31, s86_33, s86_36, s86_39, s86_41, s86_42, s86_45, s86_47, s86_49, s86_50, s86_53, s86_54, s86_56, hf_bd_v, hf_bd_n, hf_iv_i, hf_iv_l, hf_iv_a, hf_iv_n, hf_iv_2, z_lgl, z_lgg, z_lge, z_lgle, z_lgz, Option.getD_some, Option.isSome_some, ↓reduceIte, not_true_eq_false, not_false_eq_true, Option.toList_some, Option.toList_none, List.cons_append, List.nil_append, Nat.reduceAdd, Nat.add_assoc, ku_ne, ku_same, ne_eq, Nat.reduceEqDiff, reduceCtorEq, Nat.add_eq_left, Nat.left_eq_add, Nat.reduceEqDiff, q10, q_ne, true_or, or_true, sc_k h, sc_r0 h, sc_r1 h, h.1, hg.1, hc, z_ii (show c < 2147483648 by omega) (show t < 2147483648 by omega), hk1, z_1, c_has ht64, hb, Bool.false_eq_true]
        rw [s86_59]
        exact ih (t + 1) _ (by omega) (by rw [hx, smP, smP, it_s, hb]; rfl)
      · simp only [s86_18, s86_20, s86_21, s86_24, s86_27, s86_30, s86_31, s86_33, s86_36, s86_39, s86_41, s86_42, s86_45, s86_47, s86_49, s86_50, s86_53, s86_54, s86_56, hf_bd_v, hf_bd_n, hf_iv_i, hf_iv_l, hf_iv_a, hf_iv_n, hf_iv_2, z_lgl, z_lgg, z_lge, z_lgle, z_lgz, Option.getD_some, Option.isSome_some, ↓reduceIte, not_true_eq_false, not_false_eq_true, Option.toList_some, Option.toList_none, List.cons_append, List.nil_append, Nat.reduceAdd, Nat.add_assoc, ku_ne, ku_same, ne_eq, Nat.reduceEqDiff, reduceCtorEq, Nat.add_eq_left, Nat.left_eq_add, Nat.reduceEqDiff, q10, q_ne, true_or, or_true, sc_k h, sc_r0 h, sc_r1 h, h.1, hg.1, hc, z_ii (show c < 2147483648 by omega) (show t < 2147483648 by omega), hk1, z_1, c_has ht64, hb, hw]
        rw [s86_59]
        exact ih (t + 1) _ (by omega) (by rw [hx, smP, smP, it_s, hb]; rfl)
  simp only [s86_0, s86_1, s86_2, s86_5, s86_6, s86_7, s86_10, s86_12, s86_13, s86_15, s86_16, hf_bd_v, hf_bd_n, hf_iv_i, hf_iv_l, hf_iv_a, hf_iv_n, hf_iv_2, z_lgl, z_lgg, z_lge, z_lgle, z_lgz, Option.getD_some, Option.isSome_some, ↓reduceIte, not_true_eq_false, not_false_eq_true, Option.toList_some, Option.toList_none, List.cons_append, List.nil_append, Nat.reduceAdd, Nat.add_assoc, ku_ne, ku_same, ne_eq, Nat.reduceEqDiff, reduceCtorEq, Nat.add_eq_left, Nat.left_eq_add, Nat.reduceEqDiff, q10, q_ne, true_or, or_true, h.1, c_members h hk, c_lowest, hq]
  exact loop c 0 _ (by omega) rfl

theorem c_speedX (h : Sc g S) (hc : I (S + 1) 5 = nI c) (hc2 : c ≤ 64) (hk : k < 64) : hf_rn 87 0 [some (.ref S), some (.int (nI k)), some (.int 1)] [] g I J = some (.inl (some (.long (by1 (smP c (btL (J (S + 11) k)) (J (S + 7))) (popI (J (S + 11) k)).toInt64))), g, I, J) := by
  have hg := sc_gr1 h
  have hs := c_commonX (I := I) (J := J) (v := J (S + 11) k) hg hc hc2
  simp only [s87_0, s87_1, s87_4, s87_5, s87_6, s87_9, s87_10, s87_13, hf_bd_v, hf_bd_n, hf_iv_i, hf_iv_l, hf_iv_a, hf_iv_n, hf_iv_2, z_lgl, z_lgg, z_lge, z_lgle, z_lgz, Option.getD_some, Option.isSome_some, ↓reduceIte, not_true_eq_false, not_false_eq_true, Option.toList_some, Option.toList_none, List.cons_append, List.nil_append, Nat.reduceAdd, Nat.add_assoc, ku_ne, ku_same, ne_eq, Nat.reduceEqDiff, reduceCtorEq, Nat.add_eq_left, Nat.left_eq_add, Nat.reduceEqDiff, q10, q_ne, true_or, or_true, sc_k h, sc_r0 h, sc_r1 h, h.1, hg.1, c_members h hk, hs]
theorem c_speedY (h : Sc g S) (hc : I (S + 1) 5 = nI c) (hc2 : c ≤ 64) (hk : k < 64) : hf_rn 87 0 [some (.ref S), some (.int (nI k)), some (.int 0)] [] g I J = some (.inl (some (.long (by1 (smP c (btL (J (S + 11) k)) (J (S + 9))) (popI (J (S + 11) k)).toInt64))), g, I, J) := by
  have hg := sc_gr1 h
  have hs := c_commonY (I := I) (J := J) (v := J (S + 11) k) hg hc hc2
  simp only [s87_0, s87_1, s87_4, s87_5, s87_6, s87_9, s87_10, s87_13, hf_bd_v, hf_bd_n, hf_iv_i, hf_iv_l, hf_iv_a, hf_iv_n, hf_iv_2, z_lgl, z_lgg, z_lge, z_lgle, z_lgz, Option.getD_some, Option.isSome_some, ↓reduceIte, not_true_eq_false, not_false_eq_true, Option.toList_some, Option.toList_none, List.cons_append, List.nil_append, Nat.reduceAdd, Nat.add_assoc, ku_ne, ku_same, ne_eq, Nat.reduceEqDiff, reduceCtorEq, Nat.add_eq_left, Nat.left_eq_add, Nat.reduceEqDiff, q10, q_ne, true_or, or_true, sc_k h, sc_r0 h, sc_r1 h, h.1, hg.1, c_members h hk, hs]
theorem c_spin (h : Sc g S) (hc : I (S + 1) 5 = nI c) (hc2 : c ≤ 64) (hk : k < 64) (hq : lowI (btL (J (S + 11) k)) = nI q) (hq2 : q < 64) : hf_rn 88 0 [some (.ref S), some (.int (nI k)), none, none, none, none, none, none] [] g I J = some (.inl (some (.long (smP c (btL (J (S + 11) k)) (fun m => wayL (J (S + 3) q) (J (S + 3) m) * J (S + 9) m - wayL (J (S + 5) q) (J (S + 5) m) * J (S + 7) m)))), g, I, J) := by
  have hg := sc_gr1 h
  have loop : ∀ (d t : Nat) (x : Int64), t + d = c → x = smP t (btL (J (S + 11) k)) (fun m => wayL (J (S + 3) q) (J (S + 3) m) * J (S + 9) m - wayL (J (S + 5) q) (J (S + 5) m) * J (S + 7) m) → hf_rn 88 18 [some (.ref S), some (.int (nI k)), some (.long (J (S + 11) k)), none, some (.int (nI q)), some (.long x), none, some (.int (nI t))] [] g I J = some (.inl (some (.long (smP c (btL (J (S + 11) k)) (fun m => wayL (J (S + 3) q) (J (S + 3) m) * J (S + 9) m - wayL (J (S + 5) q) (J (S + 5) m) * J (S + 7) m)))), g, I, J) := by
    intro d
    induction d with
    | zero =>
      intro t x ht hx
      have e : t = c := by omega
      subst e
      simp only [s88_0, s88_1, s88_2, s88_5, s88_6, s88_7, s88_10, s88_12, s88_13, s88_15, s88_16, s88_18, s88_20, s88_21, s88_24, s88_27, s88_30, s88_31, s88_33, s88_36, s88_39, s88_41, s88_42, s88_45, s88_47, s88_49, s88_50, s88_53, s88_54, s88_57, s88_60, s88_62, s88_65, s88_66, s88_67, s88_70, s88_72, s88_74, s88_75, s88_78, s88_79, s88_82, s88_85, s88_87, s88_90, s88_91, s88_92, s88_93, s88_95, s88_101, s88_103, hf_bd_v, hf_bd_n, hf_iv_i, hf_iv_l, hf_iv_a, hf_iv_n, hf_iv_2, z_lgl, z_lgg, z_lge, z_lgle, z_lgz, Option.getD_some, Option.isSome_some, ↓reduceIte, not_true_eq_false, not_false_eq_true, Option.toList_some, Option.toList_none, List.cons_append, List.nil_append, Nat.reduceAdd, Nat.add_assoc, ku_ne, ku_same, ne_eq, Nat.reduceEqDiff, reduceCtorEq, Nat.add_eq_left, Nat.left_eq_add, Nat.reduceEqDiff, q10, q_ne, true_or, or_true, sc_k h, sc_r0 h, sc_r1 h, h.1, hg.1, hc, hx, z_ii (show t < 2147483648 by omega) (show t < 2147483648 by omega), Nat.le_refl]
    | succ d ih =>
      intro t x ht hx
      have hk1 : ¬ c ≤ t := by omega
      have ht64 : t < 64 := by omega
      have hw := c_grwayX (I := I) (J := J) hg hq2 ht64
      have hw2 := c_grwayY (I := I) (J := J) hg hq2 ht64
      have f2 : hf_r g (S + 1) 2 = some (S + 6) := gr_r2 hg
      have f3 : hf_r g (S + 1) 3 = some (S + 8) := gr_r3 hg
      have hr5 : Rw g (S + 6) 64 := gr_rw5 hg
      have hr7 : Rw g (S + 8) 64 := gr_rw7 hg
      cases hb : btL (J (S + 11) k) t
      · simp only [s88_18, s88_20, s88_21, s88_24, s88_27, s88_30, s88_31, s88_33, s88_36, s88_39, s88_41, s88_42, s88_45, s88_47, s88_49, s88_50, s88_53, s88_54, s88_57, s88_60, s88_62, s88_65, s88_66, s88_67, s88_70, s88_72, s88_74, s88_75, s88_78, s88_79, s88_82, s88_85, s88_87, s88_90, s88_91, s88_92, s88_93, s88_95, hf_bd_v, hf_bd_n, hf_iv_i, hf_iv_l, hf_iv_a, hf_iv_n, hf_iv_2, z_lgl, z_lgg, z_lge, z_lgle, z_lgz, Option.getD_some, Option.isSome_some, ↓reduceIte, not_true_eq_false, not_false_eq_true, Option.toList_some, Option.toList_none, List.cons_append, List.nil_append, Nat.reduceAdd, Nat.add_assoc, ku_ne, ku_same, ne_eq, Nat.reduceEqDiff, reduceCtorEq, Nat.add_eq_left, Nat.left_eq_add, Nat.reduceEqDiff, q10, q_ne, true_or, or_true, sc_k h, sc_r0 h, sc_r1 h, h.1, hg.1, hc, z_ii (show c < 2147483648 by omega) (show t < 2147483648 by omega), hk1, z_1, c_has ht64, hb, Bool.false_eq_true]
        rw [s88_98]
        exact ih (t + 1) _ (by omega) (by rw [hx, smP, smP, it_s, hb]; rfl)
      · simp only [s88_18, s88_20, s88_21, s88_24, s88_27, s88_30, s88_31, s88_33, s88_36, s88_39, s88_41, s88_42, s88_45, s88_47, s88_49, s88_50, s88_53, s88_54, s88_57, s88_60, s88_62, s88_65, s88_66, s88_67, s88_70, s88_72, s88_74, s88_75, s88_78, s88_79, s88_82, s88_85, s88_87, s88_90, s88_91, s88_92, s88_93, s88_95, hf_bd_v, hf_bd_n, hf_iv_i, hf_iv_l, hf_iv_a, hf_iv_n, hf_iv_2, z_lgl, z_lgg, z_lge, z_lgle, z_lgz, Option.getD_some, Option.isSome_some, ↓reduceIte, not_true_eq_false, not_false_eq_true, Option.toList_some, Option.toList_none, List.cons_append, List.nil_append, Nat.reduceAdd, Nat.add_assoc, ku_ne, ku_same, ne_eq, Nat.reduceEqDiff, reduceCtorEq, Nat.add_eq_left, Nat.left_eq_add, Nat.reduceEqDiff, q10, q_ne, true_or, or_true, sc_k h, sc_r0 h, sc_r1 h, h.1, hg.1, hc, z_ii (show c < 2147483648 by omega) (show t < 2147483648 by omega), hk1, z_1, c_has ht64, hb, hw, hw2, f2, f3, hr5.1, hr7.1, c_get hr5 ht64, c_get hr7 ht64]
        rw [s88_98]
        exact ih (t + 1) _ (by omega) (by rw [hx, smP, smP, it_s, hb]; rfl)
  simp only [s88_0, s88_1, s88_2, s88_5, s88_6, s88_7, s88_10, s88_12, s88_13, s88_15, s88_16, hf_bd_v, hf_bd_n, hf_iv_i, hf_iv_l, hf_iv_a, hf_iv_n, hf_iv_2, z_lgl, z_lgg, z_lge, z_lgle, z_lgz, Option.getD_some, Option.isSome_some, ↓reduceIte, not_true_eq_false, not_false_eq_true, Option.toList_some, Option.toList_none, List.cons_append, List.nil_append, Nat.reduceAdd, Nat.add_assoc, ku_ne, ku_same, ne_eq, Nat.reduceEqDiff, reduceCtorEq, Nat.add_eq_left, Nat.left_eq_add, Nat.reduceEqDiff, q10, q_ne, true_or, or_true, h.1, c_members h hk, c_lowest, hq]
  exact loop c 0 _ (by omega) rfl
/-- something of a halo -/
def valH (c : Nat) (X Y U W : Nat → Int64) (b : Int64) (q m : Nat) : Int64 :=
  if m = 0 then (popI b).toInt64 else if m = 1 then plc (X q + by1 (smP c (btL b) (fun m => wayL (X q) (X m))) (popI b).toInt64) else if m = 2 then plc (Y q + by1 (smP c (btL b) (fun m => wayL (Y q) (Y m))) (popI b).toInt64)
  else if m = 3 then by1 (smP c (btL b) U) (popI b).toInt64 else if m = 4 then by1 (smP c (btL b) W) (popI b).toInt64 else smP c (btL b) (fun m => wayL (X q) (X m) * W m - wayL (Y q) (Y m) * U m)
theorem c_valH (h : Sc g S) (hc : I (S + 1) 5 = nI c) (hc2 : c ≤ 64) (hk : k < 64) (hq : lowI (btL (J (S + 11) k)) = nI q) (hq2 : q < 64) (hm : m < 6) : hf_rn 85 0 [some (.ref S), some (.int (nI k)), some (.int (nI m))] [] g I J = some (.inl (some (.long (valH c (J (S + 3)) (J (S + 5)) (J (S + 7)) (J (S + 9)) (J (S + 11) k) q m))), g, I, J) := by
  match m, hm with
  | 0, _ => simp only [s85_0, s85_1, s85_1_c0, s85_1_c1, s85_1_c2, s85_1_c3, s85_1_c4, s85_36, s85_37, s85_38, s85_41, s85_42, s85_43, s85_44, s85_45, s85_46, s85_47, s85_50, s85_51, s85_54, s85_55, s85_58, s85_59, s85_60, s85_61, s85_62, s85_63, s85_66, s85_67, s85_70, s85_71, s85_74, s85_75, s85_76, s85_77, s85_80, hf_bd_v, hf_bd_n, hf_iv_i, hf_iv_l, hf_iv_a, hf_iv_n, hf_iv_2, z_lgl, z_lgg, z_lge, z_lgle, z_lgz, Option.getD_some, Option.isSome_some, ↓reduceIte, not_true_eq_false, not_false_eq_true, Option.toList_some, Option.toList_none, List.cons_append, List.nil_append, Nat.reduceAdd, Nat.add_assoc, ku_ne, ku_same, ne_eq, Nat.reduceEqDiff, reduceCtorEq, Nat.add_eq_left, Nat.left_eq_add, Nat.reduceEqDiff, q10, q_ne, true_or, or_true, show nI 0 = 0 from rfl, h.1, c_howMany h hk, valH]
  | 1, _ => simp only [s85_0, s85_1, s85_1_c0, s85_1_c1, s85_1_c2, s85_1_c3, s85_1_c4, s85_36, s85_37, s85_38, s85_41, s85_42, s85_43, s85_44, s85_45, s85_46, s85_47, s85_50, s85_51, s85_54, s85_55, s85_58, s85_59, s85_60, s85_61, s85_62, s85_63, s85_66, s85_67, s85_70, s85_71, s85_74, s85_75, s85_76, s85_77, s85_80, hf_bd_v, hf_bd_n, hf_iv_i, hf_iv_l, hf_iv_a, hf_iv_n, hf_iv_2, z_lgl, z_lgg, z_lge, z_lgle, z_lgz, Option.getD_some, Option.isSome_some, ↓reduceIte, not_true_eq_false, not_false_eq_true, Option.toList_some, Option.toList_none, List.cons_append, List.nil_append, Nat.reduceAdd, Nat.add_assoc, ku_ne, ku_same, ne_eq, Nat.reduceEqDiff, reduceCtorEq, Nat.add_eq_left, Nat.left_eq_add, Nat.reduceEqDiff, q10, q_ne, true_or, or_true, show nI 1 = 1 from rfl, h.1, c_middleX h hc hc2 hk hq hq2, valH]
  | 2, _ => simp only [s85_0, s85_1, s85_1_c0, s85_1_c1, s85_1_c2, s85_1_c3, s85_1_c4, s85_36, s85_37, s85_38, s85_41, s85_42, s85_43, s85_44, s85_45, s85_46, s85_47, s85_50, s85_51, s85_54, s85_55, s85_58, s85_59, s85_60, s85_61, s85_62, s85_63, s85_66, s85_67, s85_70, s85_71, s85_74, s85_75, s85_76, s85_77, s85_80, hf_bd_v, hf_bd_n, hf_iv_i, hf_iv_l, hf_iv_a, hf_iv_n, hf_iv_2, z_lgl, z_lgg, z_lge, z_lgle, z_lgz, Option.getD_some, Option.isSome_some, ↓reduceIte, not_true_eq_false, not_false_eq_true, Option.toList_some, Option.toList_none, List.cons_append, List.nil_append, Nat.reduceAdd, Nat.add_assoc, ku_ne, ku_same, ne_eq, Nat.reduceEqDiff, reduceCtorEq, Nat.add_eq_left, Nat.left_eq_add, Nat.reduceEqDiff, q10, q_ne, true_or, or_true, show nI 2 = 2 from rfl, show ((2 : Int32) = 1) = False from eq_false (by decide), h.1, c_middleY h hc hc2 hk hq hq2, valH]
  | 3, _ => simp only [s85_0, s85_1, s85_1_c0, s85_1_c1, s85_1_c2, s85_1_c3, s85_1_c4, s85_36, s85_37, s85_38, s85_41, s85_42, s85_43, s85_44, s85_45, s85_46, s85_47, s85_50, s85_51, s85_54, s85_55, s85_58, s85_59, s85_60, s85_61, s85_62, s85_63, s85_66, s85_67, s85_70, s85_71, s85_74, s85_75, s85_76, s85_77, s85_80, hf_bd_v, hf_bd_n, hf_iv_i, hf_iv_l, hf_iv_a, hf_iv_n, hf_iv_2, z_lgl, z_lgg, z_lge, z_lgle, z_lgz, Option.getD_some, Option.isSome_some, ↓reduceIte, not_true_eq_false, not_false_eq_true, Option.toList_some, Option.toList_none, List.cons_append, List.nil_append, Nat.reduceAdd, Nat.add_assoc, ku_ne, ku_same, ne_eq, Nat.reduceEqDiff, reduceCtorEq, Nat.add_eq_left, Nat.left_eq_add, Nat.reduceEqDiff, q10, q_ne, true_or, or_true, show nI 3 = 3 from rfl, h.1, c_speedX h hc hc2 hk, valH]
  | 4, _ => simp only [s85_0, s85_1, s85_1_c0, s85_1_c1, s85_1_c2, s85_1_c3, s85_1_c4, s85_36, s85_37, s85_38, s85_41, s85_42, s85_43, s85_44, s85_45, s85_46, s85_47, s85_50, s85_51, s85_54, s85_55, s85_58, s85_59, s85_60, s85_61, s85_62, s85_63, s85_66, s85_67, s85_70, s85_71, s85_74, s85_75, s85_76, s85_77, s85_80, hf_bd_v, hf_bd_n, hf_iv_i, hf_iv_l, hf_iv_a, hf_iv_n, hf_iv_2, z_lgl, z_lgg, z_lge, z_lgle, z_lgz, Option.getD_some, Option.isSome_some, ↓reduceIte, not_true_eq_false, not_false_eq_true, Option.toList_some, Option.toList_none, List.cons_append, List.nil_append, Nat.reduceAdd, Nat.add_assoc, ku_ne, ku_same, ne_eq, Nat.reduceEqDiff, reduceCtorEq, Nat.add_eq_left, Nat.left_eq_add, Nat.reduceEqDiff, q10, q_ne, true_or, or_true, show nI 4 = 4 from rfl, show ((4 : Int32) = 3) = False from eq_false (by decide), h.1, c_speedY h hc hc2 hk, valH]
  | 5, _ => simp only [s85_0, s85_1, s85_1_c0, s85_1_c1, s85_1_c2, s85_1_c3, s85_1_c4, s85_36, s85_37, s85_38, s85_41, s85_42, s85_43, s85_44, s85_45, s85_46, s85_47, s85_50, s85_51, s85_54, s85_55, s85_58, s85_59, s85_60, s85_61, s85_62, s85_63, s85_66, s85_67, s85_70, s85_71, s85_74, s85_75, s85_76, s85_77, s85_80, hf_bd_v, hf_bd_n, hf_iv_i, hf_iv_l, hf_iv_a, hf_iv_n, hf_iv_2, z_lgl, z_lgg, z_lge, z_lgle, z_lgz, Option.getD_some, Option.isSome_some, ↓reduceIte, not_true_eq_false, not_false_eq_true, Option.toList_some, Option.toList_none, List.cons_append, List.nil_append, Nat.reduceAdd, Nat.add_assoc, ku_ne, ku_same, ne_eq, Nat.reduceEqDiff, reduceCtorEq, Nat.add_eq_left, Nat.left_eq_add, Nat.reduceEqDiff, q10, q_ne, true_or, or_true, show nI 5 = 5 from rfl, show ((5 : Int32).toInt < 0 ∨ 4 < (5 : Int32).toInt) = True from eq_true (by decide), h.1, c_spin h hc hc2 hk hq hq2, valH]
end
