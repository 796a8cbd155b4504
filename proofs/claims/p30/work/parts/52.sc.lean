/-! SCENES: groups -/
section
variable {g : hf_G} {I : hf_I} {J : hf_J} {S c k m n : Nat} {u v w : Int64} {i j : Int32}
theorem c_areLinked (h : Sc g S) (hk : k < 64) (hm : m < 64) : hf_rn 77 0 [some (.ref S), some (.int (nI k)), some (.int (nI m))] [] g I J = some (.inl (some (.int (if nrL (J (S + 3)) (J (S + 5)) (J S 3) k m = true then 1 else 0))), g, I, J) := by
  have hg := sc_gr1 h
  have ha := c_areWithin (I := I) (J := J) (v := J S 3) hg hk hm
  simp only [s77_0, s77_1, s77_4, s77_5, s77_8, s77_9, s77_10, s77_13, hf_bd_v, hf_bd_n, hf_iv_i, hf_iv_l, hf_iv_a, hf_iv_n, hf_iv_2, z_lgl, z_lgg, z_lge, z_lgle, z_lgz, Option.getD_some, Option.isSome_some, ↓reduceIte, not_true_eq_false, not_false_eq_true, Option.toList_some, Option.toList_none, List.cons_append, List.nil_append, Nat.reduceAdd, Nat.add_assoc, ku_ne, ku_same, ne_eq, Nat.reduceEqDiff, reduceCtorEq, Nat.add_eq_left, Nat.left_eq_add, Nat.reduceEqDiff, q10, q_ne, true_or, or_true, sc_k h, sc_r0 h, sc_r1 h, hg.1, ha]
  by_cases hb : nrL (J (S + 3)) (J (S + 5)) (J S 3) k m = true
  · simp only [s77_0, s77_1, s77_4, s77_5, s77_8, s77_9, s77_10, s77_13, hf_bd_v, hf_bd_n, hf_iv_i, hf_iv_l, hf_iv_a, hf_iv_n, hf_iv_2, z_lgl, z_lgg, z_lge, z_lgle, z_lgz, Option.getD_some, Option.isSome_some, ↓reduceIte, not_true_eq_false, not_false_eq_true, Option.toList_some, Option.toList_none, List.cons_append, List.nil_append, Nat.reduceAdd, Nat.add_assoc, ku_ne, ku_same, ne_eq, Nat.reduceEqDiff, reduceCtorEq, Nat.add_eq_left, Nat.left_eq_add, Nat.reduceEqDiff, q10, q_ne, true_or, or_true, hb]
  · simp only [s77_0, s77_1, s77_4, s77_5, s77_8, s77_9, s77_10, s77_13, hf_bd_v, hf_bd_n, hf_iv_i, hf_iv_l, hf_iv_a, hf_iv_n, hf_iv_2, z_lgl, z_lgg, z_lge, z_lgle, z_lgz, Option.getD_some, Option.isSome_some, ↓reduceIte, not_true_eq_false, not_false_eq_true, Option.toList_some, Option.toList_none, List.cons_append, List.nil_append, Nat.reduceAdd, Nat.add_assoc, ku_ne, ku_same, ne_eq, Nat.reduceEqDiff, reduceCtorEq, Nat.add_eq_left, Nat.left_eq_add, Nat.reduceEqDiff, q10, q_ne, true_or, or_true, hb]
theorem c_members (h : Sc g S) (hk : k < 64) : hf_rn 80 0 [some (.ref S), some (.int (nI k))] [] g I J = some (.inl (some (.long (J (S + 11) k))), g, I, J) := by
  simp only [s80_0, s80_1, s80_4, s80_5, s80_8, hf_bd_v, hf_bd_n, hf_iv_i, hf_iv_l, hf_iv_a, hf_iv_n, hf_iv_2, z_lgl, z_lgg, z_lge, z_lgle, z_lgz, Option.getD_some, Option.isSome_some, ↓reduceIte, not_true_eq_false, not_false_eq_true, Option.toList_some, Option.toList_none, List.cons_append, List.nil_append, Nat.reduceAdd, Nat.add_assoc, ku_ne, ku_same, ne_eq, Nat.reduceEqDiff, reduceCtorEq, Nat.add_eq_left, Nat.left_eq_add, Nat.reduceEqDiff, q10, q_ne, true_or, or_true, sc_k h, sc_r0 h, sc_r1 h, (sc_rw10 h).1, c_get (sc_rw10 h) hk]
theorem c_howMany (h : Sc g S) (hk : k < 64) : hf_rn 81 0 [some (.ref S), some (.int (nI k))] [] g I J = some (.inl (some (.int (popI (J (S + 11) k)))), g, I, J) := by
  simp only [s81_0, s81_1, s81_4, s81_5, s81_8, s81_11, hf_bd_v, hf_bd_n, hf_iv_i, hf_iv_l, hf_iv_a, hf_iv_n, hf_iv_2, z_lgl, z_lgg, z_lge, z_lgle, z_lgz, Option.getD_some, Option.isSome_some, ↓reduceIte, not_true_eq_false, not_false_eq_true, Option.toList_some, Option.toList_none, List.cons_append, List.nil_append, Nat.reduceAdd, Nat.add_assoc, ku_ne, ku_same, ne_eq, Nat.reduceEqDiff, reduceCtorEq, Nat.add_eq_left, Nat.left_eq_add, Nat.reduceEqDiff, q10, q_ne, true_or, or_true, sc_k h, sc_r0 h, sc_r1 h, (sc_rw10 h).1, c_get (sc_rw10 h) hk, c_pop]
/-- one grain that waits is taken -/
def gst (c : Nat) (X Y : Nat → Int64) (l : Int64) (p : Int64 × Int64) : Int64 × Int64 :=
  if p.2 = 0 then p else match low (btL p.2) 64 0 with
  | some k => (p.1 ||| (orL c (nrL X Y l k) &&& (p.1 ^^^ -1)), (p.2 &&& (bitL k ^^^ -1)) ||| (orL c (nrL X Y l k) &&& (p.1 ^^^ -1)))
  | none => p
def grpL (c : Nat) (X Y : Nat → Int64) (l : Int64) (f : Nat) : Int64 := (it 64 (bitL f, bitL f) fun _ p => gst c X Y l p).1
theorem lgz0 (v : Int64) : (lg_cmp v 0 = 0) = (v = 0) := z_lgz v 0
theorem c_groupOf (h : Sc g S) (hc : I (S + 1) 5 = nI c) (hc2 : c ≤ 64) (hk : k < 64) : hf_rn 78 0 [some (.ref S), some (.int (nI k)), none, none, none, none, none, none, none, none] [] g I J = some (.inl (some (.long (grpL c (J (S + 3)) (J (S + 5)) (J S 3) k))), g, I, J) := by
  have hg := sc_gr1 h
  have loop : ∀ (d t : Nat) (x y : Int64) (l7 l8 l9 : Option Value), t + d = 64 → (x, y) = it t (bitL k, bitL k) (fun _ p => gst c (J (S + 3)) (J (S + 5)) (J S 3) p) → hf_rn 78 11 [some (.ref S), some (.int (nI k)), some (.long x), none, some (.long y), none, some (.int (nI t)), l7, l8, l9] [] g I J = some (.inl (some (.long (grpL c (J (S + 3)) (J (S + 5)) (J S 3) k))), g, I, J) := by
    intro d
    induction d with
    | zero =>
      intro t x y l7 l8 l9 ht hx
      have e : t = 64 := by omega
      subst e
      have h64 : (64 : Int32) ≤ nI 64 := by decide
      have hr : grpL c (J (S + 3)) (J (S + 5)) (J S 3) k = x := by rw [grpL, ← hx]
      simp only [s78_0, s78_1, s78_4, s78_5, s78_6, s78_8, s78_9, s78_11, s78_13, s78_15, s78_18, s78_20, s78_21, s78_22, s78_25, s78_27, s78_30, s78_32, s78_33, s78_36, s78_37, s78_40, s78_42, s78_45, s78_46, s78_49, s78_50, s78_51, s78_53, s78_54, s78_56, s78_57, s78_58, s78_60, s78_62, s78_65, s78_68, s78_69, s78_70, s78_72, s78_73, s78_75, s78_81, s78_82, hf_bd_v, hf_bd_n, hf_iv_i, hf_iv_l, hf_iv_a, hf_iv_n, hf_iv_2, z_lgl, z_lgg, z_lge, z_lgle, z_lgz, Option.getD_some, Option.isSome_some, ↓reduceIte, not_true_eq_false, not_false_eq_true, Option.toList_some, Option.toList_none, List.cons_append, List.nil_append, Nat.reduceAdd, Nat.add_assoc, ku_ne, ku_same, ne_eq, Nat.reduceEqDiff, reduceCtorEq, Nat.add_eq_left, Nat.left_eq_add, Nat.reduceEqDiff, q10, q_ne, true_or, or_true, h64, hr]
    | succ d ih =>
      intro t x y l7 l8 l9 ht hx
      have h64 : ((64 : Int32) ≤ nI t) = (64 ≤ t) := z_ii (a := 64) (by decide) (by omega)
      have hk1 : ¬ 64 ≤ t := by omega
      by_cases hy : y = 0
      · have hr : grpL c (J (S + 3)) (J (S + 5)) (J S 3) k = x := by
          rw [grpL, show 64 = t + (d + 1) by omega, it_fix (by intro k; rw [← hx, gst, if_pos hy]), ← hx]
        simp only [s78_0, s78_1, s78_4, s78_5, s78_6, s78_8, s78_9, s78_11, s78_13, s78_15, s78_18, s78_20, s78_21, s78_22, s78_25, s78_27, s78_30, s78_32, s78_33, s78_36, s78_37, s78_40, s78_42, s78_45, s78_46, s78_49, s78_50, s78_51, s78_53, s78_54, s78_56, s78_57, s78_58, s78_60, s78_62, s78_65, s78_68, s78_69, s78_70, s78_72, s78_73, s78_75, s78_81, s78_82, hf_bd_v, hf_bd_n, hf_iv_i, hf_iv_l, hf_iv_a, hf_iv_n, hf_iv_2, z_lgl, z_lgg, z_lge, z_lgle, z_lgz, Option.getD_some, Option.isSome_some, ↓reduceIte, not_true_eq_false, not_false_eq_true, Option.toList_some, Option.toList_none, List.cons_append, List.nil_append, Nat.reduceAdd, Nat.add_assoc, ku_ne, ku_same, ne_eq, Nat.reduceEqDiff, reduceCtorEq, Nat.add_eq_left, Nat.left_eq_add, Nat.reduceEqDiff, q10, q_ne, true_or, or_true, h64, hk1, hy, hr]
      · obtain ⟨q, hq, hq2⟩ := low_ne hy
        have hl : lowI (btL y) = nI q := by rw [lowI, hq]
        have hw := c_within (I := I) (J := J) (v := J S 3) hg hc hc2 hq2
        simp only [s78_11, s78_13, s78_15, s78_18, s78_20, s78_21, s78_22, s78_25, s78_27, s78_30, s78_32, s78_33, s78_36, s78_37, s78_40, s78_42, s78_45, s78_46, s78_49, s78_50, s78_51, s78_53, s78_54, s78_56, s78_57, s78_58, s78_60, s78_62, s78_65, s78_68, s78_69, s78_70, s78_72, s78_73, s78_75, hf_bd_v, hf_bd_n, hf_iv_i, hf_iv_l, hf_iv_a, hf_iv_n, hf_iv_2, z_lgl, z_lgg, z_lge, z_lgle, z_lgz, Option.getD_some, Option.isSome_some, ↓reduceIte, not_true_eq_false, not_false_eq_true, Option.toList_some, Option.toList_none, List.cons_append, List.nil_append, Nat.reduceAdd, Nat.add_assoc, ku_ne, ku_same, ne_eq, Nat.reduceEqDiff, reduceCtorEq, Nat.add_eq_left, Nat.left_eq_add, Nat.reduceEqDiff, q10, q_ne, true_or, or_true, h64, hk1, hy, sc_k h, sc_r0 h, sc_r1 h, hg.1, c_lowest, hl, hw, c_bit hq2, z_1]
        rw [s78_78]
        exact ih (t + 1) _ _ _ _ _ (by omega) (by rw [it_s, ← hx, gst, if_neg hy]; simp only [hq])
  simp only [s78_0, s78_1, s78_4, s78_5, s78_6, s78_8, s78_9, hf_bd_v, hf_bd_n, hf_iv_i, hf_iv_l, hf_iv_a, hf_iv_n, hf_iv_2, z_lgl, z_lgg, z_lge, z_lgle, z_lgz, Option.getD_some, Option.isSome_some, ↓reduceIte, not_true_eq_false, not_false_eq_true, Option.toList_some, Option.toList_none, List.cons_append, List.nil_append, Nat.reduceAdd, Nat.add_assoc, ku_ne, ku_same, ne_eq, Nat.reduceEqDiff, reduceCtorEq, Nat.add_eq_left, Nat.left_eq_add, Nat.reduceEqDiff, q10, q_ne, true_or, or_true, c_bit hk]
  exact loop 64 0 _ _ _ _ _ rfl rfl
end
