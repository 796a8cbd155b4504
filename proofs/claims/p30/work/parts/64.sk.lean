/-! SKY: parts, spectra -/
section
variable {g : hf_G} {I : hf_I} {J : hf_J} {G c k m n : Nat} {u v w : Int64} {i j : Int32}
def aL (x : Int64) : Int64 := if 0 ≤ x then x else -x
theorem c_absA : hf_rn 148 0 [some (.long v), none] [] g I J = some (.inl (some (.long (aL v))), g, I, J) := c_abs
def ptL (x y : Int64) : Int32 :=
  if aL x < aL y then (if x * y < 0 then (if y < 0 then 4 else 0) + 2 else if x = 0 then (if y = 0 then (if y < 0 then 4 else 0) else (if y < 0 then 4 else 0) + 2) else (if y < 0 then 4 else 0)) + 1
  else if x * y < 0 then (if y < 0 then 4 else 0) + 2 else if x = 0 then (if y = 0 then (if y < 0 then 4 else 0) else (if y < 0 then 4 else 0) + 2) else (if y < 0 then 4 else 0)
theorem L_nle {a b : Int64} (h : a < b) : ¬ b ≤ a := by rw [Int64.le_iff_toInt_le]; rw [Int64.lt_iff_toInt_lt] at h; omega
theorem L_le {a b : Int64} (h : ¬ a < b) : b ≤ a := by rw [Int64.le_iff_toInt_le]; rw [Int64.lt_iff_toInt_lt] at h; omega
theorem c_partOf : hf_rn 93 0 [some (.long v), none, some (.long w), none, none] [] g I J = some (.inl (some (.int (ptL v w))), g, I, J) := by
  have e1 : (0 ≤ w) = ¬ w < 0 := by apply propext; exact ⟨fun h c => L_nle c h, L_le⟩
  have e2 : (0 ≤ v * w) = ¬ v * w < 0 := by apply propext; exact ⟨fun h c => L_nle c h, L_le⟩
  have e3 : (aL w ≤ aL v) = ¬ aL v < aL w := by apply propext; exact ⟨fun h c => L_nle c h, L_le⟩
  simp only [s93_0, s93_1, s93_2, s93_3, s93_6, s93_7, s93_10, s93_11, s93_13, s93_14, s93_15, s93_16, s93_17, s93_18, s93_21, s93_22, s93_23, s93_24, s93_27, s93_28, s93_29, s93_30, s93_33, s93_36, s93_37, s93_40, s93_41, s93_44, s93_45, s93_48, s93_50, s93_51, s93_52, s93_55, s93_57, hf_bd_v, hf_bd_n, hf_iv_i, hf_iv_l, hf_iv_a, hf_iv_n, hf_iv_2, z_lgl, z_lgg, z_lge, z_lgle, z_lgz, Option.getD_some, Option.isSome_some, ↓reduceIte, not_true_eq_false, not_false_eq_true, Option.toList_some, Option.toList_none, List.cons_append, List.nil_append, Nat.reduceAdd, Nat.add_assoc, ku_ne, ku_same, ne_eq, Nat.reduceEqDiff, reduceCtorEq, Nat.add_eq_left, Nat.left_eq_add, Nat.reduceEqDiff, q10, q_ne, true_or, or_true, c_absA, e1, e2, e3, ptL, ite_not]
  by_cases h3 : v = 0 <;> by_cases h4 : w = 0 <;> by_cases h1 : w < 0 <;> by_cases h2 : v * w < 0 <;> by_cases h5 : aL v < aL w <;>
    first
    | (simp only [h1, h2, h5, if_true, if_false, not_true_eq_false, not_false_eq_true]; done)
    | (simp only [h1, h2, h5, if_true, if_false, not_true_eq_false, not_false_eq_true, if_pos h3, if_pos h4]; done)
    | (simp only [h1, h2, h5, if_true, if_false, not_true_eq_false, not_false_eq_true, if_pos h3, if_neg h4]; done)
    | (simp only [h1, h2, h5, if_true, if_false, not_true_eq_false, not_false_eq_true, if_neg h3, if_pos h4]; done)
    | (simp only [h1, h2, h5, if_true, if_false, not_true_eq_false, not_false_eq_true, if_neg h3, if_neg h4]; done)
/-- one that has a spectrum is too near -/
def nearS (S P D : Nat → Int64) (f : Int64) (m p : Nat) : Bool := decide (S p = 1 ∧ P p = P m ∧ aL (D p - D m) < f)
def exB (p : Nat → Bool) : Nat → Nat → Bool
  | 0, _ => false
  | d + 1, t => p t || exB p d (t + 1)
theorem c_isFree (h : Sk g) (hn : I 257 6 = nI n) (hn2 : n ≤ 768) (hm : m < 768) : hf_rn 97 0 [some (.ref 257), some (.int (nI m)), none] [] g I J = some (.inl (some (.int (if exB (nearS (J 269) (J 265) (J 261) (J 257 11) m) n 0 = true then 0 else 1))), g, I, J) := by
  have loop : ∀ (d t : Nat), t + d = n → hf_rn 97 2 [some (.ref 257), some (.int (nI m)), some (.int (nI t))] [] g I J = some (.inl (some (.int (if exB (nearS (J 269) (J 265) (J 261) (J 257 11) m) d t = true then 0 else 1))), g, I, J) := by
    intro d
    induction d with
    | zero =>
      intro t ht
      have e : t = n := by omega
      subst e
      simp only [s97_0, s97_1, s97_2, s97_3, s97_4, s97_7, s97_10, s97_11, s97_14, s97_15, s97_18, s97_19, s97_20, s97_23, s97_24, s97_27, s97_28, s97_31, s97_32, s97_35, s97_36, s97_39, s97_40, s97_43, s97_44, s97_47, s97_48, s97_51, s97_52, s97_55, s97_56, s97_59, s97_60, s97_63, s97_64, s97_67, s97_68, s97_71, s97_72, s97_73, s97_79, s97_80, hf_bd_v, hf_bd_n, hf_iv_i, hf_iv_l, hf_iv_a, hf_iv_n, hf_iv_2, z_lgl, z_lgg, z_lge, z_lgle, z_lgz, Option.getD_some, Option.isSome_some, ↓reduceIte, not_true_eq_false, not_false_eq_true, Option.toList_some, Option.toList_none, List.cons_append, List.nil_append, Nat.reduceAdd, Nat.add_assoc, ku_ne, ku_same, ne_eq, Nat.reduceEqDiff, reduceCtorEq, Nat.add_eq_left, Nat.left_eq_add, Nat.reduceEqDiff, q10, q_ne, true_or, or_true, sk_k h, sk_r0 h, sk_r1 h, sk_r2 h, sk_r3 h, sk_r4 h, sk_r5 h, hn, z_ii (show t < 2147483648 by omega) (show t < 2147483648 by omega), Nat.le_refl, exB, Bool.false_eq_true]
    | succ d ih =>
      intro t ht
      have hk1 : ¬ n ≤ t := by omega
      have ht7 : t < 768 := by omega
      have ih2 := ih (t + 1) (by omega)
      have hf : ∀ (hh : nearS (J 269) (J 265) (J 261) (J 257 11) m t = false), exB (nearS (J 269) (J 265) (J 261) (J 257 11) m) (d + 1) t = exB (nearS (J 269) (J 265) (J 261) (J 257 11) m) d (t + 1) := by intro hh; rw [exB, hh]; rfl
      by_cases c1 : J 269 t = 1
      · by_cases c2 : J 265 t = J 265 m
        · by_cases c3 : aL (J 261 t - J 261 m) < J 257 11
          · have c4 := L_nle c3
            have hh : nearS (J 269) (J 265) (J 261) (J 257 11) m t = true := decide_eq_true ⟨c1, c2, c3⟩
            simp only [s97_0, s97_1, s97_2, s97_3, s97_4, s97_7, s97_10, s97_11, s97_14, s97_15, s97_18, s97_19, s97_20, s97_23, s97_24, s97_27, s97_28, s97_31, s97_32, s97_35, s97_36, s97_39, s97_40, s97_43, s97_44, s97_47, s97_48, s97_51, s97_52, s97_55, s97_56, s97_59, s97_60, s97_63, s97_64, s97_67, s97_68, s97_71, s97_72, s97_73, s97_79, s97_80, hf_bd_v, hf_bd_n, hf_iv_i, hf_iv_l, hf_iv_a, hf_iv_n, hf_iv_2, z_lgl, z_lgg, z_lge, z_lgle, z_lgz, Option.getD_some, Option.isSome_some, ↓reduceIte, not_true_eq_false, not_false_eq_true, Option.toList_some, Option.toList_none, List.cons_append, List.nil_append, Nat.reduceAdd, Nat.add_assoc, ku_ne, ku_same, ne_eq, Nat.reduceEqDiff, reduceCtorEq, Nat.add_eq_left, Nat.left_eq_add, Nat.reduceEqDiff, q10, q_ne, true_or, or_true, sk_k h, sk_r0 h, sk_r1 h, sk_r2 h, sk_r3 h, sk_r4 h, sk_r5 h, hn, z_ii (show n < 2147483648 by omega) (show t < 2147483648 by omega), hk1, (sk_rw260 h).1, (sk_rw264 h).1, (sk_rw268 h).1, c_get (sk_rw260 h) ht7, c_get (sk_rw264 h) ht7, c_get (sk_rw268 h) ht7, c_get (sk_rw260 h) hm, c_get (sk_rw264 h) hm, c1, c2, c4, c_absA, exB, hh, Bool.true_or]
          · have c4 := L_le c3
            have hh : nearS (J 269) (J 265) (J 261) (J 257 11) m t = false := decide_eq_false (fun c => c3 c.2.2)
            simp only [s97_2, s97_3, s97_4, s97_7, s97_10, s97_11, s97_14, s97_15, s97_18, s97_19, s97_20, s97_23, s97_24, s97_27, s97_28, s97_31, s97_32, s97_35, s97_36, s97_39, s97_40, s97_43, s97_44, s97_47, s97_48, s97_51, s97_52, s97_55, s97_56, s97_59, s97_60, s97_63, s97_64, s97_67, s97_68, s97_71, s97_72, s97_73, hf_bd_v, hf_bd_n, hf_iv_i, hf_iv_l, hf_iv_a, hf_iv_n, hf_iv_2, z_lgl, z_lgg, z_lge, z_lgle, z_lgz, Option.getD_some, Option.isSome_some, ↓reduceIte, not_true_eq_false, not_false_eq_true, Option.toList_some, Option.toList_none, List.cons_append, List.nil_append, Nat.reduceAdd, Nat.add_assoc, ku_ne, ku_same, ne_eq, Nat.reduceEqDiff, reduceCtorEq, Nat.add_eq_left, Nat.left_eq_add, Nat.reduceEqDiff, q10, q_ne, true_or, or_true, sk_k h, sk_r0 h, sk_r1 h, sk_r2 h, sk_r3 h, sk_r4 h, sk_r5 h, hn, z_ii (show n < 2147483648 by omega) (show t < 2147483648 by omega), hk1, (sk_rw260 h).1, (sk_rw264 h).1, (sk_rw268 h).1, c_get (sk_rw260 h) ht7, c_get (sk_rw264 h) ht7, c_get (sk_rw268 h) ht7, c_get (sk_rw260 h) hm, c_get (sk_rw264 h) hm, c1, c2, c4, c_absA, z_1]
            rw [s97_76, hf hh]
            exact ih2
        · have hh : nearS (J 269) (J 265) (J 261) (J 257 11) m t = false := decide_eq_false (fun c => c2 c.2.1)
          simp only [s97_2, s97_3, s97_4, s97_7, s97_10, s97_11, s97_14, s97_15, s97_18, s97_19, s97_20, s97_23, s97_24, s97_27, s97_28, s97_31, s97_32, s97_35, s97_36, s97_39, s97_40, s97_43, s97_44, s97_47, s97_48, s97_51, s97_52, s97_55, s97_56, s97_59, s97_60, s97_63, s97_64, s97_67, s97_68, s97_71, s97_72, s97_73, hf_bd_v, hf_bd_n, hf_iv_i, hf_iv_l, hf_iv_a, hf_iv_n, hf_iv_2, z_lgl, z_lgg, z_lge, z_lgle, z_lgz, Option.getD_some, Option.isSome_some, ↓reduceIte, not_true_eq_false, not_false_eq_true, Option.toList_some, Option.toList_none, List.cons_append, List.nil_append, Nat.reduceAdd, Nat.add_assoc, ku_ne, ku_same, ne_eq, Nat.reduceEqDiff, reduceCtorEq, Nat.add_eq_left, Nat.left_eq_add, Nat.reduceEqDiff, q10, q_ne, true_or, or_true, sk_k h, sk_r0 h, sk_r1 h, sk_r2 h, sk_r3 h, sk_r4 h, sk_r5 h, hn, z_ii (show n < 2147483648 by omega) (show t < 2147483648 by omega), hk1, (sk_rw260 h).1, (sk_rw264 h).1, (sk_rw268 h).1, c_get (sk_rw264 h) ht7, c_get (sk_rw268 h) ht7, c_get (sk_rw264 h) hm, c1, c2, z_1]
          rw [s97_76, hf hh]
          exact ih2
      · have hh : nearS (J 269) (J 265) (J 261) (J 257 11) m t = false := decide_eq_false (fun c => c1 c.1)
        simp only [s97_2, s97_3, s97_4, s97_7, s97_10, s97_11, s97_14, s97_15, s97_18, s97_19, s97_20, s97_23, s97_24, s97_27, s97_28, s97_31, s97_32, s97_35, s97_36, s97_39, s97_40, s97_43, s97_44, s97_47, s97_48, s97_51, s97_52, s97_55, s97_56, s97_59, s97_60, s97_63, s97_64, s97_67, s97_68, s97_71, s97_72, s97_73, hf_bd_v, hf_bd_n, hf_iv_i, hf_iv_l, hf_iv_a, hf_iv_n, hf_iv_2, z_lgl, z_lgg, z_lge, z_lgle, z_lgz, Option.getD_some, Option.isSome_some, ↓reduceIte, not_true_eq_false, not_false_eq_true, Option.toList_some, Option.toList_none, List.cons_append, List.nil_append, Nat.reduceAdd, Nat.add_assoc, ku_ne, ku_same, ne_eq, Nat.reduceEqDiff, reduceCtorEq, Nat.add_eq_left, Nat.left_eq_add, Nat.reduceEqDiff, q10, q_ne, true_or, or_true, sk_k h, sk_r0 h, sk_r1 h, sk_r2 h, sk_r3 h, sk_r4 h, sk_r5 h, hn, z_ii (show n < 2147483648 by omega) (show t < 2147483648 by omega), hk1, (sk_rw268 h).1, c_get (sk_rw268 h) ht7, c1, z_1]
        rw [s97_76, hf hh]
        exact ih2
  simp only [s97_0, s97_1, hf_bd_v, hf_bd_n, hf_iv_i, hf_iv_l, hf_iv_a, hf_iv_n, hf_iv_2, z_lgl, z_lgg, z_lge, z_lgle, z_lgz, Option.getD_some, Option.isSome_some, ↓reduceIte, not_true_eq_false, not_false_eq_true, Option.toList_some, Option.toList_none, List.cons_append, List.nil_append, Nat.reduceAdd, Nat.add_assoc, ku_ne, ku_same, ne_eq, Nat.reduceEqDiff, reduceCtorEq, Nat.add_eq_left, Nat.left_eq_add, Nat.reduceEqDiff, q10, q_ne, true_or, or_true]
  exact loop n 0 (by omega)
def brF (S T : Nat → Int64) (t : Nat) : Int32 × Int64 := it t (-1, 0) fun k p => if S k = 2 ∧ p.2 < T k then (nI k, T k) else p
theorem c_brightest (h : Sk g) (hn : I 257 6 = nI n) (hn2 : n ≤ 768) : hf_rn 96 0 [some (.ref 257), none, none, none, none] [] g I J = some (.inl (some (.int (brF (J 269) (J 267) n).1)), g, I, J) := by
  have loop : ∀ (d t : Nat) (x : Int32) (y : Int64), t + d = n → (x, y) = brF (J 269) (J 267) t → hf_rn 96 7 [some (.ref 257), some (.int x), some (.long y), none, some (.int (nI t))] [] g I J = some (.inl (some (.int (brF (J 269) (J 267) n).1)), g, I, J) := by
    intro d
    induction d with
    | zero =>
      intro t x y ht hx
      have e : t = n := by omega
      subst e
      rw [← hx]
      simp only [s96_0, s96_1, s96_2, s96_3, s96_4, s96_5, s96_7, s96_9, s96_10, s96_13, s96_16, s96_17, s96_20, s96_22, s96_25, s96_28, s96_29, s96_32, s96_33, s96_36, s96_38, s96_41, s96_42, s96_43, s96_46, s96_47, s96_50, s96_52, s96_55, s96_56, s96_58, s96_59, s96_65, s96_66, hf_bd_v, hf_bd_n, hf_iv_i, hf_iv_l, hf_iv_a, hf_iv_n, hf_iv_2, z_lgl, z_lgg, z_lge, z_lgle, z_lgz, Option.getD_some, Option.isSome_some, ↓reduceIte, not_true_eq_false, not_false_eq_true, Option.toList_some, Option.toList_none, List.cons_append, List.nil_append, Nat.reduceAdd, Nat.add_assoc, ku_ne, ku_same, ne_eq, Nat.reduceEqDiff, reduceCtorEq, Nat.add_eq_left, Nat.left_eq_add, Nat.reduceEqDiff, q10, q_ne, true_or, or_true, sk_k h, sk_r0 h, sk_r1 h, sk_r2 h, sk_r3 h, sk_r4 h, sk_r5 h, hn, z_ii (show t < 2147483648 by omega) (show t < 2147483648 by omega), Nat.le_refl]
    | succ d ih =>
      intro t x y ht hx
      have hk1 : ¬ n ≤ t := by omega
      have ht7 : t < 768 := by omega
      have hs : brF (J 269) (J 267) (t + 1) = if J 269 t = 2 ∧ y < J 267 t then (nI t, J 267 t) else (x, y) := by rw [brF, it_s, ← brF, ← hx]
      by_cases c1 : J 269 t = 2
      · by_cases c2 : y < J 267 t
        · have c4 := L_nle c2
          simp only [s96_7, s96_9, s96_10, s96_13, s96_16, s96_17, s96_20, s96_22, s96_25, s96_28, s96_29, s96_32, s96_33, s96_36, s96_38, s96_41, s96_42, s96_43, s96_46, s96_47, s96_50, s96_52, s96_55, s96_56, s96_58, s96_59, hf_bd_v, hf_bd_n, hf_iv_i, hf_iv_l, hf_iv_a, hf_iv_n, hf_iv_2, z_lgl, z_lgg, z_lge, z_lgle, z_lgz, Option.getD_some, Option.isSome_some, ↓reduceIte, not_true_eq_false, not_false_eq_true, Option.toList_some, Option.toList_none, List.cons_append, List.nil_append, Nat.reduceAdd, Nat.add_assoc, ku_ne, ku_same, ne_eq, Nat.reduceEqDiff, reduceCtorEq, Nat.add_eq_left, Nat.left_eq_add, Nat.reduceEqDiff, q10, q_ne, true_or, or_true, sk_k h, sk_r0 h, sk_r1 h, sk_r2 h, sk_r3 h, sk_r4 h, sk_r5 h, hn, z_ii (show n < 2147483648 by omega) (show t < 2147483648 by omega), hk1, (sk_rw266 h).1, (sk_rw268 h).1, c_get (sk_rw266 h) ht7, c_get (sk_rw268 h) ht7, c1, c4, z_1]
          rw [s96_62]
          exact ih (t + 1) _ _ (by omega) (by rw [hs, if_pos ⟨c1, c2⟩])
        · have c4 := L_le c2
          simp only [s96_7, s96_9, s96_10, s96_13, s96_16, s96_17, s96_20, s96_22, s96_25, s96_28, s96_29, s96_32, s96_33, s96_36, s96_38, s96_41, s96_42, s96_43, s96_46, s96_47, s96_50, s96_52, s96_55, s96_56, s96_58, s96_59, hf_bd_v, hf_bd_n, hf_iv_i, hf_iv_l, hf_iv_a, hf_iv_n, hf_iv_2, z_lgl, z_lgg, z_lge, z_lgle, z_lgz, Option.getD_some, Option.isSome_some, ↓reduceIte, not_true_eq_false, not_false_eq_true, Option.toList_some, Option.toList_none, List.cons_append, List.nil_append, Nat.reduceAdd, Nat.add_assoc, ku_ne, ku_same, ne_eq, Nat.reduceEqDiff, reduceCtorEq, Nat.add_eq_left, Nat.left_eq_add, Nat.reduceEqDiff, q10, q_ne, true_or, or_true, sk_k h, sk_r0 h, sk_r1 h, sk_r2 h, sk_r3 h, sk_r4 h, sk_r5 h, hn, z_ii (show n < 2147483648 by omega) (show t < 2147483648 by omega), hk1, (sk_rw266 h).1, (sk_rw268 h).1, c_get (sk_rw266 h) ht7, c_get (sk_rw268 h) ht7, c1, c4, z_1]
          rw [s96_62]
          exact ih (t + 1) _ _ (by omega) (by rw [hs, if_neg (fun c => c2 c.2)])
      · simp only [s96_7, s96_9, s96_10, s96_13, s96_16, s96_17, s96_20, s96_22, s96_25, s96_28, s96_29, s96_32, s96_33, s96_36, s96_38, s96_41, s96_42, s96_43, s96_46, s96_47, s96_50, s96_52, s96_55, s96_56, s96_58, s96_59, hf_bd_v, hf_bd_n, hf_iv_i, hf_iv_l, hf_iv_a, hf_iv_n, hf_iv_2, z_lgl, z_lgg, z_lge, z_lgle, z_lgz, Option.getD_some, Option.isSome_some, ↓reduceIte, not_true_eq_false, not_false_eq_true, Option.toList_some, Option.toList_none, List.cons_append, List.nil_append, Nat.reduceAdd, Nat.add_assoc, ku_ne, ku_same, ne_eq, Nat.reduceEqDiff, reduceCtorEq, Nat.add_eq_left, Nat.left_eq_add, Nat.reduceEqDiff, q10, q_ne, true_or, or_true, sk_k h, sk_r0 h, sk_r1 h, sk_r2 h, sk_r3 h, sk_r4 h, sk_r5 h, hn, z_ii (show n < 2147483648 by omega) (show t < 2147483648 by omega), hk1, (sk_rw268 h).1, c_get (sk_rw268 h) ht7, c1, z_1]
        rw [s96_62]
        exact ih (t + 1) _ _ (by omega) (by rw [hs, if_neg (fun c => c1 c.1)])
  simp only [s96_0, s96_1, s96_2, s96_3, s96_4, s96_5, hf_bd_v, hf_bd_n, hf_iv_i, hf_iv_l, hf_iv_a, hf_iv_n, hf_iv_2, z_lgl, z_lgg, z_lge, z_lgle, z_lgz, Option.getD_some, Option.isSome_some, ↓reduceIte, not_true_eq_false, not_false_eq_true, Option.toList_some, Option.toList_none, List.cons_append, List.nil_append, Nat.reduceAdd, Nat.add_assoc, ku_ne, ku_same, ne_eq, Nat.reduceEqDiff, reduceCtorEq, Nat.add_eq_left, Nat.left_eq_add, Nat.reduceEqDiff, q10, q_ne, true_or, or_true]
  exact loop n 0 _ _ (by omega) rfl
theorem c_observer {a b d : Int32} (h : Sk g) : hf_rn 89 0 [some (.ref 257), some (.int a), some (.int b), some (.int d)] [] g I J = some (.inl none, g, I, hf_u (hf_u (hf_u J 257 7 a.toInt64) 257 8 b.toInt64) 257 9 d.toInt64) := by
  simp only [s89_0, s89_1, s89_2, s89_3, s89_6, s89_7, s89_8, s89_9, s89_12, s89_13, s89_14, s89_15, s89_18, hf_bd_v, hf_bd_n, hf_iv_i, hf_iv_l, hf_iv_a, hf_iv_n, hf_iv_2, z_lgl, z_lgg, z_lge, z_lgle, z_lgz, Option.getD_some, Option.isSome_some, ↓reduceIte, not_true_eq_false, not_false_eq_true, Option.toList_some, Option.toList_none, List.cons_append, List.nil_append, Nat.reduceAdd, Nat.add_assoc, ku_ne, ku_same, ne_eq, Nat.reduceEqDiff, reduceCtorEq, Nat.add_eq_left, Nat.left_eq_add, Nat.reduceEqDiff, q10, q_ne, true_or, or_true, sk_k h, sk_r0 h, sk_r1 h, sk_r2 h, sk_r3 h, sk_r4 h, sk_r5 h]
theorem c_survey {a b : Int32} (h : Sk g) : hf_rn 90 0 [some (.ref 257), some (.int a), some (.int b)] [] g I J = some (.inl none, g, hf_u I 257 10 a, hf_u J 257 11 b.toInt64) := by
  simp only [s90_0, s90_1, s90_2, s90_5, s90_6, s90_7, s90_8, s90_11, hf_bd_v, hf_bd_n, hf_iv_i, hf_iv_l, hf_iv_a, hf_iv_n, hf_iv_2, z_lgl, z_lgg, z_lge, z_lgle, z_lgz, Option.getD_some, Option.isSome_some, ↓reduceIte, not_true_eq_false, not_false_eq_true, Option.toList_some, Option.toList_none, List.cons_append, List.nil_append, Nat.reduceAdd, Nat.add_assoc, ku_ne, ku_same, ne_eq, Nat.reduceEqDiff, reduceCtorEq, Nat.add_eq_left, Nat.left_eq_add, Nat.reduceEqDiff, q10, q_ne, true_or, or_true, sk_k h, sk_r0 h, sk_r1 h, sk_r2 h, sk_r3 h, sk_r4 h, sk_r5 h]
end
