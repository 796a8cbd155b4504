/-! UNBINDING -/
section
variable {g : hf_G} {I : hf_I} {J : hf_J} {G c k m n q : Nat} {u v w gg mb : Int64} {i j : Int32} {F : Nat → Int64}
def hdL (gg : Int64) (X Y : Nat → Int64) (a b : Nat) : Int64 := by0 (64 * gg) (1 + farL X Y a b)
theorem c_hold (h : Gr g G) (hk : k < 64) (hm : m < 64) : hf_rn 100 0 [some (.ref G), some (.int (nI k)), some (.int (nI m)), some (.long gg), none] [] g I J = some (.inl (some (.long (hdL gg (J (G + 2)) (J (G + 4)) k m))), g, I, J) := by
  simp only [s100_0, s100_3, s100_4, s100_5, s100_6, s100_7, s100_8, s100_9, s100_12, s100_13, s100_16, hf_bd_v, hf_bd_n, hf_iv_i, hf_iv_l, hf_iv_a, hf_iv_n, hf_iv_2, z_lgl, z_lgg, z_lge, z_lgle, z_lgz, Option.getD_some, Option.isSome_some, ↓reduceIte, not_true_eq_false, not_false_eq_true, Option.toList_some, Option.toList_none, List.cons_append, List.nil_append, Nat.reduceAdd, Nat.add_assoc, ku_ne, ku_same, ne_eq, Nat.reduceEqDiff, reduceCtorEq, Nat.add_eq_left, Nat.left_eq_add, Nat.reduceEqDiff, q10, q_ne, true_or, or_true, h.1, c_farBetween h hk hm, c_by, hdL]
def adH (F : Nat → Int64) (a b : Nat) (v : Int64) : Nat → Int64 := up (up F a (F a + v)) b (F b + v)
def suN (c : Nat) (D : Nat → Nat → Int64) (mb : Int64) (lo : Nat) (F : Nat → Int64) (t : Nat) : Nat → Int64 := it t F fun t F => if (btL mb lo && btL mb (lo + (1 + t))) = true then adH F lo (lo + (1 + t)) (D lo (lo + (1 + t))) else F
def suA (c : Nat) (D : Nat → Nat → Int64) (mb : Int64) (F : Nat → Int64) (t : Nat) : Nat → Int64 := it t F fun lo F => suN c D mb lo F (c - (lo + 1))
theorem suN_s {D : Nat → Nat → Int64} {lo t : Nat} : suN c D mb lo F (t + 1) = if (btL mb lo && btL mb (lo + (1 + t))) = true then adH (suN c D mb lo F t) lo (lo + (1 + t)) (D lo (lo + (1 + t))) else suN c D mb lo F t := rfl
theorem c_sumHolds (hp : Un g) (h : Gr g G) (hG : G + 8 < 254) (hc : I G 5 = nI c) (hc2 : c ≤ 64) : hf_rn 101 0 [some (.ref 254), some (.ref G), some (.long mb), none, some (.long gg), none, none, none, none, none] [] g I J = some (.inl none, g, I, hf_w J 256 (suA c (hdL gg (J (G + 2)) (J (G + 4))) mb (zeR J 256 64) c)) := by
  have hH : ∀ (M : Nat → Int64) a b, a < 64 → b < 64 → hf_rn 100 0 [some (.ref G), some (.int (nI a)), some (.int (nI b)), some (.long gg), none] [] g I (hf_w J 256 M) = some (.inl (some (.long (hdL gg (J (G + 2)) (J (G + 4)) a b))), g, I, hf_w J 256 M) := by
    intro M a b ha hb
    rw [c_hold h ha hb, kw_ne (show G + 2 ≠ 256 by omega), kw_ne (show G + 4 ≠ 256 by omega)]
  generalize hdL gg (J (G + 2)) (J (G + 4)) = D at *
  have inner : ∀ (lo : Nat) (F0 : Nat → Int64) (R : Option hf_R), lo < c → (∀ l7 l8 l9, hf_rn 101 11 [some (.ref 254), some (.ref G), some (.long mb), none, some (.long gg), none, some (.int (nI (lo + 1))), l7, l8, l9] [] g I (hf_w J 256 (suN c D mb lo F0 (c - (lo + 1)))) = R) →
      ∀ (d t : Nat) (l8 l9 : Option Value), lo + 1 + t + d = c → hf_rn 101 26 [some (.ref 254), some (.ref G), some (.long mb), none, some (.long gg), none, some (.int (nI lo)), some (.int (nI (lo + (1 + t)))), l8, l9] [] g I (hf_w J 256 (suN c D mb lo F0 t)) = R := by
    intro lo F0 R hlo hR d
    induction d with
    | zero =>
      intro t l8 l9 ht
      have e : t = c - (lo + 1) := by omega
      have e2 : lo + (1 + t) = c := by omega
      rw [e2]
      simp only [s101_26, s101_28, s101_29, s101_32, s101_35, s101_36, s101_38, s101_41, s101_44, s101_45, s101_47, s101_50, s101_53, s101_54, s101_56, s101_58, s101_60, s101_63, s101_65, s101_66, s101_69, s101_71, s101_73, s101_76, s101_77, s101_80, s101_82, s101_84, s101_87, s101_90, s101_93, hf_bd_v, hf_bd_n, hf_iv_i, hf_iv_l, hf_iv_a, hf_iv_n, hf_iv_2, z_lgl, z_lgg, z_lge, z_lgle, z_lgz, Option.getD_some, Option.isSome_some, ↓reduceIte, not_true_eq_false, not_false_eq_true, Option.toList_some, Option.toList_none, List.cons_append, List.nil_append, Nat.reduceAdd, Nat.add_assoc, ku_ne, ku_same, ne_eq, Nat.reduceEqDiff, reduceCtorEq, Nat.add_eq_left, Nat.left_eq_add, Nat.reduceEqDiff, q10, q_ne, true_or, or_true, gr_k h, gr_r0 h, gr_r1 h, gr_r2 h, gr_r3 h, hc, z_ii (show c < 2147483648 by omega) (show c < 2147483648 by omega), Nat.le_refl, z_1]
      rw [s101_96, e]
      exact hR _ _ _
    | succ d ih =>
      intro t l8 l9 ht
      have hk1 : ¬ c ≤ lo + (1 + t) := by omega
      have hz := z_ii (show c < 2147483648 by omega) (show lo + (1 + t) < 2147483648 by omega)
      have hlo64 : lo < 64 := by omega
      have hhi64 : lo + (1 + t) < 64 := by omega
      have hf := hH (suN c D mb lo F0 t) lo (lo + (1 + t)) hlo64 hhi64
      have n1 : lo + (1 + t) ≠ lo := by omega
      have this := fun a b => ih (t + 1) a b (by omega)
      cases h1 : btL mb lo
      · simp only [s101_26, s101_28, s101_29, s101_32, s101_35, s101_36, s101_38, s101_41, s101_44, s101_45, s101_47, s101_50, s101_53, s101_54, s101_56, s101_58, s101_60, s101_63, s101_65, s101_66, s101_69, s101_71, s101_73, s101_76, s101_77, s101_80, s101_82, s101_84, s101_87, hf_bd_v, hf_bd_n, hf_iv_i, hf_iv_l, hf_iv_a, hf_iv_n, hf_iv_2, z_lgl, z_lgg, z_lge, z_lgle, z_lgz, Option.getD_some, Option.isSome_some, ↓reduceIte, not_true_eq_false, not_false_eq_true, Option.toList_some, Option.toList_none, List.cons_append, List.nil_append, Nat.reduceAdd, Nat.add_assoc, ku_ne, ku_same, ne_eq, Nat.reduceEqDiff, reduceCtorEq, Nat.add_eq_left, Nat.left_eq_add, Nat.reduceEqDiff, q10, q_ne, true_or, or_true, gr_k h, gr_r0 h, gr_r1 h, gr_r2 h, gr_r3 h, hc, hz, hk1, z_1, c_has hlo64, h1, Bool.false_eq_true]
        rw [s101_90]
        rw [suN_s, h1] at this
        exact this _ _
      · cases h2 : btL mb (lo + (1 + t))
        · simp only [s101_26, s101_28, s101_29, s101_32, s101_35, s101_36, s101_38, s101_41, s101_44, s101_45, s101_47, s101_50, s101_53, s101_54, s101_56, s101_58, s101_60, s101_63, s101_65, s101_66, s101_69, s101_71, s101_73, s101_76, s101_77, s101_80, s101_82, s101_84, s101_87, hf_bd_v, hf_bd_n, hf_iv_i, hf_iv_l, hf_iv_a, hf_iv_n, hf_iv_2, z_lgl, z_lgg, z_lge, z_lgle, z_lgz, Option.getD_some, Option.isSome_some, ↓reduceIte, not_true_eq_false, not_false_eq_true, Option.toList_some, Option.toList_none, List.cons_append, List.nil_append, Nat.reduceAdd, Nat.add_assoc, ku_ne, ku_same, ne_eq, Nat.reduceEqDiff, reduceCtorEq, Nat.add_eq_left, Nat.left_eq_add, Nat.reduceEqDiff, q10, q_ne, true_or, or_true, gr_k h, gr_r0 h, gr_r1 h, gr_r2 h, gr_r3 h, hc, hz, hk1, z_1, c_has hlo64, c_has hhi64, h1, h2, Bool.false_eq_true]
          rw [s101_90]
          rw [suN_s, h1, h2] at this
          exact this _ _
        · have e3 : ∀ M v, hf_u (hf_w J 256 M) 256 lo v 256 (lo + (1 + t)) = M (lo + (1 + t)) := by intro M v; rw [kuw, kw_row, up_n n1]
          simp only [s101_26, s101_28, s101_29, s101_32, s101_35, s101_36, s101_38, s101_41, s101_44, s101_45, s101_47, s101_50, s101_53, s101_54, s101_56, s101_58, s101_60, s101_63, s101_65, s101_66, s101_69, s101_71, s101_73, s101_76, s101_77, s101_80, s101_82, s101_84, s101_87, hf_bd_v, hf_bd_n, hf_iv_i, hf_iv_l, hf_iv_a, hf_iv_n, hf_iv_2, z_lgl, z_lgg, z_lge, z_lgle, z_lgz, Option.getD_some, Option.isSome_some, ↓reduceIte, not_true_eq_false, not_false_eq_true, Option.toList_some, Option.toList_none, List.cons_append, List.nil_append, Nat.reduceAdd, Nat.add_assoc, ku_ne, ku_same, ne_eq, Nat.reduceEqDiff, reduceCtorEq, Nat.add_eq_left, Nat.left_eq_add, Nat.reduceEqDiff, q10, q_ne, true_or, or_true, gr_k h, gr_r0 h, gr_r1 h, gr_r2 h, gr_r3 h, un_k hp, un_r0 hp, hc, hz, hk1, z_1, c_has hlo64, c_has hhi64, h1, h2, hf, (un_rw255 hp).1, c_add (un_rw255 hp) hlo64, c_add (un_rw255 hp) hhi64, kw_row, kuw, up_n, n1]
          rw [s101_90]
          rw [suN_s, h1, h2] at this
          exact this _ _
  have loop : ∀ (d lo : Nat) (l7 l8 l9 : Option Value), lo + d = c → hf_rn 101 11 [some (.ref 254), some (.ref G), some (.long mb), none, some (.long gg), none, some (.int (nI lo)), l7, l8, l9] [] g I (hf_w J 256 (suA c D mb (zeR J 256 64) lo)) = some (.inl none, g, I, hf_w J 256 (suA c D mb (zeR J 256 64) c)) := by
    intro d
    induction d with
    | zero =>
      intro lo l7 l8 l9 hk
      have e : lo = c := by omega
      subst e
      simp only [s101_11, s101_13, s101_14, s101_17, s101_20, s101_22, s101_23, s101_24, s101_99, hf_bd_v, hf_bd_n, hf_iv_i, hf_iv_l, hf_iv_a, hf_iv_n, hf_iv_2, z_lgl, z_lgg, z_lge, z_lgle, z_lgz, Option.getD_some, Option.isSome_some, ↓reduceIte, not_true_eq_false, not_false_eq_true, Option.toList_some, Option.toList_none, List.cons_append, List.nil_append, Nat.reduceAdd, Nat.add_assoc, ku_ne, ku_same, ne_eq, Nat.reduceEqDiff, reduceCtorEq, Nat.add_eq_left, Nat.left_eq_add, Nat.reduceEqDiff, q10, q_ne, true_or, or_true, gr_k h, gr_r0 h, gr_r1 h, gr_r2 h, gr_r3 h, hc, z_ii (show lo < 2147483648 by omega) (show lo < 2147483648 by omega), Nat.le_refl]
    | succ d ih =>
      intro lo l7 l8 l9 hk
      have hk1 : ¬ c ≤ lo := by omega
      simp only [s101_11, s101_13, s101_14, s101_17, s101_20, s101_22, s101_23, s101_24, hf_bd_v, hf_bd_n, hf_iv_i, hf_iv_l, hf_iv_a, hf_iv_n, hf_iv_2, z_lgl, z_lgg, z_lge, z_lgle, z_lgz, Option.getD_some, Option.isSome_some, ↓reduceIte, not_true_eq_false, not_false_eq_true, Option.toList_some, Option.toList_none, List.cons_append, List.nil_append, Nat.reduceAdd, Nat.add_assoc, ku_ne, ku_same, ne_eq, Nat.reduceEqDiff, reduceCtorEq, Nat.add_eq_left, Nat.left_eq_add, Nat.reduceEqDiff, q10, q_ne, true_or, or_true, gr_k h, gr_r0 h, gr_r1 h, gr_r2 h, gr_r3 h, hc, z_ii (show c < 2147483648 by omega) (show lo < 2147483648 by omega), hk1, z_1]
      exact inner lo (suA c D mb (zeR J 256 64) lo) _ (by omega) (fun l7 l8 l9 => ih (lo + 1) l7 l8 l9 (by omega)) (c - (lo + 1)) 0 _ _ (by omega)
  have e : rwm J 256 64 (fun _ => 0) = hf_w J 256 (suA c D mb (zeR J 256 64) 0) := by rw [rwm_w]; rfl
  simp only [s101_0, s101_1, s101_4, s101_5, s101_8, s101_9, hf_bd_v, hf_bd_n, hf_iv_i, hf_iv_l, hf_iv_a, hf_iv_n, hf_iv_2, z_lgl, z_lgg, z_lge, z_lgle, z_lgz, Option.getD_some, Option.isSome_some, ↓reduceIte, not_true_eq_false, not_false_eq_true, Option.toList_some, Option.toList_none, List.cons_append, List.nil_append, Nat.reduceAdd, Nat.add_assoc, ku_ne, ku_same, ne_eq, Nat.reduceEqDiff, reduceCtorEq, Nat.add_eq_left, Nat.left_eq_add, Nat.reduceEqDiff, q10, q_ne, true_or, or_true, un_k hp, un_r0 hp, (un_rw255 hp).1, c_fil (un_rw255 hp), e]
  exact loop c 0 _ _ _ (by omega)
def tkF (D : Nat → Nat → Int64) (b : Int64) (m : Nat) (F : Nat → Int64) (t : Nat) : Nat → Int64 := it t F fun k F => if btL b k = true then up F k (F k + -D k m) else F
theorem tkF_s {D : Nat → Nat → Int64} {b : Int64} {m t : Nat} : tkF D b m F (t + 1) = if btL b t = true then up (tkF D b m F t) t (tkF D b m F t t + -D t m) else tkF D b m F t := rfl
theorem c_takeHolds (hp : Un g) (h : Gr g G) (hG : G + 8 < 254) (hc : I G 5 = nI c) (hc2 : c ≤ 64) (hm : m < 64) : hf_rn 102 0 [some (.ref 254), some (.ref G), some (.long mb), none, some (.int (nI m)), some (.long gg), none, none] [] g I (hf_w J 256 F) = some (.inl none, g, I, hf_w J 256 (tkF (hdL gg (J (G + 2)) (J (G + 4))) mb m F c)) := by
  have hH : ∀ (M : Nat → Int64) a b, a < 64 → b < 64 → hf_rn 100 0 [some (.ref G), some (.int (nI a)), some (.int (nI b)), some (.long gg), none] [] g I (hf_w J 256 M) = some (.inl (some (.long (hdL gg (J (G + 2)) (J (G + 4)) a b))), g, I, hf_w J 256 M) := by
    intro M a b ha hb
    rw [c_hold h ha hb, kw_ne (show G + 2 ≠ 256 by omega), kw_ne (show G + 4 ≠ 256 by omega)]
  generalize hdL gg (J (G + 2)) (J (G + 4)) = D at *
  have loop : ∀ (d t : Nat), t + d = c → hf_rn 102 3 [some (.ref 254), some (.ref G), some (.long mb), none, some (.int (nI m)), some (.long gg), none, some (.int (nI t))] [] g I (hf_w J 256 (tkF D mb m F t)) = some (.inl none, g, I, hf_w J 256 (tkF D mb m F c)) := by
    intro d
    induction d with
    | zero =>
      intro t ht
      have e : t = c := by omega
      subst e
      simp only [s102_0, s102_1, s102_3, s102_5, s102_6, s102_9, s102_12, s102_13, s102_15, s102_18, s102_21, s102_22, s102_25, s102_27, s102_28, s102_30, s102_32, s102_34, s102_37, s102_38, s102_41, s102_47, hf_bd_v, hf_bd_n, hf_iv_i, hf_iv_l, hf_iv_a, hf_iv_n, hf_iv_2, z_lgl, z_lgg, z_lge, z_lgle, z_lgz, Option.getD_some, Option.isSome_some, ↓reduceIte, not_true_eq_false, not_false_eq_true, Option.toList_some, Option.toList_none, List.cons_append, List.nil_append, Nat.reduceAdd, Nat.add_assoc, ku_ne, ku_same, ne_eq, Nat.reduceEqDiff, reduceCtorEq, Nat.add_eq_left, Nat.left_eq_add, Nat.reduceEqDiff, q10, q_ne, true_or, or_true, gr_k h, gr_r0 h, gr_r1 h, gr_r2 h, gr_r3 h, hc, z_ii (show t < 2147483648 by omega) (show t < 2147483648 by omega), Nat.le_refl]
    | succ d ih =>
      intro t ht
      have hk1 : ¬ c ≤ t := by omega
      have ht64 : t < 64 := by omega
      have hf := hH (tkF D mb m F t) t m ht64 hm
      have this := ih (t + 1) (by omega)
      cases h1 : btL mb t
      · simp only [s102_3, s102_5, s102_6, s102_9, s102_12, s102_13, s102_15, s102_18, s102_21, s102_22, s102_25, s102_27, s102_28, s102_30, s102_32, s102_34, s102_37, s102_38, s102_41, hf_bd_v, hf_bd_n, hf_iv_i, hf_iv_l, hf_iv_a, hf_iv_n, hf_iv_2, z_lgl, z_lgg, z_lge, z_lgle, z_lgz, Option.getD_some, Option.isSome_some, ↓reduceIte, not_true_eq_false, not_false_eq_true, Option.toList_some, Option.toList_none, List.cons_append, List.nil_append, Nat.reduceAdd, Nat.add_assoc, ku_ne, ku_same, ne_eq, Nat.reduceEqDiff, reduceCtorEq, Nat.add_eq_left, Nat.left_eq_add, Nat.reduceEqDiff, q10, q_ne, true_or, or_true, gr_k h, gr_r0 h, gr_r1 h, gr_r2 h, gr_r3 h, hc, z_ii (show c < 2147483648 by omega) (show t < 2147483648 by omega), hk1, z_1, c_has ht64, h1, Bool.false_eq_true]
        rw [s102_44]
        rw [tkF_s, h1] at this
        exact this
      · simp only [s102_3, s102_5, s102_6, s102_9, s102_12, s102_13, s102_15, s102_18, s102_21, s102_22, s102_25, s102_27, s102_28, s102_30, s102_32, s102_34, s102_37, s102_38, s102_41, hf_bd_v, hf_bd_n, hf_iv_i, hf_iv_l, hf_iv_a, hf_iv_n, hf_iv_2, z_lgl, z_lgg, z_lge, z_lgle, z_lgz, Option.getD_some, Option.isSome_some, ↓reduceIte, not_true_eq_false, not_false_eq_true, Option.toList_some, Option.toList_none, List.cons_append, List.nil_append, Nat.reduceAdd, Nat.add_assoc, ku_ne, ku_same, ne_eq, Nat.reduceEqDiff, reduceCtorEq, Nat.add_eq_left, Nat.left_eq_add, Nat.reduceEqDiff, q10, q_ne, true_or, or_true, gr_k h, gr_r0 h, gr_r1 h, gr_r2 h, gr_r3 h, un_k hp, un_r0 hp, hc, z_ii (show c < 2147483648 by omega) (show t < 2147483648 by omega), hk1, z_1, c_has ht64, h1, hf, (un_rw255 hp).1, c_add (un_rw255 hp) ht64, kw_row, kuw]
        rw [s102_44]
        rw [tkF_s, h1] at this
        exact this
  simp only [s102_0, s102_1, hf_bd_v, hf_bd_n, hf_iv_i, hf_iv_l, hf_iv_a, hf_iv_n, hf_iv_2, z_lgl, z_lgg, z_lge, z_lgle, z_lgz, Option.getD_some, Option.isSome_some, ↓reduceIte, not_true_eq_false, not_false_eq_true, Option.toList_some, Option.toList_none, List.cons_append, List.nil_append, Nat.reduceAdd, Nat.add_assoc, ku_ne, ku_same, ne_eq, Nat.reduceEqDiff, reduceCtorEq, Nat.add_eq_left, Nat.left_eq_add, Nat.reduceEqDiff, q10, q_ne, true_or, or_true]
  exact loop c 0 (by omega)
/-- how loose a grain is -/
def abL (U W F : Nat → Int64) (x y : Int64) (k : Nat) : Int64 := (U k - x) * (U k - x) + (W k - y) * (W k - y) - 2 * F k
def lsF (U W F : Nat → Int64) (b x y : Int64) (t : Nat) : Int32 × Int64 := it t (-1, 0) fun k p => if (btL b k && decide (p.2 < abL U W F x y k)) = true then (nI k, abL U W F x y k) else p
theorem lsF_s {U W : Nat → Int64} {b x y : Int64} {t : Nat} : lsF U W F b x y (t + 1) = if (btL b t && decide ((lsF U W F b x y t).2 < abL U W F x y t)) = true then (nI t, abL U W F x y t) else lsF U W F b x y t := rfl
theorem c_loosest (hp : Un g) (h : Gr g G) (hc : I G 5 = nI c) (hc2 : c ≤ 64) : hf_rn 103 0 [some (.ref 254), some (.ref G), some (.long mb), none, none, none, none, none, none, none, none, none, none, none, none, none, none, none] [] g I J = some (.inl (some (.int (lsF (J (G + 6)) (J (G + 8)) (J 256) mb (by1 (smP c (btL mb) (J (G + 6))) (popI mb).toInt64) (by1 (smP c (btL mb) (J (G + 8))) (popI mb).toInt64) c).1)), g, I, J) := by
  have hX := c_commonX (I := I) (J := J) (v := mb) h hc hc2
  have hY := c_commonY (I := I) (J := J) (v := mb) h hc hc2
  generalize by1 (smP c (btL mb) (J (G + 6))) (popI mb).toInt64 = x at *
  generalize by1 (smP c (btL mb) (J (G + 8))) (popI mb).toInt64 = y at *
  have loop : ∀ (d t : Nat) (a : Int32) (b : Int64) (l12 l13 l14 l15 l16 l17 : Option Value), t + d = c → (a, b) = lsF (J (G + 6)) (J (G + 8)) (J 256) mb x y t → hf_rn 103 25 [some (.ref 254), some (.ref G), some (.long mb), none, some (.long x), none, some (.long y), none, some (.int a), some (.long b), none, some (.int (nI t)), l12, l13, l14, l15, l16, l17] [] g I J = some (.inl (some (.int (lsF (J (G + 6)) (J (G + 8)) (J 256) mb x y c).1)), g, I, J) := by
    intro d
    induction d with
    | zero =>
      intro t a b l12 l13 l14 l15 l16 l17 ht hx
      have e : t = c := by omega
      subst e
      rw [← hx]
      simp only [s103_0, s103_1, s103_2, s103_3, s103_6, s103_8, s103_9, s103_10, s103_11, s103_14, s103_16, s103_17, s103_19, s103_20, s103_22, s103_23, s103_25, s103_27, s103_28, s103_31, s103_34, s103_35, s103_37, s103_40, s103_43, s103_44, s103_47, s103_49, s103_52, s103_54, s103_55, s103_57, s103_58, s103_61, s103_63, s103_66, s103_68, s103_69, s103_71, s103_73, s103_75, s103_76, s103_78, s103_80, s103_81, s103_82, s103_85, s103_86, s103_89, s103_91, s103_94, s103_95, s103_96, s103_98, s103_100, s103_102, s103_103, s103_106, s103_108, s103_110, s103_112, s103_114, s103_120, s103_122, hf_bd_v, hf_bd_n, hf_iv_i, hf_iv_l, hf_iv_a, hf_iv_n, hf_iv_2, z_lgl, z_lgg, z_lge, z_lgle, z_lgz, Option.getD_some, Option.isSome_some, ↓reduceIte, not_true_eq_false, not_false_eq_true, Option.toList_some, Option.toList_none, List.cons_append, List.nil_append, Nat.reduceAdd, Nat.add_assoc, ku_ne, ku_same, ne_eq, Nat.reduceEqDiff, reduceCtorEq, Nat.add_eq_left, Nat.left_eq_add, Nat.reduceEqDiff, q10, q_ne, true_or, or_true, gr_k h, gr_r0 h, gr_r1 h, gr_r2 h, gr_r3 h, hc, z_ii (show t < 2147483648 by omega) (show t < 2147483648 by omega), Nat.le_refl]
    | succ d ih =>
      intro t a b l12 l13 l14 l15 l16 l17 ht hx
      have hk1 : ¬ c ≤ t := by omega
      have ht64 : t < 64 := by omega
      have hs : lsF (J (G + 6)) (J (G + 8)) (J 256) mb x y (t + 1) = if (btL mb t && decide (b < abL (J (G + 6)) (J (G + 8)) (J 256) x y t)) = true then (nI t, abL (J (G + 6)) (J (G + 8)) (J 256) x y t) else (a, b) := by rw [lsF_s, ← hx]
      cases h1 : btL mb t
      · simp only [s103_25, s103_27, s103_28, s103_31, s103_34, s103_35, s103_37, s103_40, s103_43, s103_44, s103_47, s103_49, s103_52, s103_54, s103_55, s103_57, s103_58, s103_61, s103_63, s103_66, s103_68, s103_69, s103_71, s103_73, s103_75, s103_76, s103_78, s103_80, s103_81, s103_82, s103_85, s103_86, s103_89, s103_91, s103_94, s103_95, s103_96, s103_98, s103_100, s103_102, s103_103, s103_106, s103_108, s103_110, s103_112, s103_114, hf_bd_v, hf_bd_n, hf_iv_i, hf_iv_l, hf_iv_a, hf_iv_n, hf_iv_2, z_lgl, z_lgg, z_lge, z_lgle, z_lgz, Option.getD_some, Option.isSome_some, ↓reduceIte, not_true_eq_false, not_false_eq_true, Option.toList_some, Option.toList_none, List.cons_append, List.nil_append, Nat.reduceAdd, Nat.add_assoc, ku_ne, ku_same, ne_eq, Nat.reduceEqDiff, reduceCtorEq, Nat.add_eq_left, Nat.left_eq_add, Nat.reduceEqDiff, q10, q_ne, true_or, or_true, gr_k h, gr_r0 h, gr_r1 h, gr_r2 h, gr_r3 h, hc, z_ii (show c < 2147483648 by omega) (show t < 2147483648 by omega), hk1, z_1, c_has ht64, h1, Bool.false_eq_true]
        rw [s103_117]
        exact ih (t + 1) _ _ _ _ _ _ _ _ (by omega) (by rw [hs, h1]; rfl)
      · by_cases h2 : b < abL (J (G + 6)) (J (G + 8)) (J 256) x y t
        · have h3 : ¬ abL (J (G + 6)) (J (G + 8)) (J 256) x y t ≤ b := by rw [Int64.le_iff_toInt_le]; rw [Int64.lt_iff_toInt_lt] at h2; omega
          have hs2 : lsF (J (G + 6)) (J (G + 8)) (J 256) mb x y (t + 1) = (nI t, abL (J (G + 6)) (J (G + 8)) (J 256) x y t) := by rw [hs, h1]; simp [h2]
          unfold abL at h3
          simp only [s103_25, s103_27, s103_28, s103_31, s103_34, s103_35, s103_37, s103_40, s103_43, s103_44, s103_47, s103_49, s103_52, s103_54, s103_55, s103_57, s103_58, s103_61, s103_63, s103_66, s103_68, s103_69, s103_71, s103_73, s103_75, s103_76, s103_78, s103_80, s103_81, s103_82, s103_85, s103_86, s103_89, s103_91, s103_94, s103_95, s103_96, s103_98, s103_100, s103_102, s103_103, s103_106, s103_108, s103_110, s103_112, s103_114, hf_bd_v, hf_bd_n, hf_iv_i, hf_iv_l, hf_iv_a, hf_iv_n, hf_iv_2, z_lgl, z_lgg, z_lge, z_lgle, z_lgz, Option.getD_some, Option.isSome_some, ↓reduceIte, not_true_eq_false, not_false_eq_true, Option.toList_some, Option.toList_none, List.cons_append, List.nil_append, Nat.reduceAdd, Nat.add_assoc, ku_ne, ku_same, ne_eq, Nat.reduceEqDiff, reduceCtorEq, Nat.add_eq_left, Nat.left_eq_add, Nat.reduceEqDiff, q10, q_ne, true_or, or_true, gr_k h, gr_r0 h, gr_r1 h, gr_r2 h, gr_r3 h, un_k hp, un_r0 hp, hc, z_ii (show c < 2147483648 by omega) (show t < 2147483648 by omega), hk1, z_1, c_has ht64, h1, (gr_rw5 h).1, (gr_rw7 h).1, c_get (gr_rw5 h) ht64, c_get (gr_rw7 h) ht64, (un_rw255 hp).1, c_get (un_rw255 hp) ht64, h3]
          rw [s103_117]
          exact ih (t + 1) _ _ _ _ _ _ _ _ (by omega) (by rw [hs2]; rfl)
        · have h3 : abL (J (G + 6)) (J (G + 8)) (J 256) x y t ≤ b := by rw [Int64.le_iff_toInt_le]; rw [Int64.lt_iff_toInt_lt] at h2; omega
          have hs2 : lsF (J (G + 6)) (J (G + 8)) (J 256) mb x y (t + 1) = (a, b) := by rw [hs, h1]; simp [h2]
          unfold abL at h3
          simp only [s103_25, s103_27, s103_28, s103_31, s103_34, s103_35, s103_37, s103_40, s103_43, s103_44, s103_47, s103_49, s103_52, s103_54, s103_55, s103_57, s103_58, s103_61, s103_63, s103_66, s103_68, s103_69, s103_71, s103_73, s103_75, s103_76, s103_78, s103_80, s103_81, s103_82, s103_85, s103_86, s103_89, s103_91, s103_94, s103_95, s103_96, s103_98, s103_100, s103_102, s103_103, s103_106, s103_108, s103_110, s103_112, s103_114, hf_bd_v, hf_bd_n, hf_iv_i, hf_iv_l, hf_iv_a, hf_iv_n, hf_iv_2, z_lgl, z_lgg, z_lge, z_lgle, z_lgz, Option.getD_some, Option.isSome_some, ↓reduceIte, not_true_eq_false, not_false_eq_true, Option.toList_some, Option.toList_none, List.cons_append, List.nil_append, Nat.reduceAdd, Nat.add_assoc, ku_ne, ku_same, ne_eq, Nat.reduceEqDiff, reduceCtorEq, Nat.add_eq_left, Nat.left_eq_add, Nat.reduceEqDiff, q10, q_ne, true_or, or_true, gr_k h, gr_r0 h, gr_r1 h, gr_r2 h, gr_r3 h, un_k hp, un_r0 hp, hc, z_ii (show c < 2147483648 by omega) (show t < 2147483648 by omega), hk1, z_1, c_has ht64, h1, (gr_rw5 h).1, (gr_rw7 h).1, c_get (gr_rw5 h) ht64, c_get (gr_rw7 h) ht64, (un_rw255 hp).1, c_get (un_rw255 hp) ht64, h3]
          rw [s103_117]
          exact ih (t + 1) _ _ _ _ _ _ _ _ (by omega) (by rw [hs2])
  simp only [s103_0, s103_1, s103_2, s103_3, s103_6, s103_8, s103_9, s103_10, s103_11, s103_14, s103_16, s103_17, s103_19, s103_20, s103_22, s103_23, hf_bd_v, hf_bd_n, hf_iv_i, hf_iv_l, hf_iv_a, hf_iv_n, hf_iv_2, z_lgl, z_lgg, z_lge, z_lgle, z_lgz, Option.getD_some, Option.isSome_some, ↓reduceIte, not_true_eq_false, not_false_eq_true, Option.toList_some, Option.toList_none, List.cons_append, List.nil_append, Nat.reduceAdd, Nat.add_assoc, ku_ne, ku_same, ne_eq, Nat.reduceEqDiff, reduceCtorEq, Nat.add_eq_left, Nat.left_eq_add, Nat.reduceEqDiff, q10, q_ne, true_or, or_true, h.1, hX, hY]
  exact loop c 0 _ _ _ _ _ _ _ _ (by omega) rfl
/-- the loosest grain -/
def lsK (c : Nat) (U W F : Nat → Int64) (b : Int64) : Int32 := (lsF U W F b (by1 (smP c (btL b) U) (popI b).toInt64) (by1 (smP c (btL b) W) (popI b).toInt64) c).1
theorem lsF_k {U W : Nat → Int64} {b x y : Int64} : ∀ t, (lsF U W F b x y t).1 = -1 ∨ ∃ k, k < t ∧ (lsF U W F b x y t).1 = nI k := by
  intro t
  induction t with
  | zero => exact Or.inl rfl
  | succ t ih =>
    rw [lsF_s]
    split
    · exact Or.inr ⟨t, by omega, rfl⟩
    · rcases ih with h | ⟨k, h1, h2⟩
      · exact Or.inl h
      · exact Or.inr ⟨k, by omega, h2⟩
/-- one round of leaving out -/
def bdS (c : Nat) (D : Nat → Nat → Int64) (U W : Nat → Int64) (p : Int64 × (Nat → Int64)) : Int64 × (Nat → Int64) :=
  if lsK c U W p.2 p.1 = -1 then p else (p.1 &&& (bitL (lsK c U W p.2 p.1).toNatClampNeg ^^^ -1), tkF D (p.1 &&& (bitL (lsK c U W p.2 p.1).toNatClampNeg ^^^ -1)) (lsK c U W p.2 p.1).toNatClampNeg p.2 c)
def bdF (c : Nat) (D : Nat → Nat → Int64) (U W : Nat → Int64) (mb : Int64) (F : Nat → Int64) (t : Nat) : Int64 × (Nat → Int64) := it t (mb, F) fun _ p => bdS c D U W p
theorem c_bound (hp : Un g) (h : Gr g G) (hG : G + 8 < 254) (hc : I G 5 = nI c) (hc2 : c ≤ 64) : hf_rn 99 0 [some (.ref 254), some (.ref G), some (.long mb), none, some (.long gg), none, none, none, none, none] [] g I J = some (.inl (some (.long (bdF c (hdL gg (J (G + 2)) (J (G + 4))) (J (G + 6)) (J (G + 8)) mb (suA c (hdL gg (J (G + 2)) (J (G + 4))) mb (zeR J 256 64) c) 64).1)), g, I, hf_w J 256 (bdF c (hdL gg (J (G + 2)) (J (G + 4))) (J (G + 6)) (J (G + 8)) mb (suA c (hdL gg (J (G + 2)) (J (G + 4))) mb (zeR J 256 64) c) 64).2) := by
  have n2 : G + 2 ≠ 256 := by omega
  have n4 : G + 4 ≠ 256 := by omega
  have n6 : G + 6 ≠ 256 := by omega
  have n8 : G + 8 ≠ 256 := by omega
  have hsu := c_sumHolds (mb := mb) (gg := gg) (J := J) hp h hG hc hc2
  generalize suA c (hdL gg (J (G + 2)) (J (G + 4))) mb (zeR J 256 64) c = F0 at *
  have hlo : ∀ (M : Nat → Int64) (b : Int64), hf_rn 103 0 [some (.ref 254), some (.ref G), some (.long b), none, none, none, none, none, none, none, none, none, none, none, none, none, none, none] [] g I (hf_w J 256 M) = some (.inl (some (.int (lsK c (J (G + 6)) (J (G + 8)) M b))), g, I, hf_w J 256 M) := by
    intro M b
    rw [c_loosest hp h hc hc2, kw_ne n6, kw_ne n8, kw_row]
    rfl
  have htk : ∀ (M : Nat → Int64) (b : Int64) (m : Nat), m < 64 → hf_rn 102 0 [some (.ref 254), some (.ref G), some (.long b), none, some (.int (nI m)), some (.long gg), none, none] [] g I (hf_w J 256 M) = some (.inl none, g, I, hf_w J 256 (tkF (hdL gg (J (G + 2)) (J (G + 4))) b m M c)) := fun M b m hm => c_takeHolds hp h hG hc hc2 hm
  generalize hdL gg (J (G + 2)) (J (G + 4)) = D at *
  have loop : ∀ (d t : Nat) (x : Int64) (F : Nat → Int64) (l9 : Option Value), t + d = 64 → (x, F) = bdF c D (J (G + 6)) (J (G + 8)) mb F0 t → hf_rn 99 14 [some (.ref 254), some (.ref G), some (.long mb), none, some (.long gg), none, some (.long x), none, some (.int (nI t)), l9] [] g I (hf_w J 256 F) = some (.inl (some (.long (bdF c D (J (G + 6)) (J (G + 8)) mb F0 64).1)), g, I, hf_w J 256 (bdF c D (J (G + 6)) (J (G + 8)) mb F0 64).2) := by
    intro d
    induction d with
    | zero =>
      intro t x F l9 ht hx
      have e : t = 64 := by omega
      subst e
      have h64 : (64 : Int32) ≤ nI 64 := by decide
      rw [← hx]
      simp only [s99_0, s99_1, s99_2, s99_3, s99_5, s99_8, s99_9, s99_11, s99_12, s99_14, s99_16, s99_18, s99_21, s99_22, s99_23, s99_25, s99_28, s99_30, s99_32, s99_33, s99_36, s99_39, s99_41, s99_43, s99_46, s99_49, s99_50, s99_51, s99_53, s99_54, s99_55, s99_57, s99_59, s99_61, s99_64, s99_70, s99_72, hf_bd_v, hf_bd_n, hf_iv_i, hf_iv_l, hf_iv_a, hf_iv_n, hf_iv_2, z_lgl, z_lgg, z_lge, z_lgle, z_lgz, Option.getD_some, Option.isSome_some, ↓reduceIte, not_true_eq_false, not_false_eq_true, Option.toList_some, Option.toList_none, List.cons_append, List.nil_append, Nat.reduceAdd, Nat.add_assoc, ku_ne, ku_same, ne_eq, Nat.reduceEqDiff, reduceCtorEq, Nat.add_eq_left, Nat.left_eq_add, Nat.reduceEqDiff, q10, q_ne, true_or, or_true, h64]
    | succ d ih =>
      intro t x F l9 ht hx
      have h64 : ((64 : Int32) ≤ nI t) = (64 ≤ t) := z_ii (a := 64) (by decide) (by omega)
      have hk1 : ¬ 64 ≤ t := by omega
      by_cases hl : lsK c (J (G + 6)) (J (G + 8)) F x = -1
      · have hfix : bdF c D (J (G + 6)) (J (G + 8)) mb F0 64 = (x, F) := by
          rw [bdF, show 64 = t + (d + 1) by omega, it_fix (by intro k; rw [← bdF, ← hx, bdS, if_pos hl]), ← bdF, hx]
        rw [hfix]
        simp only [s99_0, s99_1, s99_2, s99_3, s99_5, s99_8, s99_9, s99_11, s99_12, s99_14, s99_16, s99_18, s99_21, s99_22, s99_23, s99_25, s99_28, s99_30, s99_32, s99_33, s99_36, s99_39, s99_41, s99_43, s99_46, s99_49, s99_50, s99_51, s99_53, s99_54, s99_55, s99_57, s99_59, s99_61, s99_64, s99_70, s99_72, hf_bd_v, hf_bd_n, hf_iv_i, hf_iv_l, hf_iv_a, hf_iv_n, hf_iv_2, z_lgl, z_lgg, z_lge, z_lgle, z_lgz, Option.getD_some, Option.isSome_some, ↓reduceIte, not_true_eq_false, not_false_eq_true, Option.toList_some, Option.toList_none, List.cons_append, List.nil_append, Nat.reduceAdd, Nat.add_assoc, ku_ne, ku_same, ne_eq, Nat.reduceEqDiff, reduceCtorEq, Nat.add_eq_left, Nat.left_eq_add, Nat.reduceEqDiff, q10, q_ne, true_or, or_true, h64, hk1, hp.1, hlo, hl]
      · obtain ⟨q, hq, hq2⟩ : ∃ k, k < c ∧ lsK c (J (G + 6)) (J (G + 8)) F x = nI k := (lsF_k c).resolve_left hl
        have hq64 : q < 64 := by omega
        have hq3 : ¬ nI q = -1 := by rw [← hq2]; exact hl
        have hcl : (lsK c (J (G + 6)) (J (G + 8)) F x).toNatClampNeg = q := by rw [hq2, nI_clamp (by omega)]
        simp only [s99_14, s99_16, s99_18, s99_21, s99_22, s99_23, s99_25, s99_28, s99_30, s99_32, s99_33, s99_36, s99_39, s99_41, s99_43, s99_46, s99_49, s99_50, s99_51, s99_53, s99_54, s99_55, s99_57, s99_59, s99_61, s99_64, hf_bd_v, hf_bd_n, hf_iv_i, hf_iv_l, hf_iv_a, hf_iv_n, hf_iv_2, z_lgl, z_lgg, z_lge, z_lgle, z_lgz, Option.getD_some, Option.isSome_some, ↓reduceIte, not_true_eq_false, not_false_eq_true, Option.toList_some, Option.toList_none, List.cons_append, List.nil_append, Nat.reduceAdd, Nat.add_assoc, ku_ne, ku_same, ne_eq, Nat.reduceEqDiff, reduceCtorEq, Nat.add_eq_left, Nat.left_eq_add, Nat.reduceEqDiff, q10, q_ne, true_or, or_true, h64, hk1, z_1, hp.1, hlo, hq2, hq3, c_bit hq64, htk _ _ q hq64]
        rw [s99_67]
        exact ih (t + 1) _ _ _ (by omega) (by rw [bdF, it_s, ← bdF, ← hx, bdS, if_neg hl, hcl])
  simp only [s99_0, s99_1, s99_2, s99_3, s99_5, s99_8, s99_9, s99_11, s99_12, hf_bd_v, hf_bd_n, hf_iv_i, hf_iv_l, hf_iv_a, hf_iv_n, hf_iv_2, z_lgl, z_lgg, z_lge, z_lgle, z_lgz, Option.getD_some, Option.isSome_some, ↓reduceIte, not_true_eq_false, not_false_eq_true, Option.toList_some, Option.toList_none, List.cons_append, List.nil_append, Nat.reduceAdd, Nat.add_assoc, ku_ne, ku_same, ne_eq, Nat.reduceEqDiff, reduceCtorEq, Nat.add_eq_left, Nat.left_eq_add, Nat.reduceEqDiff, q10, q_ne, true_or, or_true, hp.1, hsu]
  exact loop 64 0 mb F0 _ rfl rfl
end
