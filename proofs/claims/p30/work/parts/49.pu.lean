/-! PULLS -/
def up {α : Type} (F : Nat → α) (k : Nat) (v : α) : Nat → α := fun j => if j = k then v else F j
def w2 {α : Type} (J : Nat → Nat → α) (a b : Nat) (F H : Nat → α) : Nat → Nat → α := hf_w (hf_w J a F) b H
def w3 {α : Type} (J : Nat → Nat → α) (a b c : Nat) (F H K : Nat → α) : Nat → Nat → α := hf_w (hf_w (hf_w J a F) b H) c K
section
variable {α : Type} {J : Nat → Nat → α} {a b c x k m : Nat} {v w : α} {F H K : Nat → α}
theorem kuw : hf_u (hf_w J a F) a k v = hf_w J a (up F k v) := by rw [ku_as_w, kw_w, kw_row]; rfl
theorem kuw_n (h : x ≠ a) : hf_u (hf_w J a F) x k v = hf_w (hf_u J x k v) a F := by
  funext y z
  by_cases h1 : y = x
  · subst h1; simp [hf_u, hf_w, h]
  · simp [hf_u, hf_w, h1]
theorem w2_a (h : a ≠ b) : w2 J a b F H a = F := by rw [w2, kw_ne h, kw_row]
theorem w2_b : w2 J a b F H b = H := by rw [w2, kw_row]
theorem w2_n (h1 : x ≠ a) (h2 : x ≠ b) : w2 J a b F H x = J x := by rw [w2, kw_ne h2, kw_ne h1]
theorem w2_ua (h : a ≠ b) : hf_u (w2 J a b F H) a k v = w2 J a b (up F k v) H := by rw [w2, kuw_n h, kuw, w2]
theorem w2_ub : hf_u (w2 J a b F H) b k v = w2 J a b F (up H k v) := by rw [w2, kuw, w2]
theorem w2_self (h : a ≠ b) : w2 J a b (J a) (J b) = J := by rw [w2, kw_self, kw_self]
theorem w3_a (h : a ≠ b) (h2 : a ≠ c) : w3 J a b c F H K a = F := by rw [w3, kw_ne h2, kw_ne h, kw_row]
theorem w3_b (h : b ≠ c) : w3 J a b c F H K b = H := by rw [w3, kw_ne h, kw_row]
theorem w3_c : w3 J a b c F H K c = K := by rw [w3, kw_row]
theorem w3_n (h1 : x ≠ a) (h2 : x ≠ b) (h3 : x ≠ c) : w3 J a b c F H K x = J x := by rw [w3, kw_ne h3, kw_ne h2, kw_ne h1]
theorem w3_ua (h : a ≠ b) (h2 : a ≠ c) : hf_u (w3 J a b c F H K) a k v = w3 J a b c (up F k v) H K := by rw [w3, kuw_n h2, kuw_n h, kuw, w3]
theorem w3_ub (h : b ≠ c) : hf_u (w3 J a b c F H K) b k v = w3 J a b c F (up H k v) K := by rw [w3, kuw_n h, kuw, w3]
theorem w3_uc : hf_u (w3 J a b c F H K) c k v = w3 J a b c F H (up K k v) := by rw [w3, kuw, w3]
theorem up_s : up F k v k = v := by simp [up]
theorem up_n (h : m ≠ k) : up F k v m = F m := by simp [up, h]
end
section
variable {g : hf_G} {I : hf_I} {J : hf_J} {G c s k m : Nat} {u v w : Int64} {i j : Int32}
theorem c_putell (h : Pu g) : hf_rn 50 0 [some (.ref 238), some (.int i), some (.int j)] [] g I J = some (.inl none, g, I, hf_u (hf_u J 238 0 i.toInt64) 238 1 j.toInt64) := by
  simp only [s50_0, s50_1, s50_2, s50_3, s50_6, s50_7, s50_8, s50_9, s50_12, hf_bd_v, hf_bd_n, hf_iv_i, hf_iv_l, hf_iv_a, hf_iv_n, hf_iv_2, z_lgl, z_lgg, z_lge, z_lgle, z_lgz, Option.getD_some, Option.isSome_some, ↓reduceIte, not_true_eq_false, not_false_eq_true, Option.toList_some, Option.toList_none, List.cons_append, List.nil_append, Nat.reduceAdd, Nat.add_assoc, ku_ne, ku_same, ne_eq, Nat.reduceEqDiff, reduceCtorEq, Nat.add_eq_left, Nat.left_eq_add, Nat.reduceEqDiff, q10, q_ne, true_or, or_true, pu_k h, pu_r2 h, pu_r3 h, pu_r4 h, pu_r5 h, pu_r6 h]
theorem c_foundX (h : Pu g) : hf_rn 51 0 [some (.ref 238), some (.int 1)] [] g I J = some (.inl (some (.ref 239)), g, I, J) := by
  simp only [s51_0, s51_1, s51_4, s51_5, s51_8, s51_11, s51_12, s51_15, hf_bd_v, hf_bd_n, hf_iv_i, hf_iv_l, hf_iv_a, hf_iv_n, hf_iv_2, z_lgl, z_lgg, z_lge, z_lgle, z_lgz, Option.getD_some, Option.isSome_some, ↓reduceIte, not_true_eq_false, not_false_eq_true, Option.toList_some, Option.toList_none, List.cons_append, List.nil_append, Nat.reduceAdd, Nat.add_assoc, ku_ne, ku_same, ne_eq, Nat.reduceEqDiff, reduceCtorEq, Nat.add_eq_left, Nat.left_eq_add, Nat.reduceEqDiff, q10, q_ne, true_or, or_true, pu_k h, pu_r2 h, pu_r3 h, pu_r4 h, pu_r5 h, pu_r6 h]
theorem c_foundY (h : Pu g) : hf_rn 51 0 [some (.ref 238), some (.int 0)] [] g I J = some (.inl (some (.ref 241)), g, I, J) := by
  simp only [s51_0, s51_1, s51_4, s51_5, s51_8, s51_11, s51_12, s51_15, hf_bd_v, hf_bd_n, hf_iv_i, hf_iv_l, hf_iv_a, hf_iv_n, hf_iv_2, z_lgl, z_lgg, z_lge, z_lgle, z_lgz, Option.getD_some, Option.isSome_some, ↓reduceIte, not_true_eq_false, not_false_eq_true, Option.toList_some, Option.toList_none, List.cons_append, List.nil_append, Nat.reduceAdd, Nat.add_assoc, ku_ne, ku_same, ne_eq, Nat.reduceEqDiff, reduceCtorEq, Nat.add_eq_left, Nat.left_eq_add, Nat.reduceEqDiff, q10, q_ne, true_or, or_true, pu_k h, pu_r2 h, pu_r3 h, pu_r4 h, pu_r5 h, pu_r6 h]
def wkL (sf x y : Int64) : Int64 := sqL x y + sf * sf
theorem c_weak (h : Pu g) : hf_rn 54 0 [some (.ref 238), some (.long v), none, some (.long w), none] [] g I J = some (.inl (some (.long (wkL (J 238 1) v w))), g, I, J) := by
  simp only [s54_0, s54_1, s54_2, s54_3, s54_4, s54_5, s54_6, s54_7, s54_8, s54_11, s54_12, s54_15, s54_16, s54_17, hf_bd_v, hf_bd_n, hf_iv_i, hf_iv_l, hf_iv_a, hf_iv_n, hf_iv_2, z_lgl, z_lgg, z_lge, z_lgle, z_lgz, Option.getD_some, Option.isSome_some, ↓reduceIte, not_true_eq_false, not_false_eq_true, Option.toList_some, Option.toList_none, List.cons_append, List.nil_append, Nat.reduceAdd, Nat.add_assoc, ku_ne, ku_same, ne_eq, Nat.reduceEqDiff, reduceCtorEq, Nat.add_eq_left, Nat.left_eq_add, Nat.reduceEqDiff, q10, q_ne, true_or, or_true, pu_k h, pu_r2 h, pu_r3 h, pu_r4 h, pu_r5 h, pu_r6 h, wkL, sqL]
def plX (gg sf x y : Int64) : Int64 := by0 (gg * x) (wkL sf x y)
def plY (gg sf x y : Int64) : Int64 := by0 (gg * y) (wkL sf x y)
theorem c_pullFromX (h : Pu g) : hf_rn 55 0 [some (.ref 238), some (.long v), none, some (.long w), none, some (.int 1)] [] g I J = some (.inl (some (.long (plX (J 238 0) (J 238 1) v w))), g, I, J) := by
  simp only [s55_0, s55_1, s55_4, s55_6, s55_9, s55_10, s55_13, s55_14, s55_15, s55_16, s55_17, s55_18, s55_21, s55_24, hf_bd_v, hf_bd_n, hf_iv_i, hf_iv_l, hf_iv_a, hf_iv_n, hf_iv_2, z_lgl, z_lgg, z_lge, z_lgle, z_lgz, Option.getD_some, Option.isSome_some, ↓reduceIte, not_true_eq_false, not_false_eq_true, Option.toList_some, Option.toList_none, List.cons_append, List.nil_append, Nat.reduceAdd, Nat.add_assoc, ku_ne, ku_same, ne_eq, Nat.reduceEqDiff, reduceCtorEq, Nat.add_eq_left, Nat.left_eq_add, Nat.reduceEqDiff, q10, q_ne, true_or, or_true, pu_k h, pu_r2 h, pu_r3 h, pu_r4 h, pu_r5 h, pu_r6 h, c_weak h, c_by, plX]
theorem c_pullFromY (h : Pu g) : hf_rn 55 0 [some (.ref 238), some (.long v), none, some (.long w), none, some (.int 0)] [] g I J = some (.inl (some (.long (plY (J 238 0) (J 238 1) v w))), g, I, J) := by
  simp only [s55_0, s55_1, s55_4, s55_6, s55_9, s55_10, s55_13, s55_14, s55_15, s55_16, s55_17, s55_18, s55_21, s55_24, hf_bd_v, hf_bd_n, hf_iv_i, hf_iv_l, hf_iv_a, hf_iv_n, hf_iv_2, z_lgl, z_lgg, z_lge, z_lgle, z_lgz, Option.getD_some, Option.isSome_some, ↓reduceIte, not_true_eq_false, not_false_eq_true, Option.toList_some, Option.toList_none, List.cons_append, List.nil_append, Nat.reduceAdd, Nat.add_assoc, ku_ne, ku_same, ne_eq, Nat.reduceEqDiff, reduceCtorEq, Nat.add_eq_left, Nat.left_eq_add, Nat.reduceEqDiff, q10, q_ne, true_or, or_true, pu_k h, pu_r2 h, pu_r3 h, pu_r4 h, pu_r5 h, pu_r6 h, c_weak h, c_by, plY]
/-- the pulls of a pair are added to both forces -/
def adP (F : Nat → Int64) (a b : Nat) (v : Int64) : Nat → Int64 := up (up F a (F a + v)) b (F b + -v)
def prX (gg sf : Int64) (X Y : Nat → Int64) (a b : Nat) : Int64 := plX gg sf (wayL (X a) (X b)) (wayL (Y a) (Y b))
def prY (gg sf : Int64) (X Y : Nat → Int64) (a b : Nat) : Int64 := plY gg sf (wayL (X a) (X b)) (wayL (Y a) (Y b))
def abF (c : Nat) (p : Nat → Nat → Int64) (lo : Nat) (F : Nat → Int64) : Nat → Int64 := it (c - (lo + 1)) F fun t F => adP F lo (lo + (1 + t)) (p lo (lo + (1 + t)))
def frF (c : Nat) (p : Nat → Nat → Int64) : Nat → Int64 := it c (fun j => if j < 64 then 0 else 0) fun lo F => abF c p lo F
theorem c_above (hp : Pu g) (h : Gr g G) (hG : G + 8 < 238) (hc : I G 5 = nI c) (hc2 : c ≤ 64) (hk : k < c) {F H : Nat → Int64} : hf_rn 53 0 [some (.ref 238), some (.ref G), some (.int (nI k)), none, none, none, none, none, none, none, none, none, none, none, none, none, none, none] [] g I (w2 J 240 242 F H) = some (.inl none, g, I, w2 J 240 242 (abF c (prX (J 238 0) (J 238 1) (J (G + 2)) (J (G + 4))) k F) (abF c (prY (J 238 0) (J 238 1) (J (G + 2)) (J (G + 4))) k H)) := by
  have n1 : G + 2 ≠ 240 := by omega
  have n2 : G + 2 ≠ 242 := by omega
  have n3 : G + 4 ≠ 240 := by omega
  have n4 : G + 4 ≠ 242 := by omega
  have hk64 : k < 64 := by omega
  have loop : ∀ (d t : Nat) (F1 H1 : Nat → Int64) (l8 l9 l10 l11 l12 l13 l14 l15 l16 l17 : Option Value), k + 1 + t + d = c → F1 = (it t F fun t F => adP F k (k + (1 + t)) (prX (J 238 0) (J 238 1) (J (G + 2)) (J (G + 4)) k (k + (1 + t)))) → H1 = (it t H fun t F => adP F k (k + (1 + t)) (prY (J 238 0) (J 238 1) (J (G + 2)) (J (G + 4)) k (k + (1 + t)))) →
      hf_rn 53 24 [some (.ref 238), some (.ref G), some (.int (nI k)), some (.long (J (G + 2) k)), none, some (.long (J (G + 4) k)), none, some (.int (nI (k + (1 + t)))), l8, l9, l10, l11, l12, l13, l14, l15, l16, l17] [] g I (w2 J 240 242 F1 H1) = some (.inl none, g, I, w2 J 240 242 (abF c (prX (J 238 0) (J 238 1) (J (G + 2)) (J (G + 4))) k F) (abF c (prY (J 238 0) (J 238 1) (J (G + 2)) (J (G + 4))) k H)) := by
    intro d
    induction d with
    | zero =>
      intro t F1 H1 l8 l9 l10 l11 l12 l13 l14 l15 l16 l17 ht hF hH
      have e : t = c - (k + 1) := by omega
      have e2 : k + (1 + t) = c := by omega
      rw [e2]
      simp only [s53_24, s53_26, s53_27, s53_30, s53_33, s53_34, s53_35, s53_38, s53_40, s53_43, s53_46, s53_48, s53_50, s53_51, s53_54, s53_56, s53_59, s53_62, s53_64, s53_65, s53_67, s53_69, s53_72, s53_74, s53_75, s53_78, s53_80, s53_81, s53_83, s53_86, s53_88, s53_89, s53_92, s53_94, s53_95, s53_97, s53_100, s53_102, s53_103, s53_106, s53_107, s53_109, s53_112, s53_113, s53_116, s53_117, s53_119, s53_122, s53_123, s53_126, s53_128, s53_130, s53_131, s53_134, s53_135, s53_138, s53_140, s53_142, s53_143, s53_146, s53_152, hf_bd_v, hf_bd_n, hf_iv_i, hf_iv_l, hf_iv_a, hf_iv_n, hf_iv_2, z_lgl, z_lgg, z_lge, z_lgle, z_lgz, Option.getD_some, Option.isSome_some, ↓reduceIte, not_true_eq_false, not_false_eq_true, Option.toList_some, Option.toList_none, List.cons_append, List.nil_append, Nat.reduceAdd, Nat.add_assoc, ku_ne, ku_same, ne_eq, Nat.reduceEqDiff, reduceCtorEq, Nat.add_eq_left, Nat.left_eq_add, Nat.reduceEqDiff, q10, q_ne, true_or, or_true, gr_k h, gr_r0 h, gr_r1 h, gr_r2 h, gr_r3 h, pu_k hp, pu_r2 hp, pu_r3 hp, pu_r4 hp, pu_r5 hp, pu_r6 hp, hc, z_ii (show c < 2147483648 by omega) (show c < 2147483648 by omega), Nat.le_refl, hF, hH, e]
      rfl
    | succ d ih =>
      intro t F1 H1 l8 l9 l10 l11 l12 l13 l14 l15 l16 l17 ht hF hH
      have hk1 : ¬ c ≤ k + (1 + t) := by omega
      have hm : k + (1 + t) < 64 := by omega
      have hz := z_ii (show c < 2147483648 by omega) (show k + (1 + t) < 2147483648 by omega)
      have n5 : k + (1 + t) ≠ k := by omega
      have n6 : k ≠ k + (1 + t) := by omega
      simp only [s53_24, s53_26, s53_27, s53_30, s53_33, s53_34, s53_35, s53_38, s53_40, s53_43, s53_46, s53_48, s53_50, s53_51, s53_54, s53_56, s53_59, s53_62, s53_64, s53_65, s53_67, s53_69, s53_72, s53_74, s53_75, s53_78, s53_80, s53_81, s53_83, s53_86, s53_88, s53_89, s53_92, s53_94, s53_95, s53_97, s53_100, s53_102, s53_103, s53_106, s53_107, s53_109, s53_112, s53_113, s53_116, s53_117, s53_119, s53_122, s53_123, s53_126, s53_128, s53_130, s53_131, s53_134, s53_135, s53_138, s53_140, s53_142, s53_143, s53_146, hf_bd_v, hf_bd_n, hf_iv_i, hf_iv_l, hf_iv_a, hf_iv_n, hf_iv_2, z_lgl, z_lgg, z_lge, z_lgle, z_lgz, Option.getD_some, Option.isSome_some, ↓reduceIte, not_true_eq_false, not_false_eq_true, Option.toList_some, Option.toList_none, List.cons_append, List.nil_append, Nat.reduceAdd, Nat.add_assoc, ku_ne, ku_same, ne_eq, Nat.reduceEqDiff, reduceCtorEq, Nat.add_eq_left, Nat.left_eq_add, Nat.reduceEqDiff, q10, q_ne, true_or, or_true, gr_k h, gr_r0 h, gr_r1 h, gr_r2 h, gr_r3 h, pu_k hp, pu_r2 hp, pu_r3 hp, pu_r4 hp, pu_r5 hp, pu_r6 hp, hc, hz, hk1, z_1, (gr_rw1 h).1, (gr_rw3 h).1, c_get (gr_rw1 h) hm, c_get (gr_rw3 h) hm, c_way, c_weak hp, c_by, (pu_rw239 hp).1, (pu_rw241 hp).1, c_add (pu_rw239 hp) hk64, c_add (pu_rw239 hp) hm, c_add (pu_rw241 hp) hk64, c_add (pu_rw241 hp) hm, w2_a, w2_b, w2_n, w2_ua, w2_ub, n1, n2, n3, n4, up_n, n5, n6]
      rw [s53_149]
      exact ih (t + 1) _ _ _ _ _ _ _ _ _ _ _ _ (by omega) (by rw [hF, it_s]; rfl) (by rw [hH, it_s]; rfl)
  simp only [s53_0, s53_1, s53_4, s53_5, s53_8, s53_9, s53_10, s53_13, s53_14, s53_17, s53_19, s53_20, s53_21, s53_22, hf_bd_v, hf_bd_n, hf_iv_i, hf_iv_l, hf_iv_a, hf_iv_n, hf_iv_2, z_lgl, z_lgg, z_lge, z_lgle, z_lgz, Option.getD_some, Option.isSome_some, ↓reduceIte, not_true_eq_false, not_false_eq_true, Option.toList_some, Option.toList_none, List.cons_append, List.nil_append, Nat.reduceAdd, Nat.add_assoc, ku_ne, ku_same, ne_eq, Nat.reduceEqDiff, reduceCtorEq, Nat.add_eq_left, Nat.left_eq_add, Nat.reduceEqDiff, q10, q_ne, true_or, or_true, gr_k h, gr_r0 h, gr_r1 h, gr_r2 h, gr_r3 h, (gr_rw1 h).1, (gr_rw3 h).1, c_get (gr_rw1 h) hk64, c_get (gr_rw3 h) hk64, z_1, w2_n, n1, n2, n3, n4]
  exact loop (c - (k + 1)) 0 F H _ _ _ _ _ _ _ _ _ _ (by omega) rfl rfl
end
