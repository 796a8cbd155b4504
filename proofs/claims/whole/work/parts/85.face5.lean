/-! THE FACE: ripples, draws, forces, steps -/
section
variable {g : hf_G} {I I2 : hf_I} {J J2 : hf_J} {S a b c k m n s p q P : Nat} {u v w : Int64} {i j x y kx ky am ph pw : Int32}
def rpJ (J : hf_J) (c s : Nat) (kx ky am ph : Int64) : hf_J := rwm4 J 4 6 8 10 c (fun k => plc (J 4 k + rpL s kx ky am ph k * kx / 64)) (fun k => plc (J 6 k + rpL s kx ky am ph k * ky / 64)) (fun k => J 8 k + rpL s kx ky am ph k * kx / 64) (fun k => J 10 k + rpL s kx ky am ph k * ky / 64)
def Wv (g : hf_G) (I : hf_I) : Prop := hf_k g 1000002 = (6, 16) ∧ I 1000002 = hf_wave
def rpOK (kx ky am ph : Int32) : Prop := (-3 ≤ kx ∧ kx ≤ 3) ∧ (-3 ≤ ky ∧ ky ≤ 3) ∧ (-1000 ≤ am ∧ am ≤ 1000) ∧ (0 ≤ ph ∧ ph ≤ 15) ∧ ¬ (kx = 0 ∧ ky = 0)
theorem c_rippleF (h : Hx g) (he : hf_n g < 1000000) (hW : Wv g I) (hc : I 2 5 = nI c) (hc2 : c ≤ 64) (hs : I 2 4 = nI s) (ho : rpOK kx ky am ph) (ha : I 0 6 = 1) : hf_rn 111 0 [some (.ref 0), some (.int kx), some (.int ky), some (.int am), some (.int ph)] [] g I J = some (.inl none, g, I, rpJ J c s kx.toInt64 ky.toInt64 am.toInt64 ph.toInt64) := by
  obtain ⟨h1, h2, h3, h4, h5⟩ := ho
  have hS : Sc g 1 := hx_sc1 h
  have hG : Gr g 2 := sc_gr1 hS
  have f : hf_r g 1 0 = some 2 := sc_r0 hS
  have hr : ∀ u v w q : Int64, hf_rn 22 0 [some (.ref 2), some (.long u), none, some (.long v), none, some (.long w), none, some (.long q), none, none, none, none, none, none] [] g I J = some (.inl none, g, I, rpJ J c s u v w q) := fun u v w q => c_ripple hG hc hc2 hs hW.1 hW.2
  have hna := c_needAge (I := I) (J := J) h
  rw [if_pos ha] at hna
  by_cases c1 : kx = 0
  · have c2 : ¬ ky = 0 := fun c => h5 ⟨c1, c⟩
    subst c1
    simp only [s111_0, s111_1, s111_3, s111_4, s111_7, s111_8, s111_10, s111_11, s111_14, s111_15, s111_18, s111_21, s111_24, s111_26, s111_27, s111_29, s111_32, s111_33, s111_36, s111_37, s111_40, s111_50, s111_51, s111_54, s111_55, s111_58, s111_61, s111_62, s111_63, s111_64, s111_65, s111_66, s111_67, s111_69, s111_70, s111_73, hf_bd_v, hf_bd_n, hf_iv_i, hf_iv_l, hf_iv_a, hf_iv_n, hf_iv_2, z_lgl, z_lgg, z_lge, z_lgle, z_lgz, Option.getD_some, Option.isSome_some, ↓reduceIte, not_true_eq_false, not_false_eq_true, Option.toList_some, Option.toList_none, List.cons_append, List.nil_append, Nat.reduceAdd, Nat.add_assoc, ku_ne, ku_same, ne_eq, Nat.reduceEqDiff, reduceCtorEq, Nat.add_eq_left, Nat.left_eq_add, Nat.reduceEqDiff, q10, q_ne, true_or, or_true, hx_k h, hx_r0 h, hx_r1 h, hx_r2 h, hx_r3 h, hx_r4 h, hx_r5 h, h.1, hS.1, hG.1, f, c_needRange he, if_pos h1, if_pos h2, if_pos h3, if_pos h4, c2, hna, hr]
  · simp only [s111_0, s111_1, s111_3, s111_4, s111_7, s111_8, s111_10, s111_11, s111_14, s111_15, s111_18, s111_21, s111_24, s111_26, s111_27, s111_29, s111_32, s111_33, s111_36, s111_37, s111_40, s111_50, s111_51, s111_54, s111_55, s111_58, s111_61, s111_62, s111_63, s111_64, s111_65, s111_66, s111_67, s111_69, s111_70, s111_73, hf_bd_v, hf_bd_n, hf_iv_i, hf_iv_l, hf_iv_a, hf_iv_n, hf_iv_2, z_lgl, z_lgg, z_lge, z_lgle, z_lgz, Option.getD_some, Option.isSome_some, ↓reduceIte, not_true_eq_false, not_false_eq_true, Option.toList_some, Option.toList_none, List.cons_append, List.nil_append, Nat.reduceAdd, Nat.add_assoc, ku_ne, ku_same, ne_eq, Nat.reduceEqDiff, reduceCtorEq, Nat.add_eq_left, Nat.left_eq_add, Nat.reduceEqDiff, q10, q_ne, true_or, or_true, hx_k h, hx_r0 h, hx_r1 h, hx_r2 h, hx_r3 h, hx_r4 h, hx_r5 h, h.1, hS.1, hG.1, f, c_needRange he, if_pos h1, if_pos h2, if_pos h3, if_pos h4, c1, hna, hr]
theorem c_rippleX2 (h : Hx g) (he : hf_n g < 1000000) (ho : rpOK kx ky am ph) (ha : ¬ I 0 6 = 1) : hf_rn 111 0 [some (.ref 0), some (.int kx), some (.int ky), some (.int am), some (.int ph)] [] g I J = some (.inr 2, hf_th g, I, J) := by
  obtain ⟨h1, h2, h3, h4, h5⟩ := ho
  have hna := c_needAge (I := I) (J := J) h
  rw [if_neg ha] at hna
  by_cases c1 : kx = 0
  · have c2 : ¬ ky = 0 := fun c => h5 ⟨c1, c⟩
    subst c1
    simp only [s111_0, s111_1, s111_3, s111_4, s111_7, s111_8, s111_10, s111_11, s111_14, s111_15, s111_18, s111_21, s111_24, s111_26, s111_27, s111_29, s111_32, s111_33, s111_36, s111_37, s111_40, s111_50, s111_51, s111_54, s111_55, s111_58, s111_61, s111_62, s111_63, s111_64, s111_65, s111_66, s111_67, s111_69, s111_70, s111_73, hf_bd_v, hf_bd_n, hf_iv_i, hf_iv_l, hf_iv_a, hf_iv_n, hf_iv_2, z_lgl, z_lgg, z_lge, z_lgle, z_lgz, Option.getD_some, Option.isSome_some, ↓reduceIte, not_true_eq_false, not_false_eq_true, Option.toList_some, Option.toList_none, List.cons_append, List.nil_append, Nat.reduceAdd, Nat.add_assoc, ku_ne, ku_same, ne_eq, Nat.reduceEqDiff, reduceCtorEq, Nat.add_eq_left, Nat.left_eq_add, Nat.reduceEqDiff, q10, q_ne, true_or, or_true, hx_k h, hx_r0 h, hx_r1 h, hx_r2 h, hx_r3 h, hx_r4 h, hx_r5 h, h.1, c_needRange he, if_pos h1, if_pos h2, if_pos h3, if_pos h4, c2, hna, hf_bdx hh_111]
  · simp only [s111_0, s111_1, s111_3, s111_4, s111_7, s111_8, s111_10, s111_11, s111_14, s111_15, s111_18, s111_21, s111_24, s111_26, s111_27, s111_29, s111_32, s111_33, s111_36, s111_37, s111_40, s111_50, s111_51, s111_54, s111_55, s111_58, s111_61, s111_62, s111_63, s111_64, s111_65, s111_66, s111_67, s111_69, s111_70, s111_73, hf_bd_v, hf_bd_n, hf_iv_i, hf_iv_l, hf_iv_a, hf_iv_n, hf_iv_2, z_lgl, z_lgg, z_lge, z_lgle, z_lgz, Option.getD_some, Option.isSome_some, ↓reduceIte, not_true_eq_false, not_false_eq_true, Option.toList_some, Option.toList_none, List.cons_append, List.nil_append, Nat.reduceAdd, Nat.add_assoc, ku_ne, ku_same, ne_eq, Nat.reduceEqDiff, reduceCtorEq, Nat.add_eq_left, Nat.left_eq_add, Nat.reduceEqDiff, q10, q_ne, true_or, or_true, hx_k h, hx_r0 h, hx_r1 h, hx_r2 h, hx_r3 h, hx_r4 h, hx_r5 h, h.1, c_needRange he, if_pos h1, if_pos h2, if_pos h3, if_pos h4, c1, hna, hf_bdx hh_111]
theorem c_rippleX1 (h : Hx g) (he : hf_n g < 1000000) (ho : ¬ rpOK kx ky am ph) : hf_rn 111 0 [some (.ref 0), some (.int kx), some (.int ky), some (.int am), some (.int ph)] [] g I J = some (.inr 1, hf_th g, I, J) := by
  by_cases h1 : -3 ≤ kx ∧ kx ≤ 3
  · by_cases h2 : -3 ≤ ky ∧ ky ≤ 3
    · by_cases h3 : -1000 ≤ am ∧ am ≤ 1000
      · by_cases h4 : 0 ≤ ph ∧ ph ≤ 15
        · have h5 : kx = 0 ∧ ky = 0 := by
            apply Classical.byContradiction
            intro c
            exact ho ⟨h1, h2, h3, h4, c⟩
          obtain ⟨rfl, rfl⟩ := h5
          simp only [s111_0, s111_1, s111_3, s111_4, s111_7, s111_8, s111_10, s111_11, s111_14, s111_15, s111_18, s111_21, s111_24, s111_26, s111_27, s111_29, s111_32, s111_33, s111_36, s111_37, s111_40, s111_50, s111_51, s111_54, s111_55, s111_58, s111_61, s111_62, s111_63, s111_64, s111_65, s111_66, s111_67, s111_69, s111_70, s111_73, hf_bd_v, hf_bd_n, hf_iv_i, hf_iv_l, hf_iv_a, hf_iv_n, hf_iv_2, z_lgl, z_lgg, z_lge, z_lgle, z_lgz, Option.getD_some, Option.isSome_some, ↓reduceIte, not_true_eq_false, not_false_eq_true, Option.toList_some, Option.toList_none, List.cons_append, List.nil_append, Nat.reduceAdd, Nat.add_assoc, ku_ne, ku_same, ne_eq, Nat.reduceEqDiff, reduceCtorEq, Nat.add_eq_left, Nat.left_eq_add, Nat.reduceEqDiff, q10, q_ne, true_or, or_true, hx_k h, hx_r0 h, hx_r1 h, hx_r2 h, hx_r3 h, hx_r4 h, hx_r5 h, h.1, c_needRange he, if_pos h1, if_pos h2, if_pos h3, if_pos h4]
        · simp only [s111_0, s111_1, s111_3, s111_4, s111_7, s111_8, s111_10, s111_11, s111_14, s111_15, s111_18, s111_21, s111_24, s111_26, s111_27, s111_29, s111_32, s111_33, s111_36, s111_37, s111_40, s111_50, s111_51, s111_54, s111_55, s111_58, s111_61, s111_62, s111_63, s111_64, s111_65, s111_66, s111_67, s111_69, s111_70, s111_73, hf_bd_v, hf_bd_n, hf_iv_i, hf_iv_l, hf_iv_a, hf_iv_n, hf_iv_2, z_lgl, z_lgg, z_lge, z_lgle, z_lgz, Option.getD_some, Option.isSome_some, ↓reduceIte, not_true_eq_false, not_false_eq_true, Option.toList_some, Option.toList_none, List.cons_append, List.nil_append, Nat.reduceAdd, Nat.add_assoc, ku_ne, ku_same, ne_eq, Nat.reduceEqDiff, reduceCtorEq, Nat.add_eq_left, Nat.left_eq_add, Nat.reduceEqDiff, q10, q_ne, true_or, or_true, hx_k h, hx_r0 h, hx_r1 h, hx_r2 h, hx_r3 h, hx_r4 h, hx_r5 h, h.1, c_needRange he, if_pos h1, if_pos h2, if_pos h3, if_neg h4, hf_bdx hh_111]
      · simp only [s111_0, s111_1, s111_3, s111_4, s111_7, s111_8, s111_10, s111_11, s111_14, s111_15, s111_18, s111_21, s111_24, s111_26, s111_27, s111_29, s111_32, s111_33, s111_36, s111_37, s111_40, s111_50, s111_51, s111_54, s111_55, s111_58, s111_61, s111_62, s111_63, s111_64, s111_65, s111_66, s111_67, s111_69, s111_70, s111_73, hf_bd_v, hf_bd_n, hf_iv_i, hf_iv_l, hf_iv_a, hf_iv_n, hf_iv_2, z_lgl, z_lgg, z_lge, z_lgle, z_lgz, Option.getD_some, Option.isSome_some, ↓reduceIte, not_true_eq_false, not_false_eq_true, Option.toList_some, Option.toList_none, List.cons_append, List.nil_append, Nat.reduceAdd, Nat.add_assoc, ku_ne, ku_same, ne_eq, Nat.reduceEqDiff, reduceCtorEq, Nat.add_eq_left, Nat.left_eq_add, Nat.reduceEqDiff, q10, q_ne, true_or, or_true, hx_k h, hx_r0 h, hx_r1 h, hx_r2 h, hx_r3 h, hx_r4 h, hx_r5 h, h.1, c_needRange he, if_pos h1, if_pos h2, if_neg h3, hf_bdx hh_111]
    · simp only [s111_0, s111_1, s111_3, s111_4, s111_7, s111_8, s111_10, s111_11, s111_14, s111_15, s111_18, s111_21, s111_24, s111_26, s111_27, s111_29, s111_32, s111_33, s111_36, s111_37, s111_40, s111_50, s111_51, s111_54, s111_55, s111_58, s111_61, s111_62, s111_63, s111_64, s111_65, s111_66, s111_67, s111_69, s111_70, s111_73, hf_bd_v, hf_bd_n, hf_iv_i, hf_iv_l, hf_iv_a, hf_iv_n, hf_iv_2, z_lgl, z_lgg, z_lge, z_lgle, z_lgz, Option.getD_some, Option.isSome_some, ↓reduceIte, not_true_eq_false, not_false_eq_true, Option.toList_some, Option.toList_none, List.cons_append, List.nil_append, Nat.reduceAdd, Nat.add_assoc, ku_ne, ku_same, ne_eq, Nat.reduceEqDiff, reduceCtorEq, Nat.add_eq_left, Nat.left_eq_add, Nat.reduceEqDiff, q10, q_ne, true_or, or_true, hx_k h, hx_r0 h, hx_r1 h, hx_r2 h, hx_r3 h, hx_r4 h, hx_r5 h, h.1, c_needRange he, if_pos h1, if_neg h2, hf_bdx hh_111]
  · simp only [s111_0, s111_1, s111_3, s111_4, s111_7, s111_8, s111_10, s111_11, s111_14, s111_15, s111_18, s111_21, s111_24, s111_26, s111_27, s111_29, s111_32, s111_33, s111_36, s111_37, s111_40, s111_50, s111_51, s111_54, s111_55, s111_58, s111_61, s111_62, s111_63, s111_64, s111_65, s111_66, s111_67, s111_69, s111_70, s111_73, hf_bd_v, hf_bd_n, hf_iv_i, hf_iv_l, hf_iv_a, hf_iv_n, hf_iv_2, z_lgl, z_lgg, z_lge, z_lgle, z_lgz, Option.getD_some, Option.isSome_some, ↓reduceIte, not_true_eq_false, not_false_eq_true, Option.toList_some, Option.toList_none, List.cons_append, List.nil_append, Nat.reduceAdd, Nat.add_assoc, ku_ne, ku_same, ne_eq, Nat.reduceEqDiff, reduceCtorEq, Nat.add_eq_left, Nat.left_eq_add, Nat.reduceEqDiff, q10, q_ne, true_or, or_true, hx_k h, hx_r0 h, hx_r1 h, hx_r2 h, hx_r3 h, hx_r4 h, hx_r5 h, h.1, c_needRange he, if_neg h1, hf_bdx hh_111]
/-- one ripple that is drawn -/
def drL (x : Int64) : Int64 := 1103515245 * x + 12345 - (1103515245 * x + 12345) / 2147483648 * 2147483648
def drAm (pw kx ky : Int32) (z : Int64) : Int64 := if z / 65536 - z / 65536 / 2 * 2 = 1 then -by0 pw.toInt64 (kx * kx + ky * ky).toInt64 else by0 pw.toInt64 (kx * kx + ky * ky).toInt64
def drPh (z : Int64) : Int64 := z / 65536 / 2 - z / 65536 / 2 / 16 * 16
def drT (c s : Nat) (pw kx ky : Int32) (p : Int64 × hf_J) : Int64 × hf_J := (drL p.1, rpJ p.2 c s kx.toInt64 ky.toInt64 (drAm pw kx ky (drL p.1)) (drPh (drL p.1)))
def drX : List (Int32 × Int32) := [(0, 1), (0, 2), (1, -2), (1, -1), (1, 0), (1, 1), (1, 2), (2, -2), (2, -1), (2, 0), (2, 1), (2, 2)]
def drF (c s : Nat) (pw : Int32) (p : Int64 × hf_J) : Int64 × hf_J := drX.foldl (fun p k => drT c s pw k.1 k.2 p) p
theorem c_drawR (h : Hx g) (hW : Wv g I) (hc : I 2 5 = nI c) (hc2 : c ≤ 64) (hs : I 2 4 = nI s) : hf_rn 138 0 [some (.ref 0), some (.int i), some (.int pw), none, none, none, none, none, none, none, none] [] g I J = some (.inl (some (.int (drF c s pw (i.toInt64, J)).1.toInt32)), g, I, (drF c s pw (i.toInt64, J)).2) := by
  have hS : Sc g 1 := hx_sc1 h
  have hG : Gr g 2 := sc_gr1 hS
  have f : hf_r g 1 0 = some 2 := sc_r0 hS
  have hr : ∀ (J : hf_J) (u v w q : Int64), hf_rn 22 0 [some (.ref 2), some (.long u), none, some (.long v), none, some (.long w), none, some (.long q), none, none, none, none, none, none] [] g I J = some (.inl none, g, I, rpJ J c s u v w q) := fun J u v w q => c_ripple hG hc hc2 hs hW.1 hW.2
  have turn : ∀ (kx ky : Int32) (p : Int64 × hf_J) (R : Option hf_R) (l7 l8 l9 l10 : Option Value), ky ≤ 2 →
      (∀ l7 l8 l9 l10, hf_rn 138 25 [some (.ref 0), some (.int i), some (.int pw), some (.long (drT c s pw kx ky p).1), none, some (.int kx), some (.int (ky + 1)), l7, l8, l9, l10] [] g I (drT c s pw kx ky p).2 = R) →
      hf_rn 138 25 [some (.ref 0), some (.int i), some (.int pw), some (.long p.1), none, some (.int kx), some (.int ky), l7, l8, l9, l10] [] g I p.2 = R := by
    intro kx ky p R l7 l8 l9 l10 hk hR
    have hk2 : ¬ 2 < ky := fun c => I_nle c hk
    unfold drT drAm at hR
    by_cases c1 : drL p.1 / 65536 - drL p.1 / 65536 / 2 * 2 = 1
    · rw [if_pos c1] at hR
      unfold drL at c1 hR
      simp only [s138_25, s138_27, s138_28, s138_31, s138_34, s138_35, s138_36, s138_39, s138_40, s138_43, s138_44, s138_45, s138_46, s138_49, s138_50, s138_52, s138_53, s138_54, s138_56, s138_58, s138_59, s138_61, s138_63, s138_64, s138_65, s138_66, s138_69, s138_71, s138_72, s138_75, s138_78, s138_80, s138_81, s138_83, s138_84, s138_86, s138_89, s138_90, s138_91, s138_92, s138_95, s138_97, s138_98, s138_101, s138_103, s138_105, s138_108, s138_109, s138_112, s138_113, s138_116, hf_bd_v, hf_bd_n, hf_iv_i, hf_iv_l, hf_iv_a, hf_iv_n, hf_iv_2, z_lgl, z_lgg, z_lge, z_lgle, z_lgz, Option.getD_some, Option.isSome_some, ↓reduceIte, not_true_eq_false, not_false_eq_true, Option.toList_some, Option.toList_none, List.cons_append, List.nil_append, Nat.reduceAdd, Nat.add_assoc, ku_ne, ku_same, ne_eq, Nat.reduceEqDiff, reduceCtorEq, Nat.add_eq_left, Nat.left_eq_add, Nat.reduceEqDiff, q10, q_ne, true_or, or_true, hx_k h, hx_r0 h, hx_r1 h, hx_r2 h, hx_r3 h, hx_r4 h, hx_r5 h, h.1, hS.1, hG.1, f, hk2, c_by, hr, show ¬ (2147483648 : Int64) = 0 by decide, show ¬ (65536 : Int64) = 0 by decide, q2, q16, c1]
      rw [s138_119]
      exact hR _ _ _ _
    · rw [if_neg c1] at hR
      unfold drL at c1 hR
      simp only [s138_25, s138_27, s138_28, s138_31, s138_34, s138_35, s138_36, s138_39, s138_40, s138_43, s138_44, s138_45, s138_46, s138_49, s138_50, s138_52, s138_53, s138_54, s138_56, s138_58, s138_59, s138_61, s138_63, s138_64, s138_65, s138_66, s138_69, s138_71, s138_72, s138_75, s138_78, s138_80, s138_81, s138_83, s138_84, s138_86, s138_89, s138_90, s138_91, s138_92, s138_95, s138_97, s138_98, s138_101, s138_103, s138_105, s138_108, s138_109, s138_112, s138_113, s138_116, hf_bd_v, hf_bd_n, hf_iv_i, hf_iv_l, hf_iv_a, hf_iv_n, hf_iv_2, z_lgl, z_lgg, z_lge, z_lgle, z_lgz, Option.getD_some, Option.isSome_some, ↓reduceIte, not_true_eq_false, not_false_eq_true, Option.toList_some, Option.toList_none, List.cons_append, List.nil_append, Nat.reduceAdd, Nat.add_assoc, ku_ne, ku_same, ne_eq, Nat.reduceEqDiff, reduceCtorEq, Nat.add_eq_left, Nat.left_eq_add, Nat.reduceEqDiff, q10, q_ne, true_or, or_true, hx_k h, hx_r0 h, hx_r1 h, hx_r2 h, hx_r3 h, hx_r4 h, hx_r5 h, h.1, hS.1, hG.1, f, hk2, c_by, hr, show ¬ (2147483648 : Int64) = 0 by decide, show ¬ (65536 : Int64) = 0 by decide, q2, q16, c1]
      rw [s138_119]
      exact hR _ _ _ _
  have row : ∀ (kx : Int32) (p : Int64 × hf_J) (R : Option hf_R) (l7 l8 l9 l10 : Option Value), hf_rn 138 6 [some (.ref 0), some (.int i), some (.int pw), some (.long p.1), none, some (.int (kx + 1)), some (.int 3), l7, l8, l9, l10] [] g I p.2 = R →
      hf_rn 138 25 [some (.ref 0), some (.int i), some (.int pw), some (.long p.1), none, some (.int kx), some (.int 3), l7, l8, l9, l10] [] g I p.2 = R := by
    intro kx p R l7 l8 l9 l10 hR
    simp only [s138_25, s138_27, s138_28, s138_122, hf_bd_v, hf_bd_n, hf_iv_i, hf_iv_l, hf_iv_a, hf_iv_n, hf_iv_2, z_lgl, z_lgg, z_lge, z_lgle, z_lgz, Option.getD_some, Option.isSome_some, ↓reduceIte, not_true_eq_false, not_false_eq_true, Option.toList_some, Option.toList_none, List.cons_append, List.nil_append, Nat.reduceAdd, Nat.add_assoc, ku_ne, ku_same, ne_eq, Nat.reduceEqDiff, reduceCtorEq, Nat.add_eq_left, Nat.left_eq_add, Nat.reduceEqDiff, q10, q_ne, true_or, or_true, show (2 : Int32) < 3 from by decide]
    rw [s138_125]
    exact hR
  have e1 : (1 : Int32) + 1 = 2 := by decide
  have e2 : (2 : Int32) + 1 = 3 := by decide
  have e3 : (-2 : Int32) + 1 = -1 := by decide
  have e4 : (-1 : Int32) + 1 = 0 := by decide
  have e5 : (0 : Int32) + 1 = 1 := by decide
  have line : ∀ (kx : Int32) (p : Int64 × hf_J) (R : Option hf_R) (l7 l8 l9 l10 : Option Value), (∀ l7 l8 l9 l10, hf_rn 138 6 [some (.ref 0), some (.int i), some (.int pw), some (.long ([(kx, -2), (kx, -1), (kx, 0), (kx, 1), (kx, 2)].foldl (fun p k => drT c s pw k.1 k.2 p) p).1), none, some (.int (kx + 1)), some (.int 3), l7, l8, l9, l10] [] g I ([(kx, (-2 : Int32)), (kx, -1), (kx, 0), (kx, 1), (kx, 2)].foldl (fun p k => drT c s pw k.1 k.2 p) p).2 = R) →
      hf_rn 138 25 [some (.ref 0), some (.int i), some (.int pw), some (.long p.1), none, some (.int kx), some (.int (-2)), l7, l8, l9, l10] [] g I p.2 = R := by
    intro kx p R l7 l8 l9 l10 hR
    refine turn kx (-2) p R _ _ _ _ (by decide) (fun l7 l8 l9 l10 => ?_)
    rw [e3]
    refine turn kx (-1) _ R _ _ _ _ (by decide) (fun l7 l8 l9 l10 => ?_)
    rw [e4]
    refine turn kx 0 _ R _ _ _ _ (by decide) (fun l7 l8 l9 l10 => ?_)
    rw [e5]
    refine turn kx 1 _ R _ _ _ _ (by decide) (fun l7 l8 l9 l10 => ?_)
    rw [e1]
    refine turn kx 2 _ R _ _ _ _ (by decide) (fun l7 l8 l9 l10 => ?_)
    rw [e2]
    exact row kx _ R _ _ _ _ (hR _ _ _ _)
  simp only [s138_0, s138_1, s138_2, s138_3, s138_4, hf_bd_v, hf_bd_n, hf_iv_i, hf_iv_l, hf_iv_a, hf_iv_n, hf_iv_2, z_lgl, z_lgg, z_lge, z_lgle, z_lgz, Option.getD_some, Option.isSome_some, ↓reduceIte, not_true_eq_false, not_false_eq_true, Option.toList_some, Option.toList_none, List.cons_append, List.nil_append, Nat.reduceAdd, Nat.add_assoc, ku_ne, ku_same, ne_eq, Nat.reduceEqDiff, reduceCtorEq, Nat.add_eq_left, Nat.left_eq_add, Nat.reduceEqDiff, q10, q_ne, true_or, or_true]
  simp only [s138_6, s138_8, s138_9, s138_12, s138_14, s138_17, s138_18, s138_21, s138_23, hf_bd_v, hf_bd_n, hf_iv_i, hf_iv_l, hf_iv_a, hf_iv_n, hf_iv_2, z_lgl, z_lgg, z_lge, z_lgle, z_lgz, Option.getD_some, Option.isSome_some, ↓reduceIte, not_true_eq_false, not_false_eq_true, Option.toList_some, Option.toList_none, List.cons_append, List.nil_append, Nat.reduceAdd, Nat.add_assoc, ku_ne, ku_same, ne_eq, Nat.reduceEqDiff, reduceCtorEq, Nat.add_eq_left, Nat.left_eq_add, Nat.reduceEqDiff, q10, q_ne, true_or, or_true, show ((2 : Int32) < 0) = False from eq_false (by decide)]
  refine turn 0 1 (i.toInt64, J) _ _ _ _ _ (by decide) (fun l7 l8 l9 l10 => ?_)
  rw [e1]
  refine turn 0 2 _ _ _ _ _ _ (by decide) (fun l7 l8 l9 l10 => ?_)
  rw [e2]
  refine row 0 _ _ _ _ _ _ ?_
  rw [e5]
  simp only [s138_6, s138_8, s138_9, s138_12, s138_14, s138_17, s138_18, s138_21, s138_23, hf_bd_v, hf_bd_n, hf_iv_i, hf_iv_l, hf_iv_a, hf_iv_n, hf_iv_2, z_lgl, z_lgg, z_lge, z_lgle, z_lgz, Option.getD_some, Option.isSome_some, ↓reduceIte, not_true_eq_false, not_false_eq_true, Option.toList_some, Option.toList_none, List.cons_append, List.nil_append, Nat.reduceAdd, Nat.add_assoc, ku_ne, ku_same, ne_eq, Nat.reduceEqDiff, reduceCtorEq, Nat.add_eq_left, Nat.left_eq_add, Nat.reduceEqDiff, q10, q_ne, true_or, or_true, show ((2 : Int32) < 1) = False from eq_false (by decide)]
  refine line 1 _ _ _ _ _ _ (fun l7 l8 l9 l10 => ?_)
  rw [e1]
  simp only [s138_6, s138_8, s138_9, s138_12, s138_14, s138_17, s138_18, s138_21, s138_23, hf_bd_v, hf_bd_n, hf_iv_i, hf_iv_l, hf_iv_a, hf_iv_n, hf_iv_2, z_lgl, z_lgg, z_lge, z_lgle, z_lgz, Option.getD_some, Option.isSome_some, ↓reduceIte, not_true_eq_false, not_false_eq_true, Option.toList_some, Option.toList_none, List.cons_append, List.nil_append, Nat.reduceAdd, Nat.add_assoc, ku_ne, ku_same, ne_eq, Nat.reduceEqDiff, reduceCtorEq, Nat.add_eq_left, Nat.left_eq_add, Nat.reduceEqDiff, q10, q_ne, true_or, or_true, show ((2 : Int32) < 2) = False from eq_false (by decide), show ((2 : Int32) = 0) = False from eq_false (by decide)]
  refine line 2 _ _ _ _ _ _ (fun l7 l8 l9 l10 => ?_)
  rw [e2]
  simp only [s138_6, s138_8, s138_9, s138_12, s138_14, s138_17, s138_18, s138_21, s138_23, s138_128, s138_129, s138_130, hf_bd_v, hf_bd_n, hf_iv_i, hf_iv_l, hf_iv_a, hf_iv_n, hf_iv_2, z_lgl, z_lgg, z_lge, z_lgle, z_lgz, Option.getD_some, Option.isSome_some, ↓reduceIte, not_true_eq_false, not_false_eq_true, Option.toList_some, Option.toList_none, List.cons_append, List.nil_append, Nat.reduceAdd, Nat.add_assoc, ku_ne, ku_same, ne_eq, Nat.reduceEqDiff, reduceCtorEq, Nat.add_eq_left, Nat.left_eq_add, Nat.reduceEqDiff, q10, q_ne, true_or, or_true, show ((2 : Int32) < 3) = True from eq_true (by decide)]
  simp only [drF, drX, List.foldl_cons, List.foldl_nil]
theorem c_drawF (h : Hx g) (he : hf_n g < 1000000) (hW : Wv g I) (hc : I 2 5 = nI c) (hc2 : c ≤ 64) (hs : I 2 4 = nI s) (h1 : 0 ≤ i) (h2 : 0 ≤ j ∧ j ≤ 1000) (ha : I 0 6 = 1) : hf_rn 112 0 [some (.ref 0), some (.int i), some (.int j)] [] g I J = some (.inl (some (.int (drF c s j (i.toInt64, J)).1.toInt32)), g, I, (drF c s j (i.toInt64, J)).2) := by
  have hna := c_needAge (I := I) (J := J) h
  rw [if_pos ha] at hna
  have hd := c_drawR (i := i) (pw := j) (J := J) h hW hc hc2 hs
  simp only [s112_0, s112_1, s112_4, s112_5, s112_6, s112_9, s112_12, s112_13, s112_16, s112_17, s112_18, s112_19, s112_22, hf_bd_v, hf_bd_n, hf_iv_i, hf_iv_l, hf_iv_a, hf_iv_n, hf_iv_2, z_lgl, z_lgg, z_lge, z_lgle, z_lgz, Option.getD_some, Option.isSome_some, ↓reduceIte, not_true_eq_false, not_false_eq_true, Option.toList_some, Option.toList_none, List.cons_append, List.nil_append, Nat.reduceAdd, Nat.add_assoc, ku_ne, ku_same, ne_eq, Nat.reduceEqDiff, reduceCtorEq, Nat.add_eq_left, Nat.left_eq_add, Nat.reduceEqDiff, q10, q_ne, true_or, or_true, h.1, c_needNot0, if_pos h1, c_needRange he, if_pos h2, hna, hd]
theorem c_drawX2 (h : Hx g) (he : hf_n g < 1000000) (h1 : 0 ≤ i) (h2 : 0 ≤ j ∧ j ≤ 1000) (ha : ¬ I 0 6 = 1) : hf_rn 112 0 [some (.ref 0), some (.int i), some (.int j)] [] g I J = some (.inr 2, hf_th g, I, J) := by
  have hna := c_needAge (I := I) (J := J) h
  rw [if_neg ha] at hna
  simp only [s112_0, s112_1, s112_4, s112_5, s112_6, s112_9, s112_12, s112_13, s112_16, s112_17, s112_18, s112_19, s112_22, hf_bd_v, hf_bd_n, hf_iv_i, hf_iv_l, hf_iv_a, hf_iv_n, hf_iv_2, z_lgl, z_lgg, z_lge, z_lgle, z_lgz, Option.getD_some, Option.isSome_some, ↓reduceIte, not_true_eq_false, not_false_eq_true, Option.toList_some, Option.toList_none, List.cons_append, List.nil_append, Nat.reduceAdd, Nat.add_assoc, ku_ne, ku_same, ne_eq, Nat.reduceEqDiff, reduceCtorEq, Nat.add_eq_left, Nat.left_eq_add, Nat.reduceEqDiff, q10, q_ne, true_or, or_true, h.1, c_needNot0, if_pos h1, c_needRange he, if_pos h2, hna, hf_bdx hh_112]
theorem c_drawX1 (h : Hx g) (he : hf_n g < 1000000) (h1 : ¬ (0 ≤ i ∧ 0 ≤ j ∧ j ≤ 1000)) : hf_rn 112 0 [some (.ref 0), some (.int i), some (.int j)] [] g I J = some (.inr 1, hf_th g, I, J) := by
  by_cases h2 : 0 ≤ i
  · have h3 : ¬ (0 ≤ j ∧ j ≤ 1000) := fun c => h1 ⟨h2, c⟩
    simp only [s112_0, s112_1, s112_4, s112_5, s112_6, s112_9, s112_12, s112_13, s112_16, s112_17, s112_18, s112_19, s112_22, hf_bd_v, hf_bd_n, hf_iv_i, hf_iv_l, hf_iv_a, hf_iv_n, hf_iv_2, z_lgl, z_lgg, z_lge, z_lgle, z_lgz, Option.getD_some, Option.isSome_some, ↓reduceIte, not_true_eq_false, not_false_eq_true, Option.toList_some, Option.toList_none, List.cons_append, List.nil_append, Nat.reduceAdd, Nat.add_assoc, ku_ne, ku_same, ne_eq, Nat.reduceEqDiff, reduceCtorEq, Nat.add_eq_left, Nat.left_eq_add, Nat.reduceEqDiff, q10, q_ne, true_or, or_true, h.1, c_needNot0, if_pos h2, c_needRange he, if_neg h3, hf_bdx hh_112]
  · simp only [s112_0, s112_1, s112_4, s112_5, s112_6, s112_9, s112_12, s112_13, s112_16, s112_17, s112_18, s112_19, s112_22, hf_bd_v, hf_bd_n, hf_iv_i, hf_iv_l, hf_iv_a, hf_iv_n, hf_iv_2, z_lgl, z_lgg, z_lge, z_lgle, z_lgz, Option.getD_some, Option.isSome_some, ↓reduceIte, not_true_eq_false, not_false_eq_true, Option.toList_some, Option.toList_none, List.cons_append, List.nil_append, Nat.reduceAdd, Nat.add_assoc, ku_ne, ku_same, ne_eq, Nat.reduceEqDiff, reduceCtorEq, Nat.add_eq_left, Nat.left_eq_add, Nat.reduceEqDiff, q10, q_ne, true_or, or_true, h.1, c_needNot0, if_neg h2, hf_bdx hh_112]
/-- all forces as they are found -/
def faJ (J : hf_J) (c : Nat) : hf_J := w2 J 240 242 (fr0 c (prX (J 238 0) (J 238 1) (J 4) (J 6)) (zeR J 240 64)) (fr0 c (prY (J 238 0) (J 238 1) (J 4) (J 6)) (zeR J 242 64))
theorem c_fa (h : Hx g) (hp : Pu g) (hc : I 2 5 = nI c) (hc2 : c ≤ 64) : hf_rn 53 0 [some (.ref 238), some (.ref 2), none] [] g I J = some (.inl none, g, I, faJ J c) := c_findAll hp (sc_gr1 (hx_sc1 h)) (by decide) hc hc2
theorem c_forceAX (h : Hx g) (hp : Pu g) (hc : I 2 5 = nI c) (hc2 : c ≤ 64) (hk : k < c) : hf_rn 115 0 [some (.ref 0), some (.int (nI k)), some (.int 1), some (.int 0)] [] g I J = some (.inl (some (.long (faJ J c 240 k))), g, I, faJ J c) := by
  have hS : Sc g 1 := hx_sc1 h
  have hG : Gr g 2 := sc_gr1 hS
  have f : hf_r g 1 0 = some 2 := sc_r0 hS
  have hfa := c_fa (J := J) h hp hc hc2
  have hr := pu_rw239 hp
  simp only [s115_0, s115_1, s115_4, s115_5, s115_6, s115_9, s115_12, s115_15, s115_18, s115_28, s115_29, s115_32, s115_33, s115_36, s115_37, s115_40, s115_43, s115_44, s115_45, s115_48, s115_49, s115_50, s115_53, s115_54, s115_57, s115_60, s115_63, s115_64, s115_67, s115_68, s115_71, s115_72, s115_75, hf_bd_v, hf_bd_n, hf_iv_i, hf_iv_l, hf_iv_a, hf_iv_n, hf_iv_2, z_lgl, z_lgg, z_lge, z_lgle, z_lgz, Option.getD_some, Option.isSome_some, ↓reduceIte, not_true_eq_false, not_false_eq_true, Option.toList_some, Option.toList_none, List.cons_append, List.nil_append, Nat.reduceAdd, Nat.add_assoc, ku_ne, ku_same, ne_eq, Nat.reduceEqDiff, reduceCtorEq, Nat.add_eq_left, Nat.left_eq_add, Nat.reduceEqDiff, q10, q_ne, true_or, or_true, hx_k h, hx_r0 h, hx_r1 h, hx_r2 h, hx_r3 h, hx_r4 h, hx_r5 h, h.1, hS.1, hG.1, f, hp.1, hc, z_i0 (show k < 2147483648 by omega), z_il (show k < 2147483648 by omega) (show c < 2147483648 by omega), hk, hfa, c_foundX hp, hr.1, c_get hr (show k < 64 by omega)]
theorem c_forceCX (h : Hx g) (hp : Pu g) (hc : I 2 5 = nI c) (hc2 : c ≤ 64) (hk : k < c) (cl : Nat → Nat) (hcl : ∀ m, m < c → cl m < 16 ∧ clL (J 4) (J 6) m = nI (cl m)) : hf_rn 115 0 [some (.ref 0), some (.int (nI k)), some (.int 1), some (.int 1)] [] g I J = some (.inl (some (.long (bclX J 2 c k cl))), g, I, w3 J 244 246 248 (cs1 c (neL (J 4) (J 6) k) cl (fun _ => 1) (zeR J 244 16)) (cs1 c (neL (J 4) (J 6) k) cl (fun m => rmL (J 4 m) 1024) (zeR J 246 16)) (cs1 c (neL (J 4) (J 6) k) cl (fun m => rmL (J 6 m) 1024) (zeR J 248 16))) := by
  have hS : Sc g 1 := hx_sc1 h
  have hG : Gr g 2 := sc_gr1 hS
  have f : hf_r g 1 0 = some 2 := sc_r0 hS
  have hb := c_byCellsX (J := J) hp hG (by decide) hc hc2 (show k < 64 by omega) cl hcl
  simp only [s115_0, s115_1, s115_4, s115_5, s115_6, s115_9, s115_12, s115_15, s115_18, s115_28, s115_29, s115_32, s115_33, s115_36, s115_37, s115_40, s115_43, s115_44, s115_45, s115_48, s115_49, s115_50, s115_53, s115_54, s115_57, s115_60, s115_63, s115_64, s115_67, s115_68, s115_71, s115_72, s115_75, hf_bd_v, hf_bd_n, hf_iv_i, hf_iv_l, hf_iv_a, hf_iv_n, hf_iv_2, z_lgl, z_lgg, z_lge, z_lgle, z_lgz, Option.getD_some, Option.isSome_some, ↓reduceIte, not_true_eq_false, not_false_eq_true, Option.toList_some, Option.toList_none, List.cons_append, List.nil_append, Nat.reduceAdd, Nat.add_assoc, ku_ne, ku_same, ne_eq, Nat.reduceEqDiff, reduceCtorEq, Nat.add_eq_left, Nat.left_eq_add, Nat.reduceEqDiff, q10, q_ne, true_or, or_true, hx_k h, hx_r0 h, hx_r1 h, hx_r2 h, hx_r3 h, hx_r4 h, hx_r5 h, h.1, hS.1, hG.1, f, hp.1, hc, z_i0 (show k < 2147483648 by omega), z_il (show k < 2147483648 by omega) (show c < 2147483648 by omega), hk, hb]
theorem c_forceAY (h : Hx g) (hp : Pu g) (hc : I 2 5 = nI c) (hc2 : c ≤ 64) (hk : k < c) : hf_rn 115 0 [some (.ref 0), some (.int (nI k)), some (.int 0), some (.int 0)] [] g I J = some (.inl (some (.long (faJ J c 242 k))), g, I, faJ J c) := by
  have hS : Sc g 1 := hx_sc1 h
  have hG : Gr g 2 := sc_gr1 hS
  have f : hf_r g 1 0 = some 2 := sc_r0 hS
  have hfa := c_fa (J := J) h hp hc hc2
  have hr := pu_rw241 hp
  simp only [s115_0, s115_1, s115_4, s115_5, s115_6, s115_9, s115_12, s115_15, s115_18, s115_28, s115_29, s115_32, s115_33, s115_36, s115_37, s115_40, s115_43, s115_44, s115_45, s115_48, s115_49, s115_50, s115_53, s115_54, s115_57, s115_60, s115_63, s115_64, s115_67, s115_68, s115_71, s115_72, s115_75, hf_bd_v, hf_bd_n, hf_iv_i, hf_iv_l, hf_iv_a, hf_iv_n, hf_iv_2, z_lgl, z_lgg, z_lge, z_lgle, z_lgz, Option.getD_some, Option.isSome_some, ↓reduceIte, not_true_eq_false, not_false_eq_true, Option.toList_some, Option.toList_none, List.cons_append, List.nil_append, Nat.reduceAdd, Nat.add_assoc, ku_ne, ku_same, ne_eq, Nat.reduceEqDiff, reduceCtorEq, Nat.add_eq_left, Nat.left_eq_add, Nat.reduceEqDiff, q10, q_ne, true_or, or_true, hx_k h, hx_r0 h, hx_r1 h, hx_r2 h, hx_r3 h, hx_r4 h, hx_r5 h, h.1, hS.1, hG.1, f, hp.1, hc, z_i0 (show k < 2147483648 by omega), z_il (show k < 2147483648 by omega) (show c < 2147483648 by omega), hk, hfa, c_foundY hp, hr.1, c_get hr (show k < 64 by omega)]
theorem c_forceCY (h : Hx g) (hp : Pu g) (hc : I 2 5 = nI c) (hc2 : c ≤ 64) (hk : k < c) (cl : Nat → Nat) (hcl : ∀ m, m < c → cl m < 16 ∧ clL (J 4) (J 6) m = nI (cl m)) : hf_rn 115 0 [some (.ref 0), some (.int (nI k)), some (.int 0), some (.int 1)] [] g I J = some (.inl (some (.long (bclY J 2 c k cl))), g, I, w3 J 244 246 248 (cs1 c (neL (J 4) (J 6) k) cl (fun _ => 1) (zeR J 244 16)) (cs1 c (neL (J 4) (J 6) k) cl (fun m => rmL (J 4 m) 1024) (zeR J 246 16)) (cs1 c (neL (J 4) (J 6) k) cl (fun m => rmL (J 6 m) 1024) (zeR J 248 16))) := by
  have hS : Sc g 1 := hx_sc1 h
  have hG : Gr g 2 := sc_gr1 hS
  have f : hf_r g 1 0 = some 2 := sc_r0 hS
  have hb := c_byCellsY (J := J) hp hG (by decide) hc hc2 (show k < 64 by omega) cl hcl
  simp only [s115_0, s115_1, s115_4, s115_5, s115_6, s115_9, s115_12, s115_15, s115_18, s115_28, s115_29, s115_32, s115_33, s115_36, s115_37, s115_40, s115_43, s115_44, s115_45, s115_48, s115_49, s115_50, s115_53, s115_54, s115_57, s115_60, s115_63, s115_64, s115_67, s115_68, s115_71, s115_72, s115_75, hf_bd_v, hf_bd_n, hf_iv_i, hf_iv_l, hf_iv_a, hf_iv_n, hf_iv_2, z_lgl, z_lgg, z_lge, z_lgle, z_lgz, Option.getD_some, Option.isSome_some, ↓reduceIte, not_true_eq_false, not_false_eq_true, Option.toList_some, Option.toList_none, List.cons_append, List.nil_append, Nat.reduceAdd, Nat.add_assoc, ku_ne, ku_same, ne_eq, Nat.reduceEqDiff, reduceCtorEq, Nat.add_eq_left, Nat.left_eq_add, Nat.reduceEqDiff, q10, q_ne, true_or, or_true, hx_k h, hx_r0 h, hx_r1 h, hx_r2 h, hx_r3 h, hx_r4 h, hx_r5 h, h.1, hS.1, hG.1, f, hp.1, hc, z_i0 (show k < 2147483648 by omega), z_il (show k < 2147483648 by omega) (show c < 2147483648 by omega), hk, hb]
theorem c_forceX (h : Hx g) (hc : ¬ (0 ≤ i ∧ i < I 2 5)) : hf_rn 115 0 [some (.ref 0), some (.int i), some (.int x), some (.int y)] [] g I J = some (.inr 3, hf_th g, I, J) := by
  have hS : Sc g 1 := hx_sc1 h
  have hG : Gr g 2 := sc_gr1 hS
  have f : hf_r g 1 0 = some 2 := sc_r0 hS
  by_cases h1 : i < 0
  · simp only [s115_0, s115_1, s115_4, s115_5, s115_6, s115_9, s115_12, s115_15, s115_18, s115_28, s115_29, s115_32, s115_33, s115_36, s115_37, s115_40, s115_43, s115_44, s115_45, s115_48, s115_49, s115_50, s115_53, s115_54, s115_57, s115_60, s115_63, s115_64, s115_67, s115_68, s115_71, s115_72, s115_75, hf_bd_v, hf_bd_n, hf_iv_i, hf_iv_l, hf_iv_a, hf_iv_n, hf_iv_2, z_lgl, z_lgg, z_lge, z_lgle, z_lgz, Option.getD_some, Option.isSome_some, ↓reduceIte, not_true_eq_false, not_false_eq_true, Option.toList_some, Option.toList_none, List.cons_append, List.nil_append, Nat.reduceAdd, Nat.add_assoc, ku_ne, ku_same, ne_eq, Nat.reduceEqDiff, reduceCtorEq, Nat.add_eq_left, Nat.left_eq_add, Nat.reduceEqDiff, q10, q_ne, true_or, or_true, hx_k h, hx_r0 h, hx_r1 h, hx_r2 h, hx_r3 h, hx_r4 h, hx_r5 h, h.1, hS.1, hG.1, f, h1]
  · have h2 : ¬ i < I 2 5 := fun c => hc ⟨I_le h1, c⟩
    simp only [s115_0, s115_1, s115_4, s115_5, s115_6, s115_9, s115_12, s115_15, s115_18, s115_28, s115_29, s115_32, s115_33, s115_36, s115_37, s115_40, s115_43, s115_44, s115_45, s115_48, s115_49, s115_50, s115_53, s115_54, s115_57, s115_60, s115_63, s115_64, s115_67, s115_68, s115_71, s115_72, s115_75, hf_bd_v, hf_bd_n, hf_iv_i, hf_iv_l, hf_iv_a, hf_iv_n, hf_iv_2, z_lgl, z_lgg, z_lge, z_lgle, z_lgz, Option.getD_some, Option.isSome_some, ↓reduceIte, not_true_eq_false, not_false_eq_true, Option.toList_some, Option.toList_none, List.cons_append, List.nil_append, Nat.reduceAdd, Nat.add_assoc, ku_ne, ku_same, ne_eq, Nat.reduceEqDiff, reduceCtorEq, Nat.add_eq_left, Nat.left_eq_add, Nat.reduceEqDiff, q10, q_ne, true_or, or_true, hx_k h, hx_r0 h, hx_r1 h, hx_r2 h, hx_r3 h, hx_r4 h, hx_r5 h, h.1, hS.1, hG.1, f, h1, h2]
/-- one step -/
def haJ (J : hf_J) (c : Nat) : hf_J := rwm2 J 8 10 c (fun k => J 8 k + J 240 k) (fun k => J 10 k + J 242 k)
def mvJ (J : hf_J) (c : Nat) (i : Int32) : hf_J := rwm2 J 4 6 c (fun k => plc (J 4 k + by0 (J 8 k) (16 * i.toInt64))) (fun k => plc (J 6 k + by0 (J 10 k) (16 * i.toInt64)))
def spJ (J : hf_J) (c : Nat) (i : Int32) : hf_J := mvJ (haJ (faJ J c) c) c i
theorem c_onePass (h : Hx g) (hp : Pu g) (hc : I 2 5 = nI c) (hc2 : c ≤ 64) : hf_rn 139 0 [some (.ref 0)] [] g I J = some (.inl none, g, hf_u I 0 6 (I 0 6 + 1), spJ J c (I 0 6)) := by
  have hS : Sc g 1 := hx_sc1 h
  have hG : Gr g 2 := sc_gr1 hS
  have f : hf_r g 1 0 = some 2 := sc_r0 hS
  have hfa := c_fa (J := J) h hp hc hc2
  have hha : ∀ J : hf_J, hf_rn 26 0 [some (.ref 2), some (.ref 239), some (.ref 241), none] [] g I J = some (.inl none, g, I, haJ J c) := fun J => c_hasten hG hc hc2 (pu_rw239 hp) (pu_rw241 hp) (by decide)
  have hmv : ∀ (J : hf_J) i, hf_rn 27 0 [some (.ref 2), some (.int i), none, none, none] [] g I J = some (.inl none, g, I, mvJ J c i) := fun J i => c_move hG hc hc2
  simp only [s139_0, s139_1, s139_4, s139_5, s139_8, s139_11, s139_14, s139_15, s139_18, s139_21, s139_22, s139_25, s139_26, s139_29, s139_30, s139_33, s139_34, s139_37, s139_40, s139_41, s139_44, s139_47, s139_48, s139_51, s139_54, s139_55, s139_56, s139_59, s139_60, s139_61, s139_64, hf_bd_v, hf_bd_n, hf_iv_i, hf_iv_l, hf_iv_a, hf_iv_n, hf_iv_2, z_lgl, z_lgg, z_lge, z_lgle, z_lgz, Option.getD_some, Option.isSome_some, ↓reduceIte, not_true_eq_false, not_false_eq_true, Option.toList_some, Option.toList_none, List.cons_append, List.nil_append, Nat.reduceAdd, Nat.add_assoc, ku_ne, ku_same, ne_eq, Nat.reduceEqDiff, reduceCtorEq, Nat.add_eq_left, Nat.left_eq_add, Nat.reduceEqDiff, q10, q_ne, true_or, or_true, hx_k h, hx_r0 h, hx_r1 h, hx_r2 h, hx_r3 h, hx_r4 h, hx_r5 h, h.1, hS.1, hG.1, f, hp.1, hfa, c_foundX hp, c_foundY hp, hha, hmv]
  rfl
def stJ (J : hf_J) (c a t : Nat) : hf_J := it t J fun k J => spJ J c (nI (a + k))
theorem c_stepF (h : Hx g) (he : hf_n g < 1000000) (hp : Pu g) (hc : I 2 5 = nI c) (hc2 : c ≤ 64) (ha : I 0 6 = nI a) (hm : 1 ≤ m ∧ m ≤ 20) (ham : a + m ≤ 1000) : hf_rn 116 0 [some (.ref 0), some (.int (nI m)), none] [] g I J = some (.inl (some (.int (nI (a + m)))), g, hf_u I 0 6 (nI (a + m)), stJ J c a m) := by
  have hm2 : (1 : Int32) ≤ nI m ∧ nI m ≤ 20 := ⟨by rw [show (1 : Int32) = nI 1 from rfl]; exact nI_le hm.1 (by omega), by rw [show (20 : Int32) = nI 20 from rfl]; exact nI_le hm.2 (by omega)⟩
  have hlt : ((1000 : Int32) < nI (a + m)) = False := by rw [show (1000 : Int32) = nI 1000 from rfl, z_il (by omega) (by omega)]; exact eq_false (by omega)
  have hle : (nI (a + m) ≤ 1000) = True := by rw [show (1000 : Int32) = nI 1000 from rfl, z_ii (by omega) (by omega)]; exact eq_true (by omega)
  have loop : hf_rn 116 31 [some (.ref 0), some (.int (nI m)), some (.int (nI 0))] [] g (hf_u I 0 6 (nI (a + 0))) J = some (.inl (some (.int (nI (a + m)))), g, hf_u I 0 6 (nI (a + m)), stJ J c a m) := by
    refine down (n := m) (s := J) (f := fun k J => spJ J c (nI (a + k))) (fun t J1 => hf_rn 116 31 [some (.ref 0), some (.int (nI m)), some (.int (nI t))] [] g (hf_u I 0 6 (nI (a + t))) J1 = some (.inl (some (.int (nI (a + m)))), g, hf_u I 0 6 (nI (a + m)), stJ J c a m)) ?_ ?_
    · simp only [s116_0, s116_1, s116_2, s116_4, s116_7, s116_8, s116_11, s116_12, s116_13, s116_16, s116_19, s116_29, s116_30, s116_31, s116_32, s116_33, s116_36, s116_37, s116_40, s116_46, s116_47, s116_50, hf_bd_v, hf_bd_n, hf_iv_i, hf_iv_l, hf_iv_a, hf_iv_n, hf_iv_2, z_lgl, z_lgg, z_lge, z_lgle, z_lgz, Option.getD_some, Option.isSome_some, ↓reduceIte, not_true_eq_false, not_false_eq_true, Option.toList_some, Option.toList_none, List.cons_append, List.nil_append, Nat.reduceAdd, Nat.add_assoc, ku_ne, ku_same, ne_eq, Nat.reduceEqDiff, reduceCtorEq, Nat.add_eq_left, Nat.left_eq_add, Nat.reduceEqDiff, q10, q_ne, true_or, or_true, hx_k h, hx_r0 h, hx_r1 h, hx_r2 h, hx_r3 h, hx_r4 h, hx_r5 h, z_ii (show m < 2147483648 by omega) (show m < 2147483648 by omega), Nat.le_refl]
      rfl
    · intro t J1 ht hx ih
      have hk1 : ¬ m ≤ t := by omega
      have ho := c_onePass (I := hf_u I 0 6 (nI (a + t))) (J := J1) h hp (by rw [ku_ne (by decide), hc]) hc2
      rw [ku_same, ku_ku] at ho
      simp only [s116_31, s116_32, s116_33, s116_36, s116_37, s116_40, hf_bd_v, hf_bd_n, hf_iv_i, hf_iv_l, hf_iv_a, hf_iv_n, hf_iv_2, z_lgl, z_lgg, z_lge, z_lgle, z_lgz, Option.getD_some, Option.isSome_some, ↓reduceIte, not_true_eq_false, not_false_eq_true, Option.toList_some, Option.toList_none, List.cons_append, List.nil_append, Nat.reduceAdd, Nat.add_assoc, ku_ne, ku_same, ne_eq, Nat.reduceEqDiff, reduceCtorEq, Nat.add_eq_left, Nat.left_eq_add, Nat.reduceEqDiff, q10, q_ne, true_or, or_true, h.1, z_ii (show m < 2147483648 by omega) (show t < 2147483648 by omega), hk1, z_1, ho]
      rw [s116_43]
      exact ih
  have e0 : hf_u I 0 6 (nI (a + 0)) = I := by
    rw [Nat.add_zero, ← ha]
    funext y z
    unfold hf_u
    split
    · rename_i e; rw [e.1, e.2]
    · rfl
  rw [e0] at loop
  simp only [s116_0, s116_1, s116_2, s116_4, s116_7, s116_8, s116_11, s116_12, s116_13, s116_16, s116_19, s116_29, s116_30, hf_bd_v, hf_bd_n, hf_iv_i, hf_iv_l, hf_iv_a, hf_iv_n, hf_iv_2, z_lgl, z_lgg, z_lge, z_lgle, z_lgz, Option.getD_some, Option.isSome_some, ↓reduceIte, not_true_eq_false, not_false_eq_true, Option.toList_some, Option.toList_none, List.cons_append, List.nil_append, Nat.reduceAdd, Nat.add_assoc, ku_ne, ku_same, ne_eq, Nat.reduceEqDiff, reduceCtorEq, Nat.add_eq_left, Nat.left_eq_add, Nat.reduceEqDiff, q10, q_ne, true_or, or_true, hx_k h, hx_r0 h, hx_r1 h, hx_r2 h, hx_r3 h, hx_r4 h, hx_r5 h, h.1, c_needRange he, if_pos hm2, ha, nI_add, hlt, hle]
  exact loop
theorem c_stepX1 (h : Hx g) (he : hf_n g < 1000000) (hm : ¬ (1 ≤ i ∧ i ≤ 20)) : hf_rn 116 0 [some (.ref 0), some (.int i), none] [] g I J = some (.inr 1, hf_th g, I, J) := by
  simp only [s116_0, s116_1, s116_2, s116_4, s116_7, s116_8, s116_11, s116_12, s116_13, s116_16, s116_19, s116_29, s116_30, s116_31, s116_32, s116_33, s116_36, s116_37, s116_40, s116_43, s116_46, s116_47, s116_50, hf_bd_v, hf_bd_n, hf_iv_i, hf_iv_l, hf_iv_a, hf_iv_n, hf_iv_2, z_lgl, z_lgg, z_lge, z_lgle, z_lgz, Option.getD_some, Option.isSome_some, ↓reduceIte, not_true_eq_false, not_false_eq_true, Option.toList_some, Option.toList_none, List.cons_append, List.nil_append, Nat.reduceAdd, Nat.add_assoc, ku_ne, ku_same, ne_eq, Nat.reduceEqDiff, reduceCtorEq, Nat.add_eq_left, Nat.left_eq_add, Nat.reduceEqDiff, q10, q_ne, true_or, or_true, hx_k h, hx_r0 h, hx_r1 h, hx_r2 h, hx_r3 h, hx_r4 h, hx_r5 h, h.1, c_needRange he, if_neg hm, hf_bdx hh_116]
theorem c_stepX2 (h : Hx g) (he : hf_n g < 1000000) (ha : I 0 6 = nI a) (hm : 1 ≤ m ∧ m ≤ 20) (ham : 1000 < a + m) (ha2 : a ≤ 1000) : hf_rn 116 0 [some (.ref 0), some (.int (nI m)), none] [] g I J = some (.inr 2, hf_th g, I, J) := by
  have hm2 : (1 : Int32) ≤ nI m ∧ nI m ≤ 20 := ⟨by rw [show (1 : Int32) = nI 1 from rfl]; exact nI_le hm.1 (by omega), by rw [show (20 : Int32) = nI 20 from rfl]; exact nI_le hm.2 (by omega)⟩
  have hlt : ((1000 : Int32) < nI (a + m)) = True := by rw [show (1000 : Int32) = nI 1000 from rfl, z_il (by omega) (by omega)]; exact eq_true (by omega)
  have hle : (nI (a + m) ≤ 1000) = False := by rw [show (1000 : Int32) = nI 1000 from rfl, z_ii (by omega) (by omega)]; exact eq_false (by omega)
  simp only [s116_0, s116_1, s116_2, s116_4, s116_7, s116_8, s116_11, s116_12, s116_13, s116_16, s116_19, s116_29, s116_30, s116_31, s116_32, s116_33, s116_36, s116_37, s116_40, s116_43, s116_46, s116_47, s116_50, hf_bd_v, hf_bd_n, hf_iv_i, hf_iv_l, hf_iv_a, hf_iv_n, hf_iv_2, z_lgl, z_lgg, z_lge, z_lgle, z_lgz, Option.getD_some, Option.isSome_some, ↓reduceIte, not_true_eq_false, not_false_eq_true, Option.toList_some, Option.toList_none, List.cons_append, List.nil_append, Nat.reduceAdd, Nat.add_assoc, ku_ne, ku_same, ne_eq, Nat.reduceEqDiff, reduceCtorEq, Nat.add_eq_left, Nat.left_eq_add, Nat.reduceEqDiff, q10, q_ne, true_or, or_true, hx_k h, hx_r0 h, hx_r1 h, hx_r2 h, hx_r3 h, hx_r4 h, hx_r5 h, h.1, c_needRange he, if_pos hm2, ha, nI_add, hlt, hle]
end
